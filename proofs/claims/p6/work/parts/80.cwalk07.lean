set_option maxHeartbeats 4000000 in
set_option maxRecDepth 100000 in
theorem pw_X7_readText_0 {v : cwE} {bd : cBd} {p : Program} {l : Launch} {e : Env} {s : State} {m : MethodId} {args : Array Value} {below : List Frame} {meth : Method} {c : Code} {d : Nat} {rec : Nat → CS → List Int → CO} {σ0 σ' : CS} {kd : Nat} {r : Int} (hbd : bd = cw_bd v) (hR : cw_Rec l v d rec) (htr : l.stackTraces = false) (hd5 : 5 ≤ d) (B : cw_B v RX7 p s m args meth c cX7_readText 4 (some (.object "java/util/List"))) (hnh : ∀ x ∈ c.exceptionTable.toList, False) : ∀ (σ : CS) (x0 x1 : Int), inR x0 → inR x1 → pc_X7_readText_0 rec bd σ x0 x1 = some (σ', kd, r) → ∀ (H : Heap) (locs : List Loc) (cells slots : Nat) (ls : Array Slot), cw_W v s σ0 σ H locs cells slots → cl_has ls 4 [(0, cR x0), (1, .int (rI x1))] → W p l e (cw_rm v (d + 1) σ0) s m args below meth c H locs cells slots (cw_Z below v σ0 σ' kd (some (cR r)) args s) (F0 m 0 ls []) := by
  subst hbd
  obtain ⟨hx, hb, hr, hml, hown, hts, hlk, hK⟩ := id B
  intro σ x0 x1 ix0 ix1 hf H locs cells slots ls hw hl
  unfold pc_X7_readText_0 at hf
  refine cl_aload_n hx hb dX7_readText_0 rfl (lv_at hl.1 0 rfl) ?_
  refine lv_iload_n hx hb dX7_readText_1 rfl (lv_at hl.1 1 rfl) ?_
  refine cl_aload_n hx hb dX7_readText_2 rfl (lv_at hl.1 0 rfl) ?_
  obtain ⟨z1, ez1, iz1, rz1, hf⟩ := cc_g_s hw hf
  refine cw_get (val := cR z1) B hw rz1 ⟨by decide, by decide⟩ (by decide) cwi_8 cfl_X7_30 ez1 rfl dX7_readText_3 ?_
  obtain ⟨z2, ez2, iz2, rz2, hf⟩ := cc_l_s hf
  refine cw_len B hw rz2 (by decide) ez2 iz2 dX7_readText_6 ?_
  obtain ⟨σ3, z5, hσ3, hf⟩ := cc_cn_s hf
  obtain ⟨iz5, mσ3⟩ := hR 7 σ [x1, z2] σ3 0 z5 hσ3
  have mσ3 : cw_Met l v yJ9_min_7cf53 cJ9_min_7cf53 2 (some .int) d [.int (rI x1), .int (rI z2)] σ σ3 0 (some (.int (rI z5))) := mσ3 ix1 iz2
  refine cw_cs (n := 2) (rest := [cR x0]) (As := [.int (rI x1), .int (rI z2)]) B mσ3 cgo_yJ9_min_7cf53 cml_X7_48 cst_yJ9_min_7cf53 (by decide +kernel) (by decide) rfl hl.1.1 (cl_cs (cl_1r cl_10) (Nat.le_of_ble_eq_true rfl)) dX7_readText_7 rfl hw (fun h0 H locs cells slots hw => ?_) (fun h0 H locs cells slots q ce hw h1 h2 h3 => ?_)
  · skip
    obtain ⟨σ6, eσ6, rσ6, hf⟩ := cc_p_s hf
    refine cw_put B hw rσ6 cwt_8 (by decide) rfl cfl_X7_9 iz5 eσ6 rfl (cw_fv_n rfl rfl) dX7_readText_10 (fun H locs hw => ?_)
    refine cl_aload_n hx hb dX7_readText_13 rfl (lv_at hl.1 0 rfl) ?_
    obtain ⟨qσ7, hf⟩ := cc_t_s hf
    obtain ⟨σ7, kv8, z9, hσ7, hf⟩ := cc_cl_s hf
    obtain ⟨iz9, mσ7⟩ := hR 129 σ6 [x0] σ7 kv8 z9 hσ7
    have mσ7 : cw_Met l v yX7_scan cX7_scan 3 none d [cR x0] σ6 σ7 kv8 none := mσ7 ix0
    refine cw_cv (b := x0) (t := 8) (n := 0) (rest := []) (As := []) B mσ7 qσ7 ⟨by decide, by decide⟩ cgo_yX7_scan cml_X7_54 cin_yX7_scan cse_yX7_scan (by decide +kernel) (by decide) rfl hl.1.1 (Nat.le_of_ble_eq_true rfl) dX7_readText_14 rfl hw (fun h0 H locs cells slots hw => ?_) (fun h0 H locs cells slots q ce hw h1 h2 h3 => ?_)
    · rcases hf with ⟨-, hf⟩ | ⟨hk, -⟩
      · skip
        refine cl_aload_n hx hb dX7_readText_17 rfl (lv_at hl.1 0 rfl) ?_
        refine lv_iconst (v := rI 0) hx hb dX7_readText_18 rfl ?_
        obtain ⟨σ10, eσ10, rσ10, hf⟩ := cc_p_s hf
        refine cw_put B hw rσ10 cwt_8 (by decide) rfl cfl_X7_15 ⟨by decide, by decide⟩ eσ10 rfl (cw_fv_n rfl rfl) dX7_readText_19 (fun H locs hw => ?_)
        obtain ⟨σ11, z12, eσ11, ez12, iz12, rσ11, hf⟩ := cc_n_s hf
        refine cw_new B hw cwt_13 rfl cwd_13 cnl_X7_57 cni_13 cnz_13 rσ11 eσ11 ez12 dX7_readText_22 (fun H hw => ?_)
        refine lv_dup hx hb dX7_readText_25 (cR_cat _) ?_
        obtain ⟨qσ13, hf⟩ := cc_t_s hf
        obtain ⟨σ13, z15, hσ13, hf⟩ := cc_ci_s hf
        obtain ⟨iz15, mσ13⟩ := hR 14 σ11 [z12] σ13 0 z15 hσ13
        have mσ13 : cw_Met l v yJx4a65c_init_da8c8 cJx4a65c_init_da8c8 1 none d [cR z12] σ11 σ13 0 none := mσ13 iz12
        refine cw_ci (b := z12) (n := 0) (rest := [cR z12]) (As := []) B mσ13 qσ13.1 rfl cgo_yJx4a65c_init_da8c8 cml_X7_59 cin_yJx4a65c_init_da8c8 (by decide +kernel) (by decide) rfl hl.1.1 (cl_cs (cl_1r cl_10) (Nat.le_of_ble_eq_true rfl)) dX7_readText_26 rfl hw (fun H locs cells slots hw => ?_)
        refine cl_astore_n (lv' := [(2, cR z12), (0, cR x0), (1, .int (rI x1))]) hx hb dX7_readText_29 rfl hl (by decide) rfl (fun ls hl => ?_)
        refine cl_aload_n hx hb dX7_readText_30 rfl (lv_at hl.1 1 rfl) ?_
        obtain ⟨qσ16, hf⟩ := cc_t_s hf
        obtain ⟨σ16, kv17, z18, hσ16, hf⟩ := cc_cl_s hf
        obtain ⟨iz18, mσ16⟩ := hR 111 σ13 [x0] σ16 kv17 z18 hσ16
        have mσ16 : cw_Met l v yX7_advance cX7_advance 1 none d [cR x0] σ13 σ16 kv17 none := mσ16 ix0
        refine cw_cv (b := x0) (t := 8) (n := 0) (rest := []) (As := []) B mσ16 qσ16 ⟨by decide, by decide⟩ cgo_yX7_advance cml_X7_60 cin_yX7_advance cse_yX7_advance (by decide +kernel) (by decide) rfl hl.1.1 (Nat.le_of_ble_eq_true rfl) dX7_readText_31 rfl hw (fun h0 H locs cells slots hw => ?_) (fun h0 H locs cells slots q ce hw h1 h2 h3 => ?_)
        · rcases hf with ⟨-, hf⟩ | ⟨hk, -⟩
          · skip
            refine lv_iconst (v := rI 0) hx hb dX7_readText_34 rfl ?_
            refine cl_istore_n (lv' := [(3, .int (rI 0)), (2, cR z12), (0, cR x0), (1, .int (rI x1))]) hx hb dX7_readText_35 rfl hl (by decide) rfl (fun ls hl => ?_)
            exact pw_X7_readText_36 rfl hR htr hd5 B hnh 2000000 σ16 x0 z12 0 ix0 iz12 ⟨by decide, by decide⟩ hf _ _ _ _ _ hw (cl_sub hl [2, 1, 0] rfl)
          · exact absurd h0 hk
        · rcases hf with ⟨hk, -⟩ | ⟨-, hf⟩
          · exact absurd hk h0
          · cases hf
            exact cw_xout B hnh h0 hw h1 h2 h3
      · exact absurd h0 hk
    · rcases hf with ⟨hk, -⟩ | ⟨-, hf⟩
      · exact absurd hk h0
      · cases hf
        exact cw_xout B hnh h0 hw h1 h2 h3
  · exact absurd rfl h0

set_option maxHeartbeats 4000000 in
set_option maxRecDepth 100000 in
theorem pm_X7_readText {v : cwE} {bd : cBd} {l : Launch} {d : Nat} {rec : Nat → CS → List Int → CO} (hbd : bd = cw_bd v) (hR : cw_Rec l v d rec) (htr : l.stackTraces = false) (hd5 : 5 ≤ d) (σ σ' : CS) (x0 x1 : Int) (kd : Nat) (r : Int) (ix0 : inR x0) (ix1 : inR x1) (hf : pc_X7_readText_0 rec bd σ x0 x1 = some (σ', kd, r)) : cw_Met l v yX7_readText cX7_readText 4 (some (.object "java/util/List")) (d + 1) [cR x0, .int (rI x1)] σ σ' kd (some (cR r)) := by
  refine cw_ofW (by decide +kernel) ?_
  intro p e s m args below meth c s₁ B hml hv
  obtain ⟨rfl, hM, hK⟩ := hv
  have hts := atoms_spec (ws := Cond.code yX7_readText cX7_readText 4 (some (.object "java/util/List")) :: cw_bw) B.pre
  have hB : cw_B v RX7 p s m _ meth c cX7_readText 4 (some (.object "java/util/List")) := ⟨B.exec, B.bytes, B.returns, hml, findClass_of_methodNamed B.named, fun w h => hts w (List.mem_cons_of_mem _ h), B.notSynchronized, hK⟩
  have hnh := cc_nh B (hts _ List.mem_cons_self)
  rw [lg_entry_eq]
  obtain ⟨ls, hls, hl⟩ := cl_ent [cR x0, .int (rI x1)] 4 (cl_1r (cl_1i cl_10)) (Nat.le_of_ble_eq_true rfl)
  rw [hls]
  exact pw_X7_readText_0 hbd hR htr hd5 hB hnh σ x0 x1 ix0 ix1 hf _ _ _ _ _ (cw_W0 hM) (cl_sub hl [0, 1] rfl)

set_option maxHeartbeats 4000000 in
set_option maxRecDepth 100000 in
theorem pw_X7_use_74 {v : cwE} {bd : cBd} {p : Program} {l : Launch} {e : Env} {s : State} {m : MethodId} {args : Array Value} {below : List Frame} {meth : Method} {c : Code} {d : Nat} {rec : Nat → CS → List Int → CO} {σ0 σ' : CS} {kd : Nat} {r : Int} (hbd : bd = cw_bd v) (hR : cw_Rec l v d rec) (htr : l.stackTraces = false) (hd5 : 5 ≤ d) (B : cw_B v RX7 p s m args meth c cX7_use 6 (some (.object "PureHouse$Node"))) (hnh : ∀ x ∈ c.exceptionTable.toList, False) : ∀ (n : Nat) (σ : CS) (x2 x3 x4 x5 : Int), inR x2 → inR x3 → inR x4 → inR x5 → pc_X7_use_74 rec bd n σ x2 x3 x4 x5 = some (σ', kd, r) → ∀ (H : Heap) (locs : List Loc) (cells slots : Nat) (ls : Array Slot), cw_W v s σ0 σ H locs cells slots → cl_has ls 6 [(2, cR x2), (3, cR x3), (4, cR x4), (5, .int (rI x5))] → W p l e (cw_rm v (d + 1) σ0) s m args below meth c H locs cells slots (cw_Z below v σ0 σ' kd (some (cR r)) args s) (F0 m 74 ls []) := by
  subst hbd
  obtain ⟨hx, hb, hr, hml, hown, hts, hlk, hK⟩ := id B
  intro n
  induction n with
  | zero => intro σ x2 x3 x4 x5 ix2 ix3 ix4 ix5 hf; cases hf
  | succ n ih =>
    intro σ x2 x3 x4 x5 ix2 ix3 ix4 ix5 hf H locs cells slots ls hw hl
    unfold pc_X7_use_74 at hf
    refine lv_iload hx hb dX7_use_74 (lv_at hl.1 3 rfl) ?_
    refine cl_aload hx hb dX7_use_76 (lv_at hl.1 2 rfl) ?_
    obtain ⟨z1, ez1, iz1, rz1, hf⟩ := cc_l_s hf
    refine cw_len B hw rz1 (by decide) ez1 iz1 dX7_use_78 ?_
    refine rn_icmp_ge (a := x5) (b := z1) (tgt := 104) hx hb ix5 iz1 dX7_use_79 (by decide) (fun c2 => ?_) (fun c2 => ?_)
    · replace hf := cc_if_t hf c2
      refine cl_aload_n hx hb dX7_use_104 rfl (lv_at hl.1 0 rfl) ?_
      refine cl_aload hx hb dX7_use_105 (lv_at hl.1 2 rfl) ?_
      obtain ⟨σ3, kv4, z5, hσ3, hf⟩ := cc_cl_s hf
      obtain ⟨iz5, mσ3⟩ := hR 110 σ [x2, x4] σ3 kv4 z5 hσ3
      have mσ3 : cw_Met l v yX6_use cX6_use 3 (some (.object "PureHouse$Node")) d [cR x2, cR x4] σ σ3 kv4 (some (cR z5)) := mσ3 ix2 ix4
      refine cw_cs (n := 2) (rest := []) (As := [cR x2, cR x4]) B mσ3 cgo_yX6_use cml_X7_157 cst_yX6_use (by decide +kernel) (by decide) rfl hl.1.1 (Nat.le_of_ble_eq_true rfl) dX7_use_107 rfl hw (fun h0 H locs cells slots hw => ?_) (fun h0 H locs cells slots q ce hw h1 h2 h3 => ?_)
      · rcases hf with ⟨-, hf⟩ | ⟨hk, -⟩
        · skip
          exact cw_reta B hf hw dX7_use_110
        · exact absurd h0 hk
      · rcases hf with ⟨hk, -⟩ | ⟨-, hf⟩
        · exact absurd hk h0
        · cases hf
          exact cw_xout B hnh h0 hw h1 h2 h3
    · replace hf := cc_if_f hf c2
      refine cl_aload hx hb dX7_use_82 (lv_at hl.1 2 rfl) ?_
      refine lv_iload hx hb dX7_use_84 (lv_at hl.1 3 rfl) ?_
      refine cl_aload_n hx hb dX7_use_86 rfl (lv_at hl.1 1 rfl) ?_
      refine lv_iload hx hb dX7_use_87 (lv_at hl.1 3 rfl) ?_
      obtain ⟨qσ6, hf⟩ := cc_t_s hf
      obtain ⟨σ6, z8, hσ6, hf⟩ := cc_cn_s hf
      obtain ⟨iz8, mσ6⟩ := hR 11 σ [x3, x5] σ6 0 z8 hσ6
      have mσ6 : cw_Met l v yJx4a65c_get_915e3 cJx4a65c_get_915e3 2 (some (.object "java/lang/Object")) d [cR x3, .int (rI x5)] σ σ6 0 (some (cR z8)) := mσ6 ix3 ix5
      refine cw_cf (b := x3) (n := 1) (rest := [.int (rI x5), cR x4]) (As := [.int (rI x5)]) B mσ6 qσ6 cgo_yJx4a65c_get_915e3 cfm_X7_153 cin_yJx4a65c_get_915e3 cfs_yJx4a65c_get_915e3 (cw_face_get hK) (by decide +kernel) (by decide) rfl hl.1.1 (cl_cs (cl_1i (cl_1r cl_10)) (Nat.le_of_ble_eq_true rfl)) dX7_use_89 rfl hw (fun H locs cells slots hw => ?_)
      obtain ⟨q9, hf⟩ := cc_t_s hf
      refine cw_cast B hw q9 ⟨by decide, by decide⟩ ccl_X7_122 dX7_use_94 ?_
      obtain ⟨qσ10, hf⟩ := cc_tn_s hf
      obtain ⟨σ10, eσ10, rσ10, bσ10, hf⟩ := cc_w_s hf
      refine cw_astR B hw rσ10 ix5 bσ10 iz8 qσ10 eσ10 dX7_use_97 (fun H locs hw => ?_)
      obtain ⟨z11, ez11, iz11, hf⟩ := cc_ck_s hf
      refine cl_iinc (v := rI z11) (lv' := [(5, .int (rI z11)), (2, cR x2), (3, cR x3), (4, cR x4)]) hx hb dX7_use_98 hl (k := 3) rfl (by rw [ez11]; exact rI_add _ _) (by decide) rfl (fun ls hl => ?_)
      refine lv_goto (tgt := 74) hx hb dX7_use_101 (by decide) ?_
      exact ih σ10 x2 x3 x4 z11 ix2 ix3 ix4 iz11 hf _ _ _ _ _ hw (cl_sub hl [1, 2, 3, 0] rfl)

set_option maxHeartbeats 4000000 in
set_option maxRecDepth 100000 in
theorem pw_X7_use_60 {v : cwE} {bd : cBd} {p : Program} {l : Launch} {e : Env} {s : State} {m : MethodId} {args : Array Value} {below : List Frame} {meth : Method} {c : Code} {d : Nat} {rec : Nat → CS → List Int → CO} {σ0 σ' : CS} {kd : Nat} {r : Int} (hbd : bd = cw_bd v) (hR : cw_Rec l v d rec) (htr : l.stackTraces = false) (hd5 : 5 ≤ d) (B : cw_B v RX7 p s m args meth c cX7_use 6 (some (.object "PureHouse$Node"))) (hnh : ∀ x ∈ c.exceptionTable.toList, False) : ∀ (σ : CS) (x2 x3 : Int), inR x2 → inR x3 → pc_X7_use_60 rec bd σ x2 x3 = some (σ', kd, r) → ∀ (H : Heap) (locs : List Loc) (cells slots : Nat) (ls : Array Slot), cw_W v s σ0 σ H locs cells slots → cl_has ls 6 [(2, cR x2), (3, cR x3)] → W p l e (cw_rm v (d + 1) σ0) s m args below meth c H locs cells slots (cw_Z below v σ0 σ' kd (some (cR r)) args s) (F0 m 60 ls []) := by
  subst hbd
  obtain ⟨hx, hb, hr, hml, hown, hts, hlk, hK⟩ := id B
  intro σ x2 x3 ix2 ix3 hf H locs cells slots ls hw hl
  unfold pc_X7_use_60 at hf
  refine cl_aload_n hx hb dX7_use_60 rfl (lv_at hl.1 1 rfl) ?_
  obtain ⟨qσ1, hf⟩ := cc_t_s hf
  obtain ⟨σ1, z3, hσ1, hf⟩ := cc_cn_s hf
  obtain ⟨iz3, mσ1⟩ := hR 15 σ [x3] σ1 0 z3 hσ1
  have mσ1 : cw_Met l v yJx4a65c_size_8abf5 cJx4a65c_size_8abf5 1 (some .int) d [cR x3] σ σ1 0 (some (.int (rI z3))) := mσ1 ix3
  refine cw_cf (b := x3) (n := 0) (rest := []) (As := []) B mσ1 qσ1 cgo_yJx4a65c_size_8abf5 cfm_X7_150 cin_yJx4a65c_size_8abf5 cfs_yJx4a65c_size_8abf5 (cw_face_size hK) (by decide +kernel) (by decide) rfl hl.1.1 (Nat.le_of_ble_eq_true rfl) dX7_use_61 rfl hw (fun H locs cells slots hw => ?_)
  obtain ⟨σ4, z5, eσ4, ez5, iz5, qσ4, rσ4, hf⟩ := cc_na_s hf
  refine cw_anew (t := 22) B hw (Or.inl ⟨rfl, rfl⟩) ccl_X7_122 iz3 qσ4.1 qσ4.2 rσ4 eσ4 ez5 dX7_use_66 (fun H hw => ?_)
  refine cl_astore (lv' := [(4, cR z5), (2, cR x2), (3, cR x3)]) hx hb dX7_use_69 hl (by decide) rfl (fun ls hl => ?_)
  refine lv_iconst (v := rI 0) hx hb dX7_use_71 rfl ?_
  refine cl_istore (lv' := [(5, .int (rI 0)), (4, cR z5), (2, cR x2), (3, cR x3)]) hx hb dX7_use_72 hl (by decide) rfl (fun ls hl => ?_)
  exact pw_X7_use_74 rfl hR htr hd5 B hnh 2000000 σ4 x2 x3 z5 0 ix2 ix3 iz5 ⟨by decide, by decide⟩ hf _ _ _ _ _ hw (cl_sub hl [2, 3, 1, 0] rfl)

set_option maxHeartbeats 4000000 in
set_option maxRecDepth 100000 in
theorem pw_X7_use_26 {v : cwE} {bd : cBd} {p : Program} {l : Launch} {e : Env} {s : State} {m : MethodId} {args : Array Value} {below : List Frame} {meth : Method} {c : Code} {d : Nat} {rec : Nat → CS → List Int → CO} {σ0 σ' : CS} {kd : Nat} {r : Int} (hbd : bd = cw_bd v) (hR : cw_Rec l v d rec) (htr : l.stackTraces = false) (hd5 : 5 ≤ d) (B : cw_B v RX7 p s m args meth c cX7_use 6 (some (.object "PureHouse$Node"))) (hnh : ∀ x ∈ c.exceptionTable.toList, False) : ∀ (n : Nat) (σ : CS) (x0 x1 x2 x3 x4 : Int), inR x0 → inR x1 → inR x2 → inR x3 → inR x4 → pc_X7_use_26 rec bd n σ x0 x1 x2 x3 x4 = some (σ', kd, r) → ∀ (H : Heap) (locs : List Loc) (cells slots : Nat) (ls : Array Slot), cw_W v s σ0 σ H locs cells slots → cl_has ls 6 [(0, cR x0), (1, .int (rI x1)), (2, cR x2), (3, cR x3), (4, .int (rI x4))] → W p l e (cw_rm v (d + 1) σ0) s m args below meth c H locs cells slots (cw_Z below v σ0 σ' kd (some (cR r)) args s) (F0 m 26 ls []) := by
  subst hbd
  obtain ⟨hx, hb, hr, hml, hown, hts, hlk, hK⟩ := id B
  intro n
  induction n with
  | zero => intro σ x0 x1 x2 x3 x4 ix0 ix1 ix2 ix3 ix4 hf; cases hf
  | succ n ih =>
    intro σ x0 x1 x2 x3 x4 ix0 ix1 ix2 ix3 ix4 hf H locs cells slots ls hw hl
    unfold pc_X7_use_26 at hf
    refine lv_iload hx hb dX7_use_26 (lv_at hl.1 4 rfl) ?_
    refine cl_aload_n hx hb dX7_use_28 rfl (lv_at hl.1 0 rfl) ?_
    obtain ⟨z1, ez1, iz1, rz1, hf⟩ := cc_g_s hw hf
    refine cw_get (val := .int (rI z1)) B hw rz1 ⟨by decide, by decide⟩ (by decide) cwi_8 cfl_X7_9 ez1 rfl dX7_use_29 ?_
    refine rn_icmp_ge (a := x4) (b := z1) (tgt := 60) hx hb ix4 iz1 dX7_use_32 (by decide) (fun c2 => ?_) (fun c2 => ?_)
    · replace hf := cc_if_t hf c2
      exact pw_X7_use_60 rfl hR htr hd5 B hnh σ x2 x3 ix2 ix3 hf _ _ _ _ _ hw (cl_sub hl [2, 3] rfl)
    · replace hf := cc_if_f hf c2
      refine cl_aload_n hx hb dX7_use_35 rfl (lv_at hl.1 0 rfl) ?_
      obtain ⟨qσ3, hf⟩ := cc_t_s hf
      obtain ⟨σ3, kv4, z5, hσ3, hf⟩ := cc_cl_s hf
      obtain ⟨iz5, mσ3⟩ := hR 113 σ [x0] σ3 kv4 z5 hσ3
      have mσ3 : cw_Met l v yX7_atomBegins cX7_atomBegins 1 (some .boolean) d [cR x0] σ σ3 kv4 (some (.int (rI z5))) := mσ3 ix0
      refine cw_cv (b := x0) (t := 8) (n := 0) (rest := []) (As := []) B mσ3 qσ3 ⟨by decide, by decide⟩ cgo_yX7_atomBegins cml_X7_146 cin_yX7_atomBegins cse_yX7_atomBegins (by decide +kernel) (by decide) rfl hl.1.1 (Nat.le_of_ble_eq_true rfl) dX7_use_36 rfl hw (fun h0 H locs cells slots hw => ?_) (fun h0 H locs cells slots q ce hw h1 h2 h3 => ?_)
      · rcases hf with ⟨-, hf⟩ | ⟨hk, -⟩
        · skip
          refine rn_if_eq (a := z5) (tgt := 60) hx hb iz5 dX7_use_39 (by decide) (fun c6 => ?_) (fun c6 => ?_)
          · replace hf := cc_if_t hf c6
            exact pw_X7_use_60 rfl hR htr hd5 B hnh σ3 x2 x3 ix2 ix3 hf _ _ _ _ _ hw (cl_sub hl [2, 3] rfl)
          · replace hf := cc_if_f hf c6
            refine cl_aload_n hx hb dX7_use_42 rfl (lv_at hl.1 3 rfl) ?_
            refine cl_aload_n hx hb dX7_use_43 rfl (lv_at hl.1 0 rfl) ?_
            refine lv_iload_n hx hb dX7_use_44 rfl (lv_at hl.1 1 rfl) ?_
            obtain ⟨qσ7, hf⟩ := cc_t_s hf
            obtain ⟨σ7, kv8, z9, hσ7, hf⟩ := cc_cl_s hf
            obtain ⟨iz9, mσ7⟩ := hR 112 σ3 [x0, x1] σ7 kv8 z9 hσ7
            have mσ7 : cw_Met l v yX7_atom cX7_atom 4 (some (.object "PureHouse$Node")) d [cR x0, .int (rI x1)] σ3 σ7 kv8 (some (cR z9)) := mσ7 ix0 ix1
            refine cw_cv (b := x0) (t := 8) (n := 1) (rest := [cR x3]) (As := [.int (rI x1)]) B mσ7 qσ7 ⟨by decide, by decide⟩ cgo_yX7_atom cml_X7_143 cin_yX7_atom cse_yX7_atom (by decide +kernel) (by decide) rfl hl.1.1 (cl_cs (cl_1r cl_10) (Nat.le_of_ble_eq_true rfl)) dX7_use_45 rfl hw (fun h0 H locs cells slots hw => ?_) (fun h0 H locs cells slots q ce hw h1 h2 h3 => ?_)
            · rcases hf with ⟨-, hf⟩ | ⟨hk, -⟩
              · skip
                obtain ⟨qσ10, hf⟩ := cc_t_s hf
                obtain ⟨σ10, z12, hσ10, hf⟩ := cc_cn_s hf
                obtain ⟨iz12, mσ10⟩ := hR 9 σ7 [x3, z9] σ10 0 z12 hσ10
                have mσ10 : cw_Met l v yJx4a65c_add_9ea2d cJx4a65c_add_9ea2d 2 (some .boolean) d [cR x3, cR z9] σ7 σ10 0 (some (.int (rI z12))) := mσ10 ix3 iz9
                refine cw_cf (b := x3) (n := 1) (rest := []) (As := [cR z9]) B mσ10 qσ10 cgo_yJx4a65c_add_9ea2d cfm_X7_67 cin_yJx4a65c_add_9ea2d cfs_yJx4a65c_add_9ea2d (cw_face_add hK) (by decide +kernel) (by decide) rfl hl.1.1 (Nat.le_of_ble_eq_true rfl) dX7_use_48 rfl hw (fun H locs cells slots hw => ?_)
                refine lv_pop hx hb dX7_use_53 rfl ?_
                obtain ⟨z13, ez13, iz13, hf⟩ := cc_ck_s hf
                refine cl_iinc (v := rI z13) (lv' := [(4, .int (rI z13)), (0, cR x0), (1, .int (rI x1)), (2, cR x2), (3, cR x3)]) hx hb dX7_use_54 hl (k := 4) rfl (by rw [ez13]; exact rI_add _ _) (by decide) rfl (fun ls hl => ?_)
                refine lv_goto (tgt := 26) hx hb dX7_use_57 (by decide) ?_
                exact ih σ10 x0 x1 x2 x3 z13 ix0 ix1 ix2 ix3 iz13 hf _ _ _ _ _ hw (cl_sub hl [1, 2, 3, 4, 0] rfl)
              · exact absurd h0 hk
            · rcases hf with ⟨hk, -⟩ | ⟨-, hf⟩
              · exact absurd hk h0
              · cases hf
                exact cw_xout B hnh h0 hw h1 h2 h3
        · exact absurd h0 hk
      · rcases hf with ⟨hk, -⟩ | ⟨-, hf⟩
        · exact absurd hk h0
        · cases hf
          exact cw_xout B hnh h0 hw h1 h2 h3

set_option maxHeartbeats 4000000 in
set_option maxRecDepth 100000 in
theorem pw_X7_use_0 {v : cwE} {bd : cBd} {p : Program} {l : Launch} {e : Env} {s : State} {m : MethodId} {args : Array Value} {below : List Frame} {meth : Method} {c : Code} {d : Nat} {rec : Nat → CS → List Int → CO} {σ0 σ' : CS} {kd : Nat} {r : Int} (hbd : bd = cw_bd v) (hR : cw_Rec l v d rec) (htr : l.stackTraces = false) (hd5 : 5 ≤ d) (B : cw_B v RX7 p s m args meth c cX7_use 6 (some (.object "PureHouse$Node"))) (hnh : ∀ x ∈ c.exceptionTable.toList, False) : ∀ (σ : CS) (x0 x1 : Int), inR x0 → inR x1 → pc_X7_use_0 rec bd σ x0 x1 = some (σ', kd, r) → ∀ (H : Heap) (locs : List Loc) (cells slots : Nat) (ls : Array Slot), cw_W v s σ0 σ H locs cells slots → cl_has ls 6 [(0, cR x0), (1, .int (rI x1))] → W p l e (cw_rm v (d + 1) σ0) s m args below meth c H locs cells slots (cw_Z below v σ0 σ' kd (some (cR r)) args s) (F0 m 0 ls []) := by
  subst hbd
  obtain ⟨hx, hb, hr, hml, hown, hts, hlk, hK⟩ := id B
  intro σ x0 x1 ix0 ix1 hf H locs cells slots ls hw hl
  unfold pc_X7_use_0 at hf
  refine cl_aload_n hx hb dX7_use_0 rfl (lv_at hl.1 0 rfl) ?_
  refine lv_iload_n hx hb dX7_use_1 rfl (lv_at hl.1 1 rfl) ?_
  obtain ⟨qσ1, hf⟩ := cc_t_s hf
  obtain ⟨σ1, kv2, z3, hσ1, hf⟩ := cc_cl_s hf
  obtain ⟨iz3, mσ1⟩ := hR 112 σ [x0, x1] σ1 kv2 z3 hσ1
  have mσ1 : cw_Met l v yX7_atom cX7_atom 4 (some (.object "PureHouse$Node")) d [cR x0, .int (rI x1)] σ σ1 kv2 (some (cR z3)) := mσ1 ix0 ix1
  refine cw_cv (b := x0) (t := 8) (n := 1) (rest := []) (As := [.int (rI x1)]) B mσ1 qσ1 ⟨by decide, by decide⟩ cgo_yX7_atom cml_X7_143 cin_yX7_atom cse_yX7_atom (by decide +kernel) (by decide) rfl hl.1.1 (Nat.le_of_ble_eq_true rfl) dX7_use_2 rfl hw (fun h0 H locs cells slots hw => ?_) (fun h0 H locs cells slots q ce hw h1 h2 h3 => ?_)
  · rcases hf with ⟨-, hf⟩ | ⟨hk, -⟩
    · skip
      refine cl_astore_n (lv' := [(2, cR z3), (0, cR x0), (1, .int (rI x1))]) hx hb dX7_use_5 rfl hl (by decide) rfl (fun ls hl => ?_)
      refine cl_aload_n hx hb dX7_use_6 rfl (lv_at hl.1 1 rfl) ?_
      obtain ⟨qσ4, hf⟩ := cc_t_s hf
      obtain ⟨σ4, kv5, z6, hσ4, hf⟩ := cc_cl_s hf
      obtain ⟨iz6, mσ4⟩ := hR 113 σ1 [x0] σ4 kv5 z6 hσ4
      have mσ4 : cw_Met l v yX7_atomBegins cX7_atomBegins 1 (some .boolean) d [cR x0] σ1 σ4 kv5 (some (.int (rI z6))) := mσ4 ix0
      refine cw_cv (b := x0) (t := 8) (n := 0) (rest := []) (As := []) B mσ4 qσ4 ⟨by decide, by decide⟩ cgo_yX7_atomBegins cml_X7_146 cin_yX7_atomBegins cse_yX7_atomBegins (by decide +kernel) (by decide) rfl hl.1.1 (Nat.le_of_ble_eq_true rfl) dX7_use_7 rfl hw (fun h0 H locs cells slots hw => ?_) (fun h0 H locs cells slots q ce hw h1 h2 h3 => ?_)
      · rcases hf with ⟨-, hf⟩ | ⟨hk, -⟩
        · skip
          refine rn_if_ne (a := z6) (tgt := 15) hx hb iz6 dX7_use_10 (by decide) (fun c7 => ?_) (fun c7 => ?_)
          · replace hf := cc_if_t hf c7
            obtain ⟨σ8, z9, eσ8, ez9, iz9, rσ8, hf⟩ := cc_n_s hf
            refine cw_new B hw cwt_13 rfl cwd_13 cnl_X7_57 cni_13 cnz_13 rσ8 eσ8 ez9 dX7_use_15 (fun H hw => ?_)
            refine lv_dup hx hb dX7_use_18 (cR_cat _) ?_
            obtain ⟨qσ10, hf⟩ := cc_t_s hf
            obtain ⟨σ10, z12, hσ10, hf⟩ := cc_ci_s hf
            obtain ⟨iz12, mσ10⟩ := hR 14 σ8 [z9] σ10 0 z12 hσ10
            have mσ10 : cw_Met l v yJx4a65c_init_da8c8 cJx4a65c_init_da8c8 1 none d [cR z9] σ8 σ10 0 none := mσ10 iz9
            refine cw_ci (b := z9) (n := 0) (rest := [cR z9]) (As := []) B mσ10 qσ10.1 rfl cgo_yJx4a65c_init_da8c8 cml_X7_59 cin_yJx4a65c_init_da8c8 (by decide +kernel) (by decide) rfl hl.1.1 (cl_cs (cl_1r cl_10) (Nat.le_of_ble_eq_true rfl)) dX7_use_19 rfl hw (fun H locs cells slots hw => ?_)
            refine cl_astore_n (lv' := [(3, cR z9), (2, cR z3), (0, cR x0), (1, .int (rI x1))]) hx hb dX7_use_22 rfl hl (by decide) rfl (fun ls hl => ?_)
            refine lv_iconst (v := rI 0) hx hb dX7_use_23 rfl ?_
            refine cl_istore (lv' := [(4, .int (rI 0)), (3, cR z9), (2, cR z3), (0, cR x0), (1, .int (rI x1))]) hx hb dX7_use_24 hl (by decide) rfl (fun ls hl => ?_)
            exact pw_X7_use_26 rfl hR htr hd5 B hnh 2000000 σ10 x0 x1 z3 z9 0 ix0 ix1 iz3 iz9 ⟨by decide, by decide⟩ hf _ _ _ _ _ hw (cl_sub hl [3, 4, 2, 1, 0] rfl)
          · replace hf := cc_if_f hf c7
            refine cl_aload_n hx hb dX7_use_13 rfl (lv_at hl.1 0 rfl) ?_
            exact cw_reta B hf hw dX7_use_14
        · exact absurd h0 hk
      · rcases hf with ⟨hk, -⟩ | ⟨-, hf⟩
        · exact absurd hk h0
        · cases hf
          exact cw_xout B hnh h0 hw h1 h2 h3
    · exact absurd h0 hk
  · rcases hf with ⟨hk, -⟩ | ⟨-, hf⟩
    · exact absurd hk h0
    · cases hf
      exact cw_xout B hnh h0 hw h1 h2 h3

set_option maxHeartbeats 4000000 in
set_option maxRecDepth 100000 in
theorem pm_X7_use {v : cwE} {bd : cBd} {l : Launch} {d : Nat} {rec : Nat → CS → List Int → CO} (hbd : bd = cw_bd v) (hR : cw_Rec l v d rec) (htr : l.stackTraces = false) (hd5 : 5 ≤ d) (σ σ' : CS) (x0 x1 : Int) (kd : Nat) (r : Int) (ix0 : inR x0) (ix1 : inR x1) (hf : pc_X7_use_0 rec bd σ x0 x1 = some (σ', kd, r)) : cw_Met l v yX7_use cX7_use 6 (some (.object "PureHouse$Node")) (d + 1) [cR x0, .int (rI x1)] σ σ' kd (some (cR r)) := by
  refine cw_ofW (by decide +kernel) ?_
  intro p e s m args below meth c s₁ B hml hv
  obtain ⟨rfl, hM, hK⟩ := hv
  have hts := atoms_spec (ws := Cond.code yX7_use cX7_use 6 (some (.object "PureHouse$Node")) :: cw_bw) B.pre
  have hB : cw_B v RX7 p s m _ meth c cX7_use 6 (some (.object "PureHouse$Node")) := ⟨B.exec, B.bytes, B.returns, hml, findClass_of_methodNamed B.named, fun w h => hts w (List.mem_cons_of_mem _ h), B.notSynchronized, hK⟩
  have hnh := cc_nh B (hts _ List.mem_cons_self)
  rw [lg_entry_eq]
  obtain ⟨ls, hls, hl⟩ := cl_ent [cR x0, .int (rI x1)] 6 (cl_1r (cl_1i cl_10)) (Nat.le_of_ble_eq_true rfl)
  rw [hls]
  exact pw_X7_use_0 hbd hR htr hd5 hB hnh σ x0 x1 ix0 ix1 hf _ _ _ _ _ (cw_W0 hM) (cl_sub hl [0, 1] rfl)

