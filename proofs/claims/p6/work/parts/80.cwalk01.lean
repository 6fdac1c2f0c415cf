set_option maxHeartbeats 4000000 in
set_option maxRecDepth 100000 in
theorem pw_X2_judgeName_0 {v : cwE} {bd : Nat × Nat} {p : Program} {l : Launch} {e : Env} {s : State} {m : MethodId} {args : Array Value} {below : List Frame} {meth : Method} {c : Code} {d : Nat} {rec : Nat → CS → List Int → CO} {σ0 σ' : CS} {kd : Nat} {r : Int} (hbd : bd = (v.2.2.1, v.2.2.2.1)) (hR : cw_Rec l v d rec) (htr : l.stackTraces = false) (hd5 : 5 ≤ d) (B : cw_B v RX2 p s m args meth c cX2_judgeName 6 (some (.object "PureHouse$Node"))) (hnh : ∀ x ∈ c.exceptionTable.toList, False) : ∀ (σ : CS) (x0 x1 x2 : Int), inR x0 → inR x1 → inR x2 → pc_X2_judgeName_0 rec bd σ x0 x1 x2 = some (σ', kd, r) → ∀ (H : Heap) (locs : List Loc) (cells slots : Nat) (ls : Array Slot), cw_W v s σ0 σ H locs cells slots → cl_has ls 6 [(0, cR x0), (1, cR x1), (2, cR x2)] → W p l e (cw_rm v (d + 1) σ0) s m args below meth c H locs cells slots (cw_Z below v σ0 σ' kd (some (cR r)) args s) (F0 m 0 ls []) := by
  subst hbd
  obtain ⟨hx, hb, hr, hml, hown, hts, hlk, hK⟩ := id B
  intro σ x0 x1 x2 ix0 ix1 ix2 hf H locs cells slots ls hw hl
  unfold pc_X2_judgeName_0 at hf
  refine cl_aload_n hx hb dX2_judgeName_0 rfl (lv_at hl.1 2 rfl) ?_
  refine cl_astore_n (lv' := [(3, cR x2), (0, cR x0), (1, cR x1), (2, cR x2)]) hx hb dX2_judgeName_1 rfl hl (by decide) rfl (fun ls hl => ?_)
  exact pw_X2_judgeName_2 rfl hR htr hd5 B hnh 1100000 σ x0 x1 x2 ix0 ix1 ix2 hf _ _ _ _ _ hw (cl_sub hl [1, 2, 0] rfl)

set_option maxHeartbeats 4000000 in
set_option maxRecDepth 100000 in
theorem pm_X2_judgeName {v : cwE} {bd : Nat × Nat} {l : Launch} {d : Nat} {rec : Nat → CS → List Int → CO} (hbd : bd = (v.2.2.1, v.2.2.2.1)) (hR : cw_Rec l v d rec) (htr : l.stackTraces = false) (hd5 : 5 ≤ d) (σ σ' : CS) (x0 x1 x2 : Int) (kd : Nat) (r : Int) (ix0 : inR x0) (ix1 : inR x1) (ix2 : inR x2) (hf : pc_X2_judgeName_0 rec bd σ x0 x1 x2 = some (σ', kd, r)) : cw_Met l v yX2_judgeName cX2_judgeName 6 (some (.object "PureHouse$Node")) (d + 1) [cR x0, cR x1, cR x2] σ σ' kd (some (cR r)) := by
  refine cw_ofW (by decide +kernel) ?_
  intro p e s m args below meth c s₁ B hml hv
  obtain ⟨rfl, hM, hK⟩ := hv
  have hts := atoms_spec (ws := Cond.code yX2_judgeName cX2_judgeName 6 (some (.object "PureHouse$Node")) :: cw_bw) B.pre
  have hB : cw_B v RX2 p s m _ meth c cX2_judgeName 6 (some (.object "PureHouse$Node")) := ⟨B.exec, B.bytes, B.returns, hml, findClass_of_methodNamed B.named, fun w h => hts w (List.mem_cons_of_mem _ h), B.notSynchronized, hK⟩
  have hnh := cc_nh B (hts _ List.mem_cons_self)
  rw [lg_entry_eq]
  obtain ⟨ls, hls, hl⟩ := cl_ent [cR x0, cR x1, cR x2] 6 (cl_1r (cl_1r (cl_1r cl_10))) (Nat.le_of_ble_eq_true rfl)
  rw [hls]
  exact pw_X2_judgeName_0 hbd hR htr hd5 hB hnh σ x0 x1 x2 ix0 ix1 ix2 hf _ _ _ _ _ (cw_W0 hM) (cl_sub hl [0, 1, 2] rfl)

set_option maxHeartbeats 4000000 in
set_option maxRecDepth 100000 in
theorem pw_X2_needPart_0 {v : cwE} {bd : Nat × Nat} {p : Program} {l : Launch} {e : Env} {s : State} {m : MethodId} {args : Array Value} {below : List Frame} {meth : Method} {c : Code} {d : Nat} {rec : Nat → CS → List Int → CO} {σ0 σ' : CS} {kd : Nat} {r : Int} (hbd : bd = (v.2.2.1, v.2.2.2.1)) (hR : cw_Rec l v d rec) (htr : l.stackTraces = false) (hd5 : 5 ≤ d) (B : cw_B v RX2 p s m args meth c cX2_needPart 4 none) (hnh : ∀ x ∈ c.exceptionTable.toList, False) : ∀ (σ : CS) (x0 x1 x2 x3 : Int), inR x0 → inR x1 → inR x2 → inR x3 → pc_X2_needPart_0 rec bd σ x0 x1 x2 x3 = some (σ', kd, r) → ∀ (H : Heap) (locs : List Loc) (cells slots : Nat) (ls : Array Slot), cw_W v s σ0 σ H locs cells slots → cl_has ls 4 [(0, cR x0), (1, cR x1), (2, cR x2), (3, cR x3)] → W p l e (cw_rm v (d + 1) σ0) s m args below meth c H locs cells slots (cw_Z below v σ0 σ' kd none args s) (F0 m 0 ls []) := by
  subst hbd
  obtain ⟨hx, hb, hr, hml, hown, hts, hlk, hK⟩ := id B
  intro σ x0 x1 x2 x3 ix0 ix1 ix2 ix3 hf H locs cells slots ls hw hl
  unfold pc_X2_needPart_0 at hf
  refine cl_aload_n hx hb dX2_needPart_0 rfl (lv_at hl.1 0 rfl) ?_
  obtain ⟨z1, ez1, iz1, rz1, hf⟩ := cc_g_s hw hf
  refine cw_get (val := cR z1) B hw rz1 ⟨by decide, by decide⟩ (by decide) cwi_3 cfl_2_23 ez1 rfl dX2_needPart_1 ?_
  refine cl_aload_n hx hb dX2_needPart_4 rfl (lv_at hl.1 1 rfl) ?_
  obtain ⟨z2, ez2, iz2, rz2, hf⟩ := cc_g_s hw hf
  refine cw_get (val := cR z2) B hw rz2 ⟨by decide, by decide⟩ (by decide) cwi_7 cfl_2_39 ez2 rfl dX2_needPart_5 ?_
  refine cl_aload_n hx hb dX2_needPart_8 rfl (lv_at hl.1 2 rfl) ?_
  obtain ⟨qσ3, hf⟩ := cc_t_s hf
  obtain ⟨σ3, kv4, z5, hσ3, hf⟩ := cc_cl_s hf
  obtain ⟨iz5, mσ3⟩ := hR 32 σ [z1, z2, x2] σ3 kv4 z5 hσ3
  have mσ3 : cw_Met l v yX4_areSame cX4_areSame 3 (some .boolean) d [cR z1, cR z2, cR x2] σ σ3 kv4 (some (.int (rI z5))) := mσ3 iz1 iz2 ix2
  refine cw_cv (b := z1) (t := 5) (n := 2) (rest := []) (As := [cR z2, cR x2]) B mσ3 qσ3 ⟨by decide, by decide⟩ cgo_yX4_areSame cml_2_172 cin_yX4_areSame cse_yX4_areSame (by decide +kernel) (by decide) rfl hl.1.1 (Nat.le_of_ble_eq_true rfl) dX2_needPart_9 rfl hw (fun h0 H locs cells slots hw => ?_) (fun h0 H locs cells slots q ce hw h1 h2 h3 => ?_)
  · rcases hf with ⟨-, hf⟩ | ⟨hk, -⟩
    · skip
      refine rn_if_ne (a := z5) (tgt := 36) hx hb iz5 dX2_needPart_12 (by decide) (fun c6 => ?_) (fun c6 => ?_)
      · replace hf := cc_if_t hf c6
        exact cw_retv B hf hw dX2_needPart_36
      · replace hf := cc_if_f hf c6
        refine cl_aload_n hx hb dX2_needPart_15 rfl (lv_at hl.1 0 rfl) ?_
        obtain ⟨z7, ez7, iz7, rz7, hf⟩ := cc_g_s hw hf
        refine cw_get (val := cR z7) B hw rz7 ⟨by decide, by decide⟩ (by decide) cwi_3 cfl_2_27 ez7 rfl dX2_needPart_16 ?_
        refine lv_bipush (v := rI 11) hx hb dX2_needPart_19 (by decide +kernel) ?_
        refine cl_aload_n hx hb dX2_needPart_21 rfl (lv_at hl.1 3 rfl) ?_
        obtain ⟨z8, ez8, iz8, rz8, hf⟩ := cc_g_s hw hf
        refine cw_get (val := .int (rI z8)) B hw rz8 ⟨by decide, by decide⟩ (by decide) cwi_7 cfl_2_169 ez8 rfl dX2_needPart_22 ?_
        obtain ⟨qσ9, hf⟩ := cc_t_s hf
        obtain ⟨σ9, kv10, z11, hσ9, hf⟩ := cc_cl_s hf
        obtain ⟨iz11, mσ9⟩ := hR 95 σ3 [z7, 11, z8] σ9 kv10 z11 hσ9
        have mσ9 : cw_Met l v yX10_set cX10_set 3 none d [cR z7, .int (rI 11), .int (rI z8)] σ3 σ9 kv10 none := mσ9 iz7 ⟨by decide, by decide⟩ iz8
        refine cw_cv (b := z7) (t := 11) (n := 2) (rest := []) (As := [.int (rI 11), .int (rI z8)]) B mσ9 qσ9 ⟨by decide, by decide⟩ cgo_yX10_set cml_2_148 cin_yX10_set cse_yX10_set (by decide +kernel) (by decide) rfl hl.1.1 (Nat.le_of_ble_eq_true rfl) dX2_needPart_25 rfl hw (fun h0 H locs cells slots hw => ?_) (fun h0 H locs cells slots q ce hw h1 h2 h3 => ?_)
        · rcases hf with ⟨-, hf⟩ | ⟨hk, -⟩
          · skip
            obtain ⟨hy, hm⟩ := cc_x_s hf
            obtain ⟨hy1, hy2⟩ := Prod.mk.inj hy
            obtain ⟨hy2, hy3⟩ := Prod.mk.inj hy2
            subst hy2
            refine cw_throw (rest := []) B hnh htr hw (by decide) (by decide +kernel) cxc_2_154 cxi_1 (cw_hat cxa_2_156 (by decide +kernel) hts hK.1) (List.all_eq_true.mp cxg_2_156) hd5 hm hy1 hl.1.1 (Nat.le_of_ble_eq_true rfl) dX2_needPart_28 dX2_needPart_31 dX2_needPart_32 dX2_needPart_35
          · exact absurd h0 hk
        · rcases hf with ⟨hk, -⟩ | ⟨-, hf⟩
          · exact absurd hk h0
          · cases hf
            exact cw_xout B hnh h0 hw h1 h2 h3
    · exact absurd h0 hk
  · rcases hf with ⟨hk, -⟩ | ⟨-, hf⟩
    · exact absurd hk h0
    · cases hf
      exact cw_xout B hnh h0 hw h1 h2 h3

set_option maxHeartbeats 4000000 in
set_option maxRecDepth 100000 in
theorem pm_X2_needPart {v : cwE} {bd : Nat × Nat} {l : Launch} {d : Nat} {rec : Nat → CS → List Int → CO} (hbd : bd = (v.2.2.1, v.2.2.2.1)) (hR : cw_Rec l v d rec) (htr : l.stackTraces = false) (hd5 : 5 ≤ d) (σ σ' : CS) (x0 x1 x2 x3 : Int) (kd : Nat) (r : Int) (ix0 : inR x0) (ix1 : inR x1) (ix2 : inR x2) (ix3 : inR x3) (hf : pc_X2_needPart_0 rec bd σ x0 x1 x2 x3 = some (σ', kd, r)) : cw_Met l v yX2_needPart cX2_needPart 4 none (d + 1) [cR x0, cR x1, cR x2, cR x3] σ σ' kd none := by
  refine cw_ofW (by decide +kernel) ?_
  intro p e s m args below meth c s₁ B hml hv
  obtain ⟨rfl, hM, hK⟩ := hv
  have hts := atoms_spec (ws := Cond.code yX2_needPart cX2_needPart 4 none :: cw_bw) B.pre
  have hB : cw_B v RX2 p s m _ meth c cX2_needPart 4 none := ⟨B.exec, B.bytes, B.returns, hml, findClass_of_methodNamed B.named, fun w h => hts w (List.mem_cons_of_mem _ h), B.notSynchronized, hK⟩
  have hnh := cc_nh B (hts _ List.mem_cons_self)
  rw [lg_entry_eq]
  obtain ⟨ls, hls, hl⟩ := cl_ent [cR x0, cR x1, cR x2, cR x3] 4 (cl_1r (cl_1r (cl_1r (cl_1r cl_10)))) (Nat.le_of_ble_eq_true rfl)
  rw [hls]
  exact pw_X2_needPart_0 hbd hR htr hd5 hB hnh σ x0 x1 x2 x3 ix0 ix1 ix2 ix3 hf _ _ _ _ _ (cw_W0 hM) (cl_sub hl [0, 1, 2, 3] rfl)

set_option maxHeartbeats 4000000 in
set_option maxRecDepth 100000 in
theorem pw_X2_needProduct_0 {v : cwE} {bd : Nat × Nat} {p : Program} {l : Launch} {e : Env} {s : State} {m : MethodId} {args : Array Value} {below : List Frame} {meth : Method} {c : Code} {d : Nat} {rec : Nat → CS → List Int → CO} {σ0 σ' : CS} {kd : Nat} {r : Int} (hbd : bd = (v.2.2.1, v.2.2.2.1)) (hR : cw_Rec l v d rec) (htr : l.stackTraces = false) (hd5 : 5 ≤ d) (B : cw_B v RX2 p s m args meth c cX2_needProduct 3 none) (hnh : ∀ x ∈ c.exceptionTable.toList, False) : ∀ (σ : CS) (x0 x1 x2 : Int), inR x0 → inR x1 → inR x2 → pc_X2_needProduct_0 rec bd σ x0 x1 x2 = some (σ', kd, r) → ∀ (H : Heap) (locs : List Loc) (cells slots : Nat) (ls : Array Slot), cw_W v s σ0 σ H locs cells slots → cl_has ls 3 [(0, cR x0), (1, cR x1), (2, cR x2)] → W p l e (cw_rm v (d + 1) σ0) s m args below meth c H locs cells slots (cw_Z below v σ0 σ' kd none args s) (F0 m 0 ls []) := by
  subst hbd
  obtain ⟨hx, hb, hr, hml, hown, hts, hlk, hK⟩ := id B
  intro σ x0 x1 x2 ix0 ix1 ix2 hf H locs cells slots ls hw hl
  unfold pc_X2_needProduct_0 at hf
  refine cl_aload_n hx hb dX2_needProduct_0 rfl (lv_at hl.1 1 rfl) ?_
  obtain ⟨z1, ez1, iz1, rz1, hf⟩ := cc_g_s hw hf
  refine cw_get (val := .int (rI z1)) B hw rz1 ⟨by decide, by decide⟩ (by decide) cwi_7 cfl_2_48 ez1 rfl dX2_needProduct_1 ?_
  refine lv_iconst (v := rI 5) hx hb dX2_needProduct_4 rfl ?_
  refine rn_icmp_eq (a := z1) (b := 5) (tgt := 29) hx hb iz1 ⟨by decide, by decide⟩ dX2_needProduct_5 (by decide) (fun c2 => ?_) (fun c2 => ?_)
  · replace hf := cc_if_t hf c2
    exact cw_retv B hf hw dX2_needProduct_29
  · replace hf := cc_if_f hf c2
    refine cl_aload_n hx hb dX2_needProduct_8 rfl (lv_at hl.1 0 rfl) ?_
    obtain ⟨z3, ez3, iz3, rz3, hf⟩ := cc_g_s hw hf
    refine cw_get (val := cR z3) B hw rz3 ⟨by decide, by decide⟩ (by decide) cwi_3 cfl_2_27 ez3 rfl dX2_needProduct_9 ?_
    refine lv_bipush (v := rI 10) hx hb dX2_needProduct_12 (by decide +kernel) ?_
    refine cl_aload_n hx hb dX2_needProduct_14 rfl (lv_at hl.1 2 rfl) ?_
    obtain ⟨z4, ez4, iz4, rz4, hf⟩ := cc_g_s hw hf
    refine cw_get (val := .int (rI z4)) B hw rz4 ⟨by decide, by decide⟩ (by decide) cwi_7 cfl_2_169 ez4 rfl dX2_needProduct_15 ?_
    obtain ⟨qσ5, hf⟩ := cc_t_s hf
    obtain ⟨σ5, kv6, z7, hσ5, hf⟩ := cc_cl_s hf
    obtain ⟨iz7, mσ5⟩ := hR 95 σ [z3, 10, z4] σ5 kv6 z7 hσ5
    have mσ5 : cw_Met l v yX10_set cX10_set 3 none d [cR z3, .int (rI 10), .int (rI z4)] σ σ5 kv6 none := mσ5 iz3 ⟨by decide, by decide⟩ iz4
    refine cw_cv (b := z3) (t := 11) (n := 2) (rest := []) (As := [.int (rI 10), .int (rI z4)]) B mσ5 qσ5 ⟨by decide, by decide⟩ cgo_yX10_set cml_2_148 cin_yX10_set cse_yX10_set (by decide +kernel) (by decide) rfl hl.1.1 (Nat.le_of_ble_eq_true rfl) dX2_needProduct_18 rfl hw (fun h0 H locs cells slots hw => ?_) (fun h0 H locs cells slots q ce hw h1 h2 h3 => ?_)
    · rcases hf with ⟨-, hf⟩ | ⟨hk, -⟩
      · skip
        obtain ⟨hy, hm⟩ := cc_x_s hf
        obtain ⟨hy1, hy2⟩ := Prod.mk.inj hy
        obtain ⟨hy2, hy3⟩ := Prod.mk.inj hy2
        subst hy2
        refine cw_throw (rest := []) B hnh htr hw (by decide) (by decide +kernel) cxc_2_154 cxi_1 (cw_hat cxa_2_156 (by decide +kernel) hts hK.1) (List.all_eq_true.mp cxg_2_156) hd5 hm hy1 hl.1.1 (Nat.le_of_ble_eq_true rfl) dX2_needProduct_21 dX2_needProduct_24 dX2_needProduct_25 dX2_needProduct_28
      · exact absurd h0 hk
    · rcases hf with ⟨hk, -⟩ | ⟨-, hf⟩
      · exact absurd hk h0
      · cases hf
        exact cw_xout B hnh h0 hw h1 h2 h3

set_option maxHeartbeats 4000000 in
set_option maxRecDepth 100000 in
theorem pm_X2_needProduct {v : cwE} {bd : Nat × Nat} {l : Launch} {d : Nat} {rec : Nat → CS → List Int → CO} (hbd : bd = (v.2.2.1, v.2.2.2.1)) (hR : cw_Rec l v d rec) (htr : l.stackTraces = false) (hd5 : 5 ≤ d) (σ σ' : CS) (x0 x1 x2 : Int) (kd : Nat) (r : Int) (ix0 : inR x0) (ix1 : inR x1) (ix2 : inR x2) (hf : pc_X2_needProduct_0 rec bd σ x0 x1 x2 = some (σ', kd, r)) : cw_Met l v yX2_needProduct cX2_needProduct 3 none (d + 1) [cR x0, cR x1, cR x2] σ σ' kd none := by
  refine cw_ofW (by decide +kernel) ?_
  intro p e s m args below meth c s₁ B hml hv
  obtain ⟨rfl, hM, hK⟩ := hv
  have hts := atoms_spec (ws := Cond.code yX2_needProduct cX2_needProduct 3 none :: cw_bw) B.pre
  have hB : cw_B v RX2 p s m _ meth c cX2_needProduct 3 none := ⟨B.exec, B.bytes, B.returns, hml, findClass_of_methodNamed B.named, fun w h => hts w (List.mem_cons_of_mem _ h), B.notSynchronized, hK⟩
  have hnh := cc_nh B (hts _ List.mem_cons_self)
  rw [lg_entry_eq]
  obtain ⟨ls, hls, hl⟩ := cl_ent [cR x0, cR x1, cR x2] 3 (cl_1r (cl_1r (cl_1r cl_10))) (Nat.le_of_ble_eq_true rfl)
  rw [hls]
  exact pw_X2_needProduct_0 hbd hR htr hd5 hB hnh σ x0 x1 x2 ix0 ix1 ix2 hf _ _ _ _ _ (cw_W0 hM) (cl_sub hl [0, 1, 2] rfl)

set_option maxHeartbeats 4000000 in
set_option maxRecDepth 100000 in
theorem pw_X2_neededRule_0 {v : cwE} {bd : Nat × Nat} {p : Program} {l : Launch} {e : Env} {s : State} {m : MethodId} {args : Array Value} {below : List Frame} {meth : Method} {c : Code} {d : Nat} {rec : Nat → CS → List Int → CO} {σ0 σ' : CS} {kd : Nat} {r : Int} (hbd : bd = (v.2.2.1, v.2.2.2.1)) (hR : cw_Rec l v d rec) (htr : l.stackTraces = false) (hd5 : 5 ≤ d) (B : cw_B v RX2 p s m args meth c cX2_neededRule 5 (some .int)) (hnh : ∀ x ∈ c.exceptionTable.toList, False) : ∀ (σ : CS) (x0 x1 x2 x3 : Int), inR x0 → inR x1 → inR x2 → inR x3 → pc_X2_neededRule_0 rec bd σ x0 x1 x2 x3 = some (σ', kd, r) → ∀ (H : Heap) (locs : List Loc) (cells slots : Nat) (ls : Array Slot), cw_W v s σ0 σ H locs cells slots → cl_has ls 5 [(0, cR x0), (1, .int (rI x1)), (2, .int (rI x2)), (3, cR x3)] → W p l e (cw_rm v (d + 1) σ0) s m args below meth c H locs cells slots (cw_Z below v σ0 σ' kd (some (.int (rI r))) args s) (F0 m 0 ls []) := by
  subst hbd
  obtain ⟨hx, hb, hr, hml, hown, hts, hlk, hK⟩ := id B
  intro σ x0 x1 x2 x3 ix0 ix1 ix2 ix3 hf H locs cells slots ls hw hl
  unfold pc_X2_neededRule_0 at hf
  refine cl_aload_n hx hb dX2_neededRule_0 rfl (lv_at hl.1 0 rfl) ?_
  obtain ⟨z1, ez1, iz1, rz1, hf⟩ := cc_g_s hw hf
  refine cw_get (val := cR z1) B hw rz1 ⟨by decide, by decide⟩ (by decide) cwi_3 cfl_2_19 ez1 rfl dX2_neededRule_1 ?_
  refine lv_iload_n hx hb dX2_neededRule_4 rfl (lv_at hl.1 1 rfl) ?_
  refine lv_iload_n hx hb dX2_neededRule_5 rfl (lv_at hl.1 2 rfl) ?_
  obtain ⟨qσ2, hf⟩ := cc_t_s hf
  obtain ⟨σ2, kv3, z4, hσ2, hf⟩ := cc_cl_s hf
  obtain ⟨iz4, mσ2⟩ := hR 5 σ [z1, x1, x2] σ2 kv3 z4 hσ2
  have mσ2 : cw_Met l v yX0_ruleOf cX0_ruleOf 3 (some .int) d [cR z1, .int (rI x1), .int (rI x2)] σ σ2 kv3 (some (.int (rI z4))) := mσ2 iz1 ix1 ix2
  refine cw_cv (b := z1) (t := 1) (n := 2) (rest := []) (As := [.int (rI x1), .int (rI x2)]) B mσ2 qσ2 ⟨by decide, by decide⟩ cgo_yX0_ruleOf cml_2_194 cin_yX0_ruleOf cse_yX0_ruleOf (by decide +kernel) (by decide) rfl hl.1.1 (Nat.le_of_ble_eq_true rfl) dX2_neededRule_6 rfl hw (fun h0 H locs cells slots hw => ?_) (fun h0 H locs cells slots q ce hw h1 h2 h3 => ?_)
  · rcases hf with ⟨-, hf⟩ | ⟨hk, -⟩
    · skip
      refine cl_istore (lv' := [(4, .int (rI z4)), (0, cR x0), (1, .int (rI x1)), (2, .int (rI x2)), (3, cR x3)]) hx hb dX2_neededRule_9 hl (by decide) rfl (fun ls hl => ?_)
      refine lv_iload hx hb dX2_neededRule_11 (lv_at hl.1 0 rfl) ?_
      refine lv_iconst (v := rI (-1)) hx hb dX2_neededRule_13 rfl ?_
      refine rn_icmp_ne (a := z4) (b := (-1)) (tgt := 38) hx hb iz4 ⟨by decide, by decide⟩ dX2_neededRule_14 (by decide) (fun c5 => ?_) (fun c5 => ?_)
      · replace hf := cc_if_t hf c5
        refine lv_iload hx hb dX2_neededRule_38 (lv_at hl.1 0 rfl) ?_
        exact cw_reti B hf hw dX2_neededRule_40
      · replace hf := cc_if_f hf c5
        refine cl_aload_n hx hb dX2_neededRule_17 rfl (lv_at hl.1 1 rfl) ?_
        obtain ⟨z6, ez6, iz6, rz6, hf⟩ := cc_g_s hw hf
        refine cw_get (val := cR z6) B hw rz6 ⟨by decide, by decide⟩ (by decide) cwi_3 cfl_2_27 ez6 rfl dX2_neededRule_18 ?_
        refine lv_bipush (v := rI 9) hx hb dX2_neededRule_21 (by decide +kernel) ?_
        refine cl_aload_n hx hb dX2_neededRule_23 rfl (lv_at hl.1 4 rfl) ?_
        obtain ⟨z7, ez7, iz7, rz7, hf⟩ := cc_g_s hw hf
        refine cw_get (val := .int (rI z7)) B hw rz7 ⟨by decide, by decide⟩ (by decide) cwi_7 cfl_2_145 ez7 rfl dX2_neededRule_24 ?_
        obtain ⟨qσ8, hf⟩ := cc_t_s hf
        obtain ⟨σ8, kv9, z10, hσ8, hf⟩ := cc_cl_s hf
        obtain ⟨iz10, mσ8⟩ := hR 95 σ2 [z6, 9, z7] σ8 kv9 z10 hσ8
        have mσ8 : cw_Met l v yX10_set cX10_set 3 none d [cR z6, .int (rI 9), .int (rI z7)] σ2 σ8 kv9 none := mσ8 iz6 ⟨by decide, by decide⟩ iz7
        refine cw_cv (b := z6) (t := 11) (n := 2) (rest := []) (As := [.int (rI 9), .int (rI z7)]) B mσ8 qσ8 ⟨by decide, by decide⟩ cgo_yX10_set cml_2_148 cin_yX10_set cse_yX10_set (by decide +kernel) (by decide) rfl hl.1.1 (Nat.le_of_ble_eq_true rfl) dX2_neededRule_27 rfl hw (fun h0 H locs cells slots hw => ?_) (fun h0 H locs cells slots q ce hw h1 h2 h3 => ?_)
        · rcases hf with ⟨-, hf⟩ | ⟨hk, -⟩
          · skip
            obtain ⟨hy, hm⟩ := cc_x_s hf
            obtain ⟨hy1, hy2⟩ := Prod.mk.inj hy
            obtain ⟨hy2, hy3⟩ := Prod.mk.inj hy2
            subst hy2
            refine cw_throw (rest := []) B hnh htr hw (by decide) (by decide +kernel) cxc_2_154 cxi_1 (cw_hat cxa_2_156 (by decide +kernel) hts hK.1) (List.all_eq_true.mp cxg_2_156) hd5 hm hy1 hl.1.1 (Nat.le_of_ble_eq_true rfl) dX2_neededRule_30 dX2_neededRule_33 dX2_neededRule_34 dX2_neededRule_37
          · exact absurd h0 hk
        · rcases hf with ⟨hk, -⟩ | ⟨-, hf⟩
          · exact absurd hk h0
          · cases hf
            exact cw_xout B hnh h0 hw h1 h2 h3
    · exact absurd h0 hk
  · rcases hf with ⟨hk, -⟩ | ⟨-, hf⟩
    · exact absurd hk h0
    · cases hf
      exact cw_xout B hnh h0 hw h1 h2 h3

set_option maxHeartbeats 4000000 in
set_option maxRecDepth 100000 in
theorem pm_X2_neededRule {v : cwE} {bd : Nat × Nat} {l : Launch} {d : Nat} {rec : Nat → CS → List Int → CO} (hbd : bd = (v.2.2.1, v.2.2.2.1)) (hR : cw_Rec l v d rec) (htr : l.stackTraces = false) (hd5 : 5 ≤ d) (σ σ' : CS) (x0 x1 x2 x3 : Int) (kd : Nat) (r : Int) (ix0 : inR x0) (ix1 : inR x1) (ix2 : inR x2) (ix3 : inR x3) (hf : pc_X2_neededRule_0 rec bd σ x0 x1 x2 x3 = some (σ', kd, r)) : cw_Met l v yX2_neededRule cX2_neededRule 5 (some .int) (d + 1) [cR x0, .int (rI x1), .int (rI x2), cR x3] σ σ' kd (some (.int (rI r))) := by
  refine cw_ofW (by decide +kernel) ?_
  intro p e s m args below meth c s₁ B hml hv
  obtain ⟨rfl, hM, hK⟩ := hv
  have hts := atoms_spec (ws := Cond.code yX2_neededRule cX2_neededRule 5 (some .int) :: cw_bw) B.pre
  have hB : cw_B v RX2 p s m _ meth c cX2_neededRule 5 (some .int) := ⟨B.exec, B.bytes, B.returns, hml, findClass_of_methodNamed B.named, fun w h => hts w (List.mem_cons_of_mem _ h), B.notSynchronized, hK⟩
  have hnh := cc_nh B (hts _ List.mem_cons_self)
  rw [lg_entry_eq]
  obtain ⟨ls, hls, hl⟩ := cl_ent [cR x0, .int (rI x1), .int (rI x2), cR x3] 5 (cl_1r (cl_1i (cl_1i (cl_1r cl_10)))) (Nat.le_of_ble_eq_true rfl)
  rw [hls]
  exact pw_X2_neededRule_0 hbd hR htr hd5 hB hnh σ x0 x1 x2 x3 ix0 ix1 ix2 ix3 hf _ _ _ _ _ (cw_W0 hM) (cl_sub hl [0, 1, 2, 3] rfl)

set_option maxHeartbeats 4000000 in
set_option maxRecDepth 100000 in
theorem pw_X2_neededSort_0 {v : cwE} {bd : Nat × Nat} {p : Program} {l : Launch} {e : Env} {s : State} {m : MethodId} {args : Array Value} {below : List Frame} {meth : Method} {c : Code} {d : Nat} {rec : Nat → CS → List Int → CO} {σ0 σ' : CS} {kd : Nat} {r : Int} (hbd : bd = (v.2.2.1, v.2.2.2.1)) (hR : cw_Rec l v d rec) (htr : l.stackTraces = false) (hd5 : 5 ≤ d) (B : cw_B v RX2 p s m args meth c cX2_neededSort 3 (some .int)) (hnh : ∀ x ∈ c.exceptionTable.toList, False) : ∀ (σ : CS) (x0 x1 x2 : Int), inR x0 → inR x1 → inR x2 → pc_X2_neededSort_0 rec bd σ x0 x1 x2 = some (σ', kd, r) → ∀ (H : Heap) (locs : List Loc) (cells slots : Nat) (ls : Array Slot), cw_W v s σ0 σ H locs cells slots → cl_has ls 3 [(0, cR x0), (1, cR x1), (2, cR x2)] → W p l e (cw_rm v (d + 1) σ0) s m args below meth c H locs cells slots (cw_Z below v σ0 σ' kd (some (.int (rI r))) args s) (F0 m 0 ls []) := by
  subst hbd
  obtain ⟨hx, hb, hr, hml, hown, hts, hlk, hK⟩ := id B
  intro σ x0 x1 x2 ix0 ix1 ix2 hf H locs cells slots ls hw hl
  unfold pc_X2_neededSort_0 at hf
  refine cl_aload_n hx hb dX2_neededSort_0 rfl (lv_at hl.1 1 rfl) ?_
  obtain ⟨z1, ez1, iz1, rz1, hf⟩ := cc_g_s hw hf
  refine cw_get (val := .int (rI z1)) B hw rz1 ⟨by decide, by decide⟩ (by decide) cwi_7 cfl_2_48 ez1 rfl dX2_neededSort_1 ?_
  refine lv_iconst (v := rI 1) hx hb dX2_neededSort_4 rfl ?_
  refine rn_icmp_eq (a := z1) (b := 1) (tgt := 29) hx hb iz1 ⟨by decide, by decide⟩ dX2_neededSort_5 (by decide) (fun c2 => ?_) (fun c2 => ?_)
  · replace hf := cc_if_t hf c2
    refine cl_aload_n hx hb dX2_neededSort_29 rfl (lv_at hl.1 1 rfl) ?_
    obtain ⟨z3, ez3, iz3, rz3, hf⟩ := cc_g_s hw hf
    refine cw_get (val := .int (rI z3)) B hw rz3 ⟨by decide, by decide⟩ (by decide) cwi_7 cfl_2_100 ez3 rfl dX2_neededSort_30 ?_
    exact cw_reti B hf hw dX2_neededSort_33
  · replace hf := cc_if_f hf c2
    refine cl_aload_n hx hb dX2_neededSort_8 rfl (lv_at hl.1 0 rfl) ?_
    obtain ⟨z4, ez4, iz4, rz4, hf⟩ := cc_g_s hw hf
    refine cw_get (val := cR z4) B hw rz4 ⟨by decide, by decide⟩ (by decide) cwi_3 cfl_2_27 ez4 rfl dX2_neededSort_9 ?_
    refine lv_bipush (v := rI 8) hx hb dX2_neededSort_12 (by decide +kernel) ?_
    refine cl_aload_n hx hb dX2_neededSort_14 rfl (lv_at hl.1 2 rfl) ?_
    obtain ⟨z5, ez5, iz5, rz5, hf⟩ := cc_g_s hw hf
    refine cw_get (val := .int (rI z5)) B hw rz5 ⟨by decide, by decide⟩ (by decide) cwi_7 cfl_2_169 ez5 rfl dX2_neededSort_15 ?_
    obtain ⟨qσ6, hf⟩ := cc_t_s hf
    obtain ⟨σ6, kv7, z8, hσ6, hf⟩ := cc_cl_s hf
    obtain ⟨iz8, mσ6⟩ := hR 95 σ [z4, 8, z5] σ6 kv7 z8 hσ6
    have mσ6 : cw_Met l v yX10_set cX10_set 3 none d [cR z4, .int (rI 8), .int (rI z5)] σ σ6 kv7 none := mσ6 iz4 ⟨by decide, by decide⟩ iz5
    refine cw_cv (b := z4) (t := 11) (n := 2) (rest := []) (As := [.int (rI 8), .int (rI z5)]) B mσ6 qσ6 ⟨by decide, by decide⟩ cgo_yX10_set cml_2_148 cin_yX10_set cse_yX10_set (by decide +kernel) (by decide) rfl hl.1.1 (Nat.le_of_ble_eq_true rfl) dX2_neededSort_18 rfl hw (fun h0 H locs cells slots hw => ?_) (fun h0 H locs cells slots q ce hw h1 h2 h3 => ?_)
    · rcases hf with ⟨-, hf⟩ | ⟨hk, -⟩
      · skip
        obtain ⟨hy, hm⟩ := cc_x_s hf
        obtain ⟨hy1, hy2⟩ := Prod.mk.inj hy
        obtain ⟨hy2, hy3⟩ := Prod.mk.inj hy2
        subst hy2
        refine cw_throw (rest := []) B hnh htr hw (by decide) (by decide +kernel) cxc_2_154 cxi_1 (cw_hat cxa_2_156 (by decide +kernel) hts hK.1) (List.all_eq_true.mp cxg_2_156) hd5 hm hy1 hl.1.1 (Nat.le_of_ble_eq_true rfl) dX2_neededSort_21 dX2_neededSort_24 dX2_neededSort_25 dX2_neededSort_28
      · exact absurd h0 hk
    · rcases hf with ⟨hk, -⟩ | ⟨-, hf⟩
      · exact absurd hk h0
      · cases hf
        exact cw_xout B hnh h0 hw h1 h2 h3

set_option maxHeartbeats 4000000 in
set_option maxRecDepth 100000 in
theorem pm_X2_neededSort {v : cwE} {bd : Nat × Nat} {l : Launch} {d : Nat} {rec : Nat → CS → List Int → CO} (hbd : bd = (v.2.2.1, v.2.2.2.1)) (hR : cw_Rec l v d rec) (htr : l.stackTraces = false) (hd5 : 5 ≤ d) (σ σ' : CS) (x0 x1 x2 : Int) (kd : Nat) (r : Int) (ix0 : inR x0) (ix1 : inR x1) (ix2 : inR x2) (hf : pc_X2_neededSort_0 rec bd σ x0 x1 x2 = some (σ', kd, r)) : cw_Met l v yX2_neededSort cX2_neededSort 3 (some .int) (d + 1) [cR x0, cR x1, cR x2] σ σ' kd (some (.int (rI r))) := by
  refine cw_ofW (by decide +kernel) ?_
  intro p e s m args below meth c s₁ B hml hv
  obtain ⟨rfl, hM, hK⟩ := hv
  have hts := atoms_spec (ws := Cond.code yX2_neededSort cX2_neededSort 3 (some .int) :: cw_bw) B.pre
  have hB : cw_B v RX2 p s m _ meth c cX2_neededSort 3 (some .int) := ⟨B.exec, B.bytes, B.returns, hml, findClass_of_methodNamed B.named, fun w h => hts w (List.mem_cons_of_mem _ h), B.notSynchronized, hK⟩
  have hnh := cc_nh B (hts _ List.mem_cons_self)
  rw [lg_entry_eq]
  obtain ⟨ls, hls, hl⟩ := cl_ent [cR x0, cR x1, cR x2] 3 (cl_1r (cl_1r (cl_1r cl_10))) (Nat.le_of_ble_eq_true rfl)
  rw [hls]
  exact pw_X2_neededSort_0 hbd hR htr hd5 hB hnh σ x0 x1 x2 ix0 ix1 ix2 hf _ _ _ _ _ (cw_W0 hM) (cl_sub hl [0, 1, 2] rfl)

set_option maxHeartbeats 4000000 in
set_option maxRecDepth 100000 in
theorem pw_X2_resolve_0 {v : cwE} {bd : Nat × Nat} {p : Program} {l : Launch} {e : Env} {s : State} {m : MethodId} {args : Array Value} {below : List Frame} {meth : Method} {c : Code} {d : Nat} {rec : Nat → CS → List Int → CO} {σ0 σ' : CS} {kd : Nat} {r : Int} (hbd : bd = (v.2.2.1, v.2.2.2.1)) (hR : cw_Rec l v d rec) (htr : l.stackTraces = false) (hd5 : 5 ≤ d) (B : cw_B v RX2 p s m args meth c cX2_resolve 5 none) (hnh : ∀ x ∈ c.exceptionTable.toList, False) : ∀ (σ : CS) (x0 x1 x2 x3 x4 : Int), inR x0 → inR x1 → inR x2 → inR x3 → inR x4 → pc_X2_resolve_0 rec bd σ x0 x1 x2 x3 x4 = some (σ', kd, r) → ∀ (H : Heap) (locs : List Loc) (cells slots : Nat) (ls : Array Slot), cw_W v s σ0 σ H locs cells slots → cl_has ls 5 [(0, cR x0), (1, cR x1), (2, .int (rI x2)), (3, .int (rI x3)), (4, .int (rI x4))] → W p l e (cw_rm v (d + 1) σ0) s m args below meth c H locs cells slots (cw_Z below v σ0 σ' kd none args s) (F0 m 0 ls []) := by
  subst hbd
  obtain ⟨hx, hb, hr, hml, hown, hts, hlk, hK⟩ := id B
  intro σ x0 x1 x2 x3 x4 ix0 ix1 ix2 ix3 ix4 hf H locs cells slots ls hw hl
  unfold pc_X2_resolve_0 at hf
  refine cl_aload_n hx hb dX2_resolve_0 rfl (lv_at hl.1 1 rfl) ?_
  refine lv_iload_n hx hb dX2_resolve_1 rfl (lv_at hl.1 2 rfl) ?_
  obtain ⟨σ1, eσ1, rσ1, hf⟩ := cc_p_s hf
  refine cw_put B hw rσ1 cwt_7 (by decide) rfl cfl_2_48 ix2 eσ1 rfl (cw_fv_n rfl rfl) dX2_resolve_2 (fun H locs hw => ?_)
  refine cl_aload_n hx hb dX2_resolve_5 rfl (lv_at hl.1 1 rfl) ?_
  refine lv_iload_n hx hb dX2_resolve_6 rfl (lv_at hl.1 3 rfl) ?_
  obtain ⟨σ2, eσ2, rσ2, hf⟩ := cc_p_s hf
  refine cw_put B hw rσ2 cwt_7 (by decide) rfl cfl_2_100 ix3 eσ2 rfl (cw_fv_n rfl rfl) dX2_resolve_7 (fun H locs hw => ?_)
  refine cl_aload_n hx hb dX2_resolve_10 rfl (lv_at hl.1 0 rfl) ?_
  refine lv_iload hx hb dX2_resolve_11 (lv_at hl.1 4 rfl) ?_
  obtain ⟨σ3, eσ3, rσ3, hf⟩ := cc_p_s hf
  refine cw_put B hw rσ3 cwt_3 (by decide) rfl cfl_2_9 ix4 eσ3 rfl (cw_fv_n rfl rfl) dX2_resolve_13 (fun H locs hw => ?_)
  exact cw_retv B hf hw dX2_resolve_16

set_option maxHeartbeats 4000000 in
set_option maxRecDepth 100000 in
theorem pm_X2_resolve {v : cwE} {bd : Nat × Nat} {l : Launch} {d : Nat} {rec : Nat → CS → List Int → CO} (hbd : bd = (v.2.2.1, v.2.2.2.1)) (hR : cw_Rec l v d rec) (htr : l.stackTraces = false) (hd5 : 5 ≤ d) (σ σ' : CS) (x0 x1 x2 x3 x4 : Int) (kd : Nat) (r : Int) (ix0 : inR x0) (ix1 : inR x1) (ix2 : inR x2) (ix3 : inR x3) (ix4 : inR x4) (hf : pc_X2_resolve_0 rec bd σ x0 x1 x2 x3 x4 = some (σ', kd, r)) : cw_Met l v yX2_resolve cX2_resolve 5 none (d + 1) [cR x0, cR x1, .int (rI x2), .int (rI x3), .int (rI x4)] σ σ' kd none := by
  refine cw_ofW (by decide +kernel) ?_
  intro p e s m args below meth c s₁ B hml hv
  obtain ⟨rfl, hM, hK⟩ := hv
  have hts := atoms_spec (ws := Cond.code yX2_resolve cX2_resolve 5 none :: cw_bw) B.pre
  have hB : cw_B v RX2 p s m _ meth c cX2_resolve 5 none := ⟨B.exec, B.bytes, B.returns, hml, findClass_of_methodNamed B.named, fun w h => hts w (List.mem_cons_of_mem _ h), B.notSynchronized, hK⟩
  have hnh := cc_nh B (hts _ List.mem_cons_self)
  rw [lg_entry_eq]
  obtain ⟨ls, hls, hl⟩ := cl_ent [cR x0, cR x1, .int (rI x2), .int (rI x3), .int (rI x4)] 5 (cl_1r (cl_1r (cl_1i (cl_1i (cl_1i cl_10))))) (Nat.le_of_ble_eq_true rfl)
  rw [hls]
  exact pw_X2_resolve_0 hbd hR htr hd5 hB hnh σ x0 x1 x2 x3 x4 ix0 ix1 ix2 ix3 ix4 hf _ _ _ _ _ (cw_W0 hM) (cl_sub hl [0, 1, 2, 3, 4] rfl)

set_option maxHeartbeats 4000000 in
set_option maxRecDepth 100000 in
theorem pw_X2_typeOfLambda_0 {v : cwE} {bd : Nat × Nat} {p : Program} {l : Launch} {e : Env} {s : State} {m : MethodId} {args : Array Value} {below : List Frame} {meth : Method} {c : Code} {d : Nat} {rec : Nat → CS → List Int → CO} {σ0 σ' : CS} {kd : Nat} {r : Int} (hbd : bd = (v.2.2.1, v.2.2.2.1)) (hR : cw_Rec l v d rec) (htr : l.stackTraces = false) (hd5 : 5 ≤ d) (B : cw_B v RX2 p s m args meth c cX2_typeOfLambda 7 (some (.object "PureHouse$Node"))) (hnh : ∀ x ∈ c.exceptionTable.toList, False) : ∀ (σ : CS) (x0 x1 x2 x3 x4 : Int), inR x0 → inR x1 → inR x2 → inR x3 → inR x4 → pc_X2_typeOfLambda_0 rec bd σ x0 x1 x2 x3 x4 = some (σ', kd, r) → ∀ (H : Heap) (locs : List Loc) (cells slots : Nat) (ls : Array Slot), cw_W v s σ0 σ H locs cells slots → cl_has ls 7 [(0, cR x0), (1, cR x1), (2, cR x2), (3, .int (rI x3)), (4, cR x4)] → W p l e (cw_rm v (d + 1) σ0) s m args below meth c H locs cells slots (cw_Z below v σ0 σ' kd (some (cR r)) args s) (F0 m 0 ls []) := by
  subst hbd
  obtain ⟨hx, hb, hr, hml, hown, hts, hlk, hK⟩ := id B
  intro σ x0 x1 x2 x3 x4 ix0 ix1 ix2 ix3 ix4 hf H locs cells slots ls hw hl
  unfold pc_X2_typeOfLambda_0 at hf
  refine cl_aload_n hx hb dX2_typeOfLambda_0 rfl (lv_at hl.1 0 rfl) ?_
  obtain ⟨z1, ez1, iz1, rz1, hf⟩ := cc_g_s hw hf
  refine cw_get (val := .int (rI z1)) B hw rz1 ⟨by decide, by decide⟩ (by decide) cwi_3 cfl_2_9 ez1 rfl dX2_typeOfLambda_1 ?_
  refine cl_istore (lv' := [(5, .int (rI z1)), (0, cR x0), (1, cR x1), (2, cR x2), (3, .int (rI x3)), (4, cR x4)]) hx hb dX2_typeOfLambda_4 hl (by decide) rfl (fun ls hl => ?_)
  refine lv_iload hx hb dX2_typeOfLambda_6 (lv_at hl.1 0 rfl) ?_
  refine lv_iconst (v := rI (-1)) hx hb dX2_typeOfLambda_8 rfl ?_
  refine rn_icmp_ne (a := z1) (b := (-1)) (tgt := 33) hx hb iz1 ⟨by decide, by decide⟩ dX2_typeOfLambda_9 (by decide) (fun c2 => ?_) (fun c2 => ?_)
  · replace hf := cc_if_t hf c2
    refine cl_aload_n hx hb dX2_typeOfLambda_33 rfl (lv_at hl.1 1 rfl) ?_
    refine cl_aload_n hx hb dX2_typeOfLambda_34 rfl (lv_at hl.1 1 rfl) ?_
    refine lv_iload_n hx hb dX2_typeOfLambda_35 rfl (lv_at hl.1 4 rfl) ?_
    refine lv_iload hx hb dX2_typeOfLambda_36 (lv_at hl.1 0 rfl) ?_
    refine cl_aload_n hx hb dX2_typeOfLambda_38 rfl (lv_at hl.1 2 rfl) ?_
    obtain ⟨qσ3, hf⟩ := cc_t_s hf
    obtain ⟨σ3, kv4, z5, hσ3, hf⟩ := cc_cl_s hf
    obtain ⟨iz5, mσ3⟩ := hR 18 σ [x0, x3, z1, x1] σ3 kv4 z5 hσ3
    have mσ3 : cw_Met l v yX2_neededRule cX2_neededRule 5 (some .int) d [cR x0, .int (rI x3), .int (rI z1), cR x1] σ σ3 kv4 (some (.int (rI z5))) := mσ3 ix0 ix3 iz1 ix1
    refine cw_cv (b := x0) (t := 3) (n := 3) (rest := [cR x0]) (As := [.int (rI x3), .int (rI z1), cR x1]) B mσ3 qσ3 ⟨by decide, by decide⟩ cgo_yX2_neededRule cml_2_184 cin_yX2_neededRule cse_yX2_neededRule (by decide +kernel) (by decide) rfl hl.1.1 (cl_cs (cl_1r cl_10) (Nat.le_of_ble_eq_true rfl)) dX2_typeOfLambda_39 rfl hw (fun h0 H locs cells slots hw => ?_) (fun h0 H locs cells slots q ce hw h1 h2 h3 => ?_)
    · rcases hf with ⟨-, hf⟩ | ⟨hk, -⟩
      · skip
        obtain ⟨σ6, eσ6, rσ6, hf⟩ := cc_p_s hf
        refine cw_put B hw rσ6 cwt_3 (by decide) rfl cfl_2_9 iz5 eσ6 rfl (cw_fv_n rfl rfl) dX2_typeOfLambda_42 (fun H locs hw => ?_)
        refine lv_iconst (v := rI 5) hx hb dX2_typeOfLambda_45 rfl ?_
        refine cl_aload_n hx hb dX2_typeOfLambda_46 rfl (lv_at hl.1 2 rfl) ?_
        obtain ⟨z7, ez7, iz7, rz7, hf⟩ := cc_g_s hw hf
        refine cw_get (val := .int (rI z7)) B hw rz7 ⟨by decide, by decide⟩ (by decide) cwi_7 cfl_2_100 ez7 rfl dX2_typeOfLambda_47 ?_
        refine cl_aload_n hx hb dX2_typeOfLambda_50 rfl (lv_at hl.1 3 rfl) ?_
        refine cl_aload hx hb dX2_typeOfLambda_51 (lv_at hl.1 5 rfl) ?_
        obtain ⟨σ8, kv9, z10, hσ8, hf⟩ := cc_cl_s hf
        obtain ⟨iz10, mσ8⟩ := hR 59 σ6 [5, z7, x2, x4] σ8 kv9 z10 hσ8
        have mσ8 : cw_Met l v yX6_binder cX6_binder 5 (some (.object "PureHouse$Node")) d [.int (rI 5), .int (rI z7), cR x2, cR x4] σ6 σ8 kv9 (some (cR z10)) := mσ8 ⟨by decide, by decide⟩ iz7 ix2 ix4
        refine cw_cs (n := 4) (rest := []) (As := [.int (rI 5), .int (rI z7), cR x2, cR x4]) B mσ8 cgo_yX6_binder cml_2_191 cst_yX6_binder (by decide +kernel) (by decide) rfl hl.1.1 (Nat.le_of_ble_eq_true rfl) dX2_typeOfLambda_53 rfl hw (fun h0 H locs cells slots hw => ?_) (fun h0 H locs cells slots q ce hw h1 h2 h3 => ?_)
        · rcases hf with ⟨-, hf⟩ | ⟨hk, -⟩
          · skip
            refine cl_astore (lv' := [(6, cR z10), (5, .int (rI z1)), (0, cR x0), (1, cR x1), (2, cR x2), (3, .int (rI x3)), (4, cR x4)]) hx hb dX2_typeOfLambda_56 hl (by decide) rfl (fun ls hl => ?_)
            refine cl_aload hx hb dX2_typeOfLambda_58 (lv_at hl.1 0 rfl) ?_
            refine lv_iload_n hx hb dX2_typeOfLambda_60 rfl (lv_at hl.1 5 rfl) ?_
            refine lv_iload hx hb dX2_typeOfLambda_61 (lv_at hl.1 1 rfl) ?_
            obtain ⟨qσ11, hf⟩ := cc_t_s hf
            obtain ⟨σ11, kv12, z13, hσ11, hf⟩ := cc_cl_s hf
            obtain ⟨iz13, mσ11⟩ := hR 61 σ8 [z10, x3, z1] σ11 kv12 z13 hσ11
            have mσ11 : cw_Met l v yX6_keepSorts cX6_keepSorts 3 none d [cR z10, .int (rI x3), .int (rI z1)] σ8 σ11 kv12 none := mσ11 iz10 ix3 iz1
            refine cw_cv (b := z10) (t := 7) (n := 2) (rest := []) (As := [.int (rI x3), .int (rI z1)]) B mσ11 qσ11 ⟨by decide, by decide⟩ cgo_yX6_keepSorts cml_2_188 cin_yX6_keepSorts cse_yX6_keepSorts (by decide +kernel) (by decide) rfl hl.1.1 (Nat.le_of_ble_eq_true rfl) dX2_typeOfLambda_63 rfl hw (fun h0 H locs cells slots hw => ?_) (fun h0 H locs cells slots q ce hw h1 h2 h3 => ?_)
            · rcases hf with ⟨-, hf⟩ | ⟨hk, -⟩
              · skip
                refine cl_aload hx hb dX2_typeOfLambda_66 (lv_at hl.1 0 rfl) ?_
                exact cw_reta B hf hw dX2_typeOfLambda_68
              · exact absurd h0 hk
            · rcases hf with ⟨hk, -⟩ | ⟨-, hf⟩
              · exact absurd hk h0
              · cases hf
                exact cw_xout B hnh h0 hw h1 h2 h3
          · exact absurd h0 hk
        · rcases hf with ⟨hk, -⟩ | ⟨-, hf⟩
          · exact absurd hk h0
          · cases hf
            exact cw_xout B hnh h0 hw h1 h2 h3
      · exact absurd h0 hk
    · rcases hf with ⟨hk, -⟩ | ⟨-, hf⟩
      · exact absurd hk h0
      · cases hf
        exact cw_xout B hnh h0 hw h1 h2 h3
  · replace hf := cc_if_f hf c2
    refine cl_aload_n hx hb dX2_typeOfLambda_12 rfl (lv_at hl.1 1 rfl) ?_
    obtain ⟨z14, ez14, iz14, rz14, hf⟩ := cc_g_s hw hf
    refine cw_get (val := cR z14) B hw rz14 ⟨by decide, by decide⟩ (by decide) cwi_3 cfl_2_27 ez14 rfl dX2_typeOfLambda_13 ?_
    refine lv_bipush (v := rI 7) hx hb dX2_typeOfLambda_16 (by decide +kernel) ?_
    refine cl_aload_n hx hb dX2_typeOfLambda_18 rfl (lv_at hl.1 2 rfl) ?_
    obtain ⟨z15, ez15, iz15, rz15, hf⟩ := cc_g_s hw hf
    refine cw_get (val := .int (rI z15)) B hw rz15 ⟨by decide, by decide⟩ (by decide) cwi_7 cfl_2_145 ez15 rfl dX2_typeOfLambda_19 ?_
    obtain ⟨qσ16, hf⟩ := cc_t_s hf
    obtain ⟨σ16, kv17, z18, hσ16, hf⟩ := cc_cl_s hf
    obtain ⟨iz18, mσ16⟩ := hR 95 σ [z14, 7, z15] σ16 kv17 z18 hσ16
    have mσ16 : cw_Met l v yX10_set cX10_set 3 none d [cR z14, .int (rI 7), .int (rI z15)] σ σ16 kv17 none := mσ16 iz14 ⟨by decide, by decide⟩ iz15
    refine cw_cv (b := z14) (t := 11) (n := 2) (rest := []) (As := [.int (rI 7), .int (rI z15)]) B mσ16 qσ16 ⟨by decide, by decide⟩ cgo_yX10_set cml_2_148 cin_yX10_set cse_yX10_set (by decide +kernel) (by decide) rfl hl.1.1 (Nat.le_of_ble_eq_true rfl) dX2_typeOfLambda_22 rfl hw (fun h0 H locs cells slots hw => ?_) (fun h0 H locs cells slots q ce hw h1 h2 h3 => ?_)
    · rcases hf with ⟨-, hf⟩ | ⟨hk, -⟩
      · skip
        obtain ⟨hy, hm⟩ := cc_x_s hf
        obtain ⟨hy1, hy2⟩ := Prod.mk.inj hy
        obtain ⟨hy2, hy3⟩ := Prod.mk.inj hy2
        subst hy2
        refine cw_throw (rest := []) B hnh htr hw (by decide) (by decide +kernel) cxc_2_154 cxi_1 (cw_hat cxa_2_156 (by decide +kernel) hts hK.1) (List.all_eq_true.mp cxg_2_156) hd5 hm hy1 hl.1.1 (Nat.le_of_ble_eq_true rfl) dX2_typeOfLambda_25 dX2_typeOfLambda_28 dX2_typeOfLambda_29 dX2_typeOfLambda_32
      · exact absurd h0 hk
    · rcases hf with ⟨hk, -⟩ | ⟨-, hf⟩
      · exact absurd hk h0
      · cases hf
        exact cw_xout B hnh h0 hw h1 h2 h3

set_option maxHeartbeats 4000000 in
set_option maxRecDepth 100000 in
theorem pm_X2_typeOfLambda {v : cwE} {bd : Nat × Nat} {l : Launch} {d : Nat} {rec : Nat → CS → List Int → CO} (hbd : bd = (v.2.2.1, v.2.2.2.1)) (hR : cw_Rec l v d rec) (htr : l.stackTraces = false) (hd5 : 5 ≤ d) (σ σ' : CS) (x0 x1 x2 x3 x4 : Int) (kd : Nat) (r : Int) (ix0 : inR x0) (ix1 : inR x1) (ix2 : inR x2) (ix3 : inR x3) (ix4 : inR x4) (hf : pc_X2_typeOfLambda_0 rec bd σ x0 x1 x2 x3 x4 = some (σ', kd, r)) : cw_Met l v yX2_typeOfLambda cX2_typeOfLambda 7 (some (.object "PureHouse$Node")) (d + 1) [cR x0, cR x1, cR x2, .int (rI x3), cR x4] σ σ' kd (some (cR r)) := by
  refine cw_ofW (by decide +kernel) ?_
  intro p e s m args below meth c s₁ B hml hv
  obtain ⟨rfl, hM, hK⟩ := hv
  have hts := atoms_spec (ws := Cond.code yX2_typeOfLambda cX2_typeOfLambda 7 (some (.object "PureHouse$Node")) :: cw_bw) B.pre
  have hB : cw_B v RX2 p s m _ meth c cX2_typeOfLambda 7 (some (.object "PureHouse$Node")) := ⟨B.exec, B.bytes, B.returns, hml, findClass_of_methodNamed B.named, fun w h => hts w (List.mem_cons_of_mem _ h), B.notSynchronized, hK⟩
  have hnh := cc_nh B (hts _ List.mem_cons_self)
  rw [lg_entry_eq]
  obtain ⟨ls, hls, hl⟩ := cl_ent [cR x0, cR x1, cR x2, .int (rI x3), cR x4] 7 (cl_1r (cl_1r (cl_1r (cl_1i (cl_1r cl_10))))) (Nat.le_of_ble_eq_true rfl)
  rw [hls]
  exact pw_X2_typeOfLambda_0 hbd hR htr hd5 hB hnh σ x0 x1 x2 x3 x4 ix0 ix1 ix2 ix3 ix4 hf _ _ _ _ _ (cw_W0 hM) (cl_sub hl [0, 1, 2, 3, 4] rfl)

set_option maxHeartbeats 4000000 in
set_option maxRecDepth 100000 in
theorem pw_X2_typeOfProduct_0 {v : cwE} {bd : Nat × Nat} {p : Program} {l : Launch} {e : Env} {s : State} {m : MethodId} {args : Array Value} {below : List Frame} {meth : Method} {c : Code} {d : Nat} {rec : Nat → CS → List Int → CO} {σ0 σ' : CS} {kd : Nat} {r : Int} (hbd : bd = (v.2.2.1, v.2.2.2.1)) (hR : cw_Rec l v d rec) (htr : l.stackTraces = false) (hd5 : 5 ≤ d) (B : cw_B v RX2 p s m args meth c cX2_typeOfProduct 5 (some (.object "PureHouse$Node"))) (hnh : ∀ x ∈ c.exceptionTable.toList, False) : ∀ (σ : CS) (x0 x1 x2 x3 : Int), inR x0 → inR x1 → inR x2 → inR x3 → pc_X2_typeOfProduct_0 rec bd σ x0 x1 x2 x3 = some (σ', kd, r) → ∀ (H : Heap) (locs : List Loc) (cells slots : Nat) (ls : Array Slot), cw_W v s σ0 σ H locs cells slots → cl_has ls 5 [(0, cR x0), (1, cR x1), (2, .int (rI x2)), (3, .int (rI x3))] → W p l e (cw_rm v (d + 1) σ0) s m args below meth c H locs cells slots (cw_Z below v σ0 σ' kd (some (cR r)) args s) (F0 m 0 ls []) := by
  subst hbd
  obtain ⟨hx, hb, hr, hml, hown, hts, hlk, hK⟩ := id B
  intro σ x0 x1 x2 x3 ix0 ix1 ix2 ix3 hf H locs cells slots ls hw hl
  unfold pc_X2_typeOfProduct_0 at hf
  refine cl_aload_n hx hb dX2_typeOfProduct_0 rfl (lv_at hl.1 0 rfl) ?_
  refine lv_iload_n hx hb dX2_typeOfProduct_1 rfl (lv_at hl.1 2 rfl) ?_
  refine lv_iload_n hx hb dX2_typeOfProduct_2 rfl (lv_at hl.1 3 rfl) ?_
  refine cl_aload_n hx hb dX2_typeOfProduct_3 rfl (lv_at hl.1 1 rfl) ?_
  obtain ⟨qσ1, hf⟩ := cc_t_s hf
  obtain ⟨σ1, kv2, z3, hσ1, hf⟩ := cc_cl_s hf
  obtain ⟨iz3, mσ1⟩ := hR 18 σ [x0, x2, x3, x1] σ1 kv2 z3 hσ1
  have mσ1 : cw_Met l v yX2_neededRule cX2_neededRule 5 (some .int) d [cR x0, .int (rI x2), .int (rI x3), cR x1] σ σ1 kv2 (some (.int (rI z3))) := mσ1 ix0 ix2 ix3 ix1
  refine cw_cv (b := x0) (t := 3) (n := 3) (rest := []) (As := [.int (rI x2), .int (rI x3), cR x1]) B mσ1 qσ1 ⟨by decide, by decide⟩ cgo_yX2_neededRule cml_2_184 cin_yX2_neededRule cse_yX2_neededRule (by decide +kernel) (by decide) rfl hl.1.1 (Nat.le_of_ble_eq_true rfl) dX2_typeOfProduct_4 rfl hw (fun h0 H locs cells slots hw => ?_) (fun h0 H locs cells slots q ce hw h1 h2 h3 => ?_)
  · rcases hf with ⟨-, hf⟩ | ⟨hk, -⟩
    · skip
      refine cl_istore (lv' := [(4, .int (rI z3)), (0, cR x0), (1, cR x1), (2, .int (rI x2)), (3, .int (rI x3))]) hx hb dX2_typeOfProduct_7 hl (by decide) rfl (fun ls hl => ?_)
      refine cl_aload_n hx hb dX2_typeOfProduct_9 rfl (lv_at hl.1 2 rfl) ?_
      refine lv_iload_n hx hb dX2_typeOfProduct_10 rfl (lv_at hl.1 3 rfl) ?_
      refine lv_iload_n hx hb dX2_typeOfProduct_11 rfl (lv_at hl.1 4 rfl) ?_
      obtain ⟨qσ4, hf⟩ := cc_t_s hf
      obtain ⟨σ4, kv5, z6, hσ4, hf⟩ := cc_cl_s hf
      obtain ⟨iz6, mσ4⟩ := hR 61 σ1 [x1, x2, x3] σ4 kv5 z6 hσ4
      have mσ4 : cw_Met l v yX6_keepSorts cX6_keepSorts 3 none d [cR x1, .int (rI x2), .int (rI x3)] σ1 σ4 kv5 none := mσ4 ix1 ix2 ix3
      refine cw_cv (b := x1) (t := 7) (n := 2) (rest := []) (As := [.int (rI x2), .int (rI x3)]) B mσ4 qσ4 ⟨by decide, by decide⟩ cgo_yX6_keepSorts cml_2_188 cin_yX6_keepSorts cse_yX6_keepSorts (by decide +kernel) (by decide) rfl hl.1.1 (Nat.le_of_ble_eq_true rfl) dX2_typeOfProduct_12 rfl hw (fun h0 H locs cells slots hw => ?_) (fun h0 H locs cells slots q ce hw h1 h2 h3 => ?_)
      · rcases hf with ⟨-, hf⟩ | ⟨hk, -⟩
        · skip
          refine cl_aload_n hx hb dX2_typeOfProduct_15 rfl (lv_at hl.1 1 rfl) ?_
          refine cl_aload_n hx hb dX2_typeOfProduct_16 rfl (lv_at hl.1 1 rfl) ?_
          obtain ⟨z7, ez7, iz7, rz7, hf⟩ := cc_g_s hw hf
          refine cw_get (val := cR z7) B hw rz7 ⟨by decide, by decide⟩ (by decide) cwi_3 cfl_2_19 ez7 rfl dX2_typeOfProduct_17 ?_
          refine lv_iload hx hb dX2_typeOfProduct_20 (lv_at hl.1 0 rfl) ?_
          obtain ⟨qσ8, hf⟩ := cc_t_s hf
          obtain ⟨σ8, kv9, z10, hσ8, hf⟩ := cc_cl_s hf
          obtain ⟨iz10, mσ8⟩ := hR 1 σ4 [z7, z3] σ8 kv9 z10 hσ8
          have mσ8 : cw_Met l v yX0_axiomOf cX0_axiomOf 2 (some .int) d [cR z7, .int (rI z3)] σ4 σ8 kv9 (some (.int (rI z10))) := mσ8 iz7 iz3
          refine cw_cv (b := z7) (t := 1) (n := 1) (rest := [cR x0]) (As := [.int (rI z3)]) B mσ8 qσ8 ⟨by decide, by decide⟩ cgo_yX0_axiomOf cml_2_157 cin_yX0_axiomOf cse_yX0_axiomOf (by decide +kernel) (by decide) rfl hl.1.1 (cl_cs (cl_1r cl_10) (Nat.le_of_ble_eq_true rfl)) dX2_typeOfProduct_22 rfl hw (fun h0 H locs cells slots hw => ?_) (fun h0 H locs cells slots q ce hw h1 h2 h3 => ?_)
          · rcases hf with ⟨-, hf⟩ | ⟨hk, -⟩
            · skip
              obtain ⟨σ11, eσ11, rσ11, hf⟩ := cc_p_s hf
              refine cw_put B hw rσ11 cwt_3 (by decide) rfl cfl_2_9 iz10 eσ11 rfl (cw_fv_n rfl rfl) dX2_typeOfProduct_25 (fun H locs hw => ?_)
              refine lv_iconst (v := rI 1) hx hb dX2_typeOfProduct_28 rfl ?_
              refine lv_iload hx hb dX2_typeOfProduct_29 (lv_at hl.1 0 rfl) ?_
              obtain ⟨σ12, kv13, z14, hσ12, hf⟩ := cc_cl_s hf
              obtain ⟨iz14, mσ12⟩ := hR 62 σ11 [1, z3] σ12 kv13 z14 hσ12
              have mσ12 : cw_Met l v yX6_leaf cX6_leaf 2 (some (.object "PureHouse$Node")) d [.int (rI 1), .int (rI z3)] σ11 σ12 kv13 (some (cR z14)) := mσ12 ⟨by decide, by decide⟩ iz3
              refine cw_cs (n := 2) (rest := []) (As := [.int (rI 1), .int (rI z3)]) B mσ12 cgo_yX6_leaf cml_2_161 cst_yX6_leaf (by decide +kernel) (by decide) rfl hl.1.1 (Nat.le_of_ble_eq_true rfl) dX2_typeOfProduct_31 rfl hw (fun h0 H locs cells slots hw => ?_) (fun h0 H locs cells slots q ce hw h1 h2 h3 => ?_)
              · rcases hf with ⟨-, hf⟩ | ⟨hk, -⟩
                · skip
                  exact cw_reta B hf hw dX2_typeOfProduct_34
                · exact absurd h0 hk
              · rcases hf with ⟨hk, -⟩ | ⟨-, hf⟩
                · exact absurd hk h0
                · cases hf
                  exact cw_xout B hnh h0 hw h1 h2 h3
            · exact absurd h0 hk
          · rcases hf with ⟨hk, -⟩ | ⟨-, hf⟩
            · exact absurd hk h0
            · cases hf
              exact cw_xout B hnh h0 hw h1 h2 h3
        · exact absurd h0 hk
      · rcases hf with ⟨hk, -⟩ | ⟨-, hf⟩
        · exact absurd hk h0
        · cases hf
          exact cw_xout B hnh h0 hw h1 h2 h3
    · exact absurd h0 hk
  · rcases hf with ⟨hk, -⟩ | ⟨-, hf⟩
    · exact absurd hk h0
    · cases hf
      exact cw_xout B hnh h0 hw h1 h2 h3

set_option maxHeartbeats 4000000 in
set_option maxRecDepth 100000 in
theorem pm_X2_typeOfProduct {v : cwE} {bd : Nat × Nat} {l : Launch} {d : Nat} {rec : Nat → CS → List Int → CO} (hbd : bd = (v.2.2.1, v.2.2.2.1)) (hR : cw_Rec l v d rec) (htr : l.stackTraces = false) (hd5 : 5 ≤ d) (σ σ' : CS) (x0 x1 x2 x3 : Int) (kd : Nat) (r : Int) (ix0 : inR x0) (ix1 : inR x1) (ix2 : inR x2) (ix3 : inR x3) (hf : pc_X2_typeOfProduct_0 rec bd σ x0 x1 x2 x3 = some (σ', kd, r)) : cw_Met l v yX2_typeOfProduct cX2_typeOfProduct 5 (some (.object "PureHouse$Node")) (d + 1) [cR x0, cR x1, .int (rI x2), .int (rI x3)] σ σ' kd (some (cR r)) := by
  refine cw_ofW (by decide +kernel) ?_
  intro p e s m args below meth c s₁ B hml hv
  obtain ⟨rfl, hM, hK⟩ := hv
  have hts := atoms_spec (ws := Cond.code yX2_typeOfProduct cX2_typeOfProduct 5 (some (.object "PureHouse$Node")) :: cw_bw) B.pre
  have hB : cw_B v RX2 p s m _ meth c cX2_typeOfProduct 5 (some (.object "PureHouse$Node")) := ⟨B.exec, B.bytes, B.returns, hml, findClass_of_methodNamed B.named, fun w h => hts w (List.mem_cons_of_mem _ h), B.notSynchronized, hK⟩
  have hnh := cc_nh B (hts _ List.mem_cons_self)
  rw [lg_entry_eq]
  obtain ⟨ls, hls, hl⟩ := cl_ent [cR x0, cR x1, .int (rI x2), .int (rI x3)] 5 (cl_1r (cl_1r (cl_1i (cl_1i cl_10)))) (Nat.le_of_ble_eq_true rfl)
  rw [hls]
  exact pw_X2_typeOfProduct_0 hbd hR htr hd5 hB hnh σ x0 x1 x2 x3 ix0 ix1 ix2 ix3 hf _ _ _ _ _ (cw_W0 hM) (cl_sub hl [0, 1, 2, 3] rfl)

set_option maxHeartbeats 4000000 in
set_option maxRecDepth 100000 in
theorem pw_X3_find_2 {v : cwE} {bd : Nat × Nat} {p : Program} {l : Launch} {e : Env} {s : State} {m : MethodId} {args : Array Value} {below : List Frame} {meth : Method} {c : Code} {d : Nat} {rec : Nat → CS → List Int → CO} {σ0 σ' : CS} {kd : Nat} {r : Int} (hbd : bd = (v.2.2.1, v.2.2.2.1)) (hR : cw_Rec l v d rec) (htr : l.stackTraces = false) (hd5 : 5 ≤ d) (B : cw_B v RX3 p s m args meth c cX3_find 3 (some (.object "PureHouse$Link"))) (hnh : ∀ x ∈ c.exceptionTable.toList, False) : ∀ (n : Nat) (σ : CS) (x0 x2 : Int), inR x0 → inR x2 → pc_X3_find_2 rec bd n σ x0 x2 = some (σ', kd, r) → ∀ (H : Heap) (locs : List Loc) (cells slots : Nat) (ls : Array Slot), cw_W v s σ0 σ H locs cells slots → cl_has ls 3 [(0, .int (rI x0)), (2, cR x2)] → W p l e (cw_rm v (d + 1) σ0) s m args below meth c H locs cells slots (cw_Z below v σ0 σ' kd (some (cR r)) args s) (F0 m 2 ls []) := by
  subst hbd
  obtain ⟨hx, hb, hr, hml, hown, hts, hlk, hK⟩ := id B
  intro n
  induction n with
  | zero => intro σ x0 x2 ix0 ix2 hf; cases hf
  | succ n ih =>
    intro σ x0 x2 ix0 ix2 hf H locs cells slots ls hw hl
    unfold pc_X3_find_2 at hf
    refine cl_aload_n hx hb dX3_find_2 rfl (lv_at hl.1 1 rfl) ?_
    refine cl_ifnull (x := x2) (tgt := 24) hx hb dX3_find_3 (by decide) (fun c1 => ?_) (fun c1 => ?_)
    · replace hf := cc_if_t hf c1
      refine cl_null hx hb dX3_find_24 ?_
      exact cw_reta B hf hw dX3_find_25
    · replace hf := cc_if_f hf c1
      refine cl_aload_n hx hb dX3_find_6 rfl (lv_at hl.1 1 rfl) ?_
      obtain ⟨z2, ez2, iz2, rz2, hf⟩ := cc_g_s hw hf
      refine cw_get (val := .int (rI z2)) B hw rz2 ⟨by decide, by decide⟩ (by decide) cwi_4 cfl_3_7 ez2 rfl dX3_find_7 ?_
      refine lv_iload_n hx hb dX3_find_10 rfl (lv_at hl.1 0 rfl) ?_
      refine rn_icmp_ne (a := z2) (b := x0) (tgt := 16) hx hb iz2 ix0 dX3_find_11 (by decide) (fun c3 => ?_) (fun c3 => ?_)
      · replace hf := cc_if_t hf c3
        refine cl_aload_n hx hb dX3_find_16 rfl (lv_at hl.1 1 rfl) ?_
        obtain ⟨z4, ez4, iz4, rz4, hf⟩ := cc_g_s hw hf
        refine cw_get (val := cR z4) B hw rz4 ⟨by decide, by decide⟩ (by decide) cwi_4 cfl_3_24 ez4 rfl dX3_find_17 ?_
        refine cl_astore_n (lv' := [(2, cR z4), (0, .int (rI x0))]) hx hb dX3_find_20 rfl hl (by decide) rfl (fun ls hl => ?_)
        refine lv_goto (tgt := 2) hx hb dX3_find_21 (by decide) ?_
        exact ih σ x0 z4 ix0 iz4 hf _ _ _ _ _ hw (cl_sub hl [1, 0] rfl)
      · replace hf := cc_if_f hf c3
        refine cl_aload_n hx hb dX3_find_14 rfl (lv_at hl.1 1 rfl) ?_
        exact cw_reta B hf hw dX3_find_15

set_option maxHeartbeats 4000000 in
set_option maxRecDepth 100000 in
theorem pw_X3_find_0 {v : cwE} {bd : Nat × Nat} {p : Program} {l : Launch} {e : Env} {s : State} {m : MethodId} {args : Array Value} {below : List Frame} {meth : Method} {c : Code} {d : Nat} {rec : Nat → CS → List Int → CO} {σ0 σ' : CS} {kd : Nat} {r : Int} (hbd : bd = (v.2.2.1, v.2.2.2.1)) (hR : cw_Rec l v d rec) (htr : l.stackTraces = false) (hd5 : 5 ≤ d) (B : cw_B v RX3 p s m args meth c cX3_find 3 (some (.object "PureHouse$Link"))) (hnh : ∀ x ∈ c.exceptionTable.toList, False) : ∀ (σ : CS) (x0 x1 : Int), inR x0 → inR x1 → pc_X3_find_0 rec bd σ x0 x1 = some (σ', kd, r) → ∀ (H : Heap) (locs : List Loc) (cells slots : Nat) (ls : Array Slot), cw_W v s σ0 σ H locs cells slots → cl_has ls 3 [(0, .int (rI x0)), (1, cR x1)] → W p l e (cw_rm v (d + 1) σ0) s m args below meth c H locs cells slots (cw_Z below v σ0 σ' kd (some (cR r)) args s) (F0 m 0 ls []) := by
  subst hbd
  obtain ⟨hx, hb, hr, hml, hown, hts, hlk, hK⟩ := id B
  intro σ x0 x1 ix0 ix1 hf H locs cells slots ls hw hl
  unfold pc_X3_find_0 at hf
  refine cl_aload_n hx hb dX3_find_0 rfl (lv_at hl.1 1 rfl) ?_
  refine cl_astore_n (lv' := [(2, cR x1), (0, .int (rI x0)), (1, cR x1)]) hx hb dX3_find_1 rfl hl (by decide) rfl (fun ls hl => ?_)
  exact pw_X3_find_2 rfl hR htr hd5 B hnh 1100000 σ x0 x1 ix0 ix1 hf _ _ _ _ _ hw (cl_sub hl [1, 0] rfl)

set_option maxHeartbeats 4000000 in
set_option maxRecDepth 100000 in
theorem pm_X3_find {v : cwE} {bd : Nat × Nat} {l : Launch} {d : Nat} {rec : Nat → CS → List Int → CO} (hbd : bd = (v.2.2.1, v.2.2.2.1)) (hR : cw_Rec l v d rec) (htr : l.stackTraces = false) (hd5 : 5 ≤ d) (σ σ' : CS) (x0 x1 : Int) (kd : Nat) (r : Int) (ix0 : inR x0) (ix1 : inR x1) (hf : pc_X3_find_0 rec bd σ x0 x1 = some (σ', kd, r)) : cw_Met l v yX3_find cX3_find 3 (some (.object "PureHouse$Link")) (d + 1) [.int (rI x0), cR x1] σ σ' kd (some (cR r)) := by
  refine cw_ofW (by decide +kernel) ?_
  intro p e s m args below meth c s₁ B hml hv
  obtain ⟨rfl, hM, hK⟩ := hv
  have hts := atoms_spec (ws := Cond.code yX3_find cX3_find 3 (some (.object "PureHouse$Link")) :: cw_bw) B.pre
  have hB : cw_B v RX3 p s m _ meth c cX3_find 3 (some (.object "PureHouse$Link")) := ⟨B.exec, B.bytes, B.returns, hml, findClass_of_methodNamed B.named, fun w h => hts w (List.mem_cons_of_mem _ h), B.notSynchronized, hK⟩
  have hnh := cc_nh B (hts _ List.mem_cons_self)
  rw [lg_entry_eq]
  obtain ⟨ls, hls, hl⟩ := cl_ent [.int (rI x0), cR x1] 3 (cl_1i (cl_1r cl_10)) (Nat.le_of_ble_eq_true rfl)
  rw [hls]
  exact pw_X3_find_0 hbd hR htr hd5 hB hnh σ x0 x1 ix0 ix1 hf _ _ _ _ _ (cw_W0 hM) (cl_sub hl [0, 1] rfl)

set_option maxHeartbeats 4000000 in
set_option maxRecDepth 100000 in
theorem pw_X3_init_0 {v : cwE} {bd : Nat × Nat} {p : Program} {l : Launch} {e : Env} {s : State} {m : MethodId} {args : Array Value} {below : List Frame} {meth : Method} {c : Code} {d : Nat} {rec : Nat → CS → List Int → CO} {σ0 σ' : CS} {kd : Nat} {r : Int} (hbd : bd = (v.2.2.1, v.2.2.2.1)) (hR : cw_Rec l v d rec) (htr : l.stackTraces = false) (hd5 : 5 ≤ d) (B : cw_B v RX3 p s m args meth c cX3_init 6 none) (hin : meth.name = "<init>") (hnh : ∀ x ∈ c.exceptionTable.toList, False) : ∀ (σ : CS) (x0 x1 x2 x3 x4 x5 : Int), inR x0 → inR x1 → inR x2 → inR x3 → inR x4 → inR x5 → pc_X3_init_0 rec bd σ x0 x1 x2 x3 x4 x5 = some (σ', kd, r) → ∀ (H : Heap) (locs : List Loc) (cells slots : Nat) (ls : Array Slot), cw_W v s σ0 σ H locs cells slots → cl_has ls 6 [(0, cR x0), (1, .int (rI x1)), (2, cR x2), (3, cR x3), (4, .int (rI x4)), (5, cR x5)] → W p l e (cw_rm v (d + 1) σ0) s m args below meth c H locs cells slots (cw_Z below v σ0 σ' kd none args s) (F0 m 0 ls []) := by
  subst hbd
  obtain ⟨hx, hb, hr, hml, hown, hts, hlk, hK⟩ := id B
  intro σ x0 x1 x2 x3 x4 x5 ix0 ix1 ix2 ix3 ix4 ix5 hf H locs cells slots ls hw hl
  unfold pc_X3_init_0 at hf
  refine cl_aload_n hx hb dX3_init_0 rfl (lv_at hl.1 0 rfl) ?_
  obtain ⟨q0, hf⟩ := cc_t_s hf
  rw [cR_r q0.1]
  refine W.objInit hx hb hown (hts _ coi_3_1) (hts _ coi2) (hts _ coi3) rfl (hl.1.1.trans hml.symm) rfl dX3_init_1 (by show 1 ≤ d + 1; omega) (by show _ + 12 ≤ 100 * (d + 1); simp [JFrame.monitorRoom]; omega) ?_
  refine cl_aload_n hx hb dX3_init_4 rfl (lv_at hl.1 0 rfl) ?_
  refine lv_iload_n hx hb dX3_init_5 rfl (lv_at hl.1 1 rfl) ?_
  obtain ⟨σ1, eσ1, rσ1, hf⟩ := cc_p_s hf
  refine cw_putF B hin hw rσ1 cwt_4 (by decide) rfl rfl rfl cfl_3_7 ix1 eσ1 rfl (cw_fv_n rfl rfl) dX3_init_6 (fun H locs hw => ?_)
  refine cl_aload_n hx hb dX3_init_9 rfl (lv_at hl.1 0 rfl) ?_
  refine cl_aload_n hx hb dX3_init_10 rfl (lv_at hl.1 2 rfl) ?_
  obtain ⟨σ2, eσ2, rσ2, hf⟩ := cc_p_s hf
  refine cw_putF B hin hw rσ2 cwt_4 (by decide) rfl rfl rfl cfl_3_13 ix2 eσ2 rfl (cw_fv_r rfl (Or.inl ⟨_, rfl⟩)) dX3_init_11 (fun H locs hw => ?_)
  refine cl_aload_n hx hb dX3_init_14 rfl (lv_at hl.1 0 rfl) ?_
  refine cl_aload_n hx hb dX3_init_15 rfl (lv_at hl.1 3 rfl) ?_
  obtain ⟨σ3, eσ3, rσ3, hf⟩ := cc_p_s hf
  refine cw_putF B hin hw rσ3 cwt_4 (by decide) rfl rfl rfl cfl_3_17 ix3 eσ3 rfl (cw_fv_r rfl (Or.inl ⟨_, rfl⟩)) dX3_init_16 (fun H locs hw => ?_)
  refine cl_aload_n hx hb dX3_init_19 rfl (lv_at hl.1 0 rfl) ?_
  refine lv_iload hx hb dX3_init_20 (lv_at hl.1 4 rfl) ?_
  obtain ⟨σ4, eσ4, rσ4, hf⟩ := cc_p_s hf
  refine cw_putF B hin hw rσ4 cwt_4 (by decide) rfl rfl rfl cfl_3_21 ix4 eσ4 rfl (cw_fv_n rfl rfl) dX3_init_22 (fun H locs hw => ?_)
  refine cl_aload_n hx hb dX3_init_25 rfl (lv_at hl.1 0 rfl) ?_
  refine cl_aload hx hb dX3_init_26 (lv_at hl.1 5 rfl) ?_
  obtain ⟨σ5, eσ5, rσ5, hf⟩ := cc_p_s hf
  refine cw_putF B hin hw rσ5 cwt_4 (by decide) rfl rfl rfl cfl_3_24 ix5 eσ5 rfl (cw_fv_r rfl (Or.inl ⟨_, rfl⟩)) dX3_init_28 (fun H locs hw => ?_)
  exact cw_retv B hf hw dX3_init_31

set_option maxHeartbeats 4000000 in
set_option maxRecDepth 100000 in
theorem pm_X3_init {v : cwE} {bd : Nat × Nat} {l : Launch} {d : Nat} {rec : Nat → CS → List Int → CO} (hbd : bd = (v.2.2.1, v.2.2.2.1)) (hR : cw_Rec l v d rec) (htr : l.stackTraces = false) (hd5 : 5 ≤ d) (σ σ' : CS) (x0 x1 x2 x3 x4 x5 : Int) (kd : Nat) (r : Int) (ix0 : inR x0) (ix1 : inR x1) (ix2 : inR x2) (ix3 : inR x3) (ix4 : inR x4) (ix5 : inR x5) (hf : pc_X3_init_0 rec bd σ x0 x1 x2 x3 x4 x5 = some (σ', kd, r)) : cw_Met l v yX3_init cX3_init 6 none (d + 1) [cR x0, .int (rI x1), cR x2, cR x3, .int (rI x4), cR x5] σ σ' kd none := by
  refine cw_ofW (by decide +kernel) ?_
  intro p e s m args below meth c s₁ B hml hv
  obtain ⟨rfl, hM, hK⟩ := hv
  have hts := atoms_spec (ws := Cond.code yX3_init cX3_init 6 none :: cw_bw) B.pre
  have hB : cw_B v RX3 p s m _ meth c cX3_init 6 none := ⟨B.exec, B.bytes, B.returns, hml, findClass_of_methodNamed B.named, fun w h => hts w (List.mem_cons_of_mem _ h), B.notSynchronized, hK⟩
  have hnh := cc_nh B (hts _ List.mem_cons_self)
  rw [lg_entry_eq]
  obtain ⟨ls, hls, hl⟩ := cl_ent [cR x0, .int (rI x1), cR x2, cR x3, .int (rI x4), cR x5] 6 (cl_1r (cl_1i (cl_1r (cl_1r (cl_1i (cl_1r cl_10)))))) (Nat.le_of_ble_eq_true rfl)
  rw [hls]
  exact pw_X3_init_0 hbd hR htr hd5 hB (name_of_methodNamed B.named B.method).1 hnh σ x0 x1 x2 x3 x4 x5 ix0 ix1 ix2 ix3 ix4 ix5 hf _ _ _ _ _ (cw_W0 hM) (cl_sub hl [0, 1, 2, 3, 4, 5] rfl)

set_option maxHeartbeats 4000000 in
set_option maxRecDepth 100000 in
theorem pw_X3_lengthOf_4 {v : cwE} {bd : Nat × Nat} {p : Program} {l : Launch} {e : Env} {s : State} {m : MethodId} {args : Array Value} {below : List Frame} {meth : Method} {c : Code} {d : Nat} {rec : Nat → CS → List Int → CO} {σ0 σ' : CS} {kd : Nat} {r : Int} (hbd : bd = (v.2.2.1, v.2.2.2.1)) (hR : cw_Rec l v d rec) (htr : l.stackTraces = false) (hd5 : 5 ≤ d) (B : cw_B v RX3 p s m args meth c cX3_lengthOf 3 (some .int)) (hnh : ∀ x ∈ c.exceptionTable.toList, False) : ∀ (n : Nat) (σ : CS) (x1 x2 : Int), inR x1 → inR x2 → pc_X3_lengthOf_4 rec bd n σ x1 x2 = some (σ', kd, r) → ∀ (H : Heap) (locs : List Loc) (cells slots : Nat) (ls : Array Slot), cw_W v s σ0 σ H locs cells slots → cl_has ls 3 [(1, .int (rI x1)), (2, cR x2)] → W p l e (cw_rm v (d + 1) σ0) s m args below meth c H locs cells slots (cw_Z below v σ0 σ' kd (some (.int (rI r))) args s) (F0 m 4 ls []) := by
  subst hbd
  obtain ⟨hx, hb, hr, hml, hown, hts, hlk, hK⟩ := id B
  intro n
  induction n with
  | zero => intro σ x1 x2 ix1 ix2 hf; cases hf
  | succ n ih =>
    intro σ x1 x2 ix1 ix2 hf H locs cells slots ls hw hl
    unfold pc_X3_lengthOf_4 at hf
    refine cl_aload_n hx hb dX3_lengthOf_4 rfl (lv_at hl.1 1 rfl) ?_
    refine cl_ifnull (x := x2) (tgt := 19) hx hb dX3_lengthOf_5 (by decide) (fun c1 => ?_) (fun c1 => ?_)
    · replace hf := cc_if_t hf c1
      refine lv_iload_n hx hb dX3_lengthOf_19 rfl (lv_at hl.1 0 rfl) ?_
      exact cw_reti B hf hw dX3_lengthOf_20
    · replace hf := cc_if_f hf c1
      obtain ⟨z2, ez2, iz2, hf⟩ := cc_ck_s hf
      refine cl_iinc (v := rI z2) (lv' := [(1, .int (rI z2)), (2, cR x2)]) hx hb dX3_lengthOf_8 hl (k := 0) rfl (by rw [ez2]; exact rI_add _ _) (by decide) rfl (fun ls hl => ?_)
      refine cl_aload_n hx hb dX3_lengthOf_11 rfl (lv_at hl.1 1 rfl) ?_
      obtain ⟨z3, ez3, iz3, rz3, hf⟩ := cc_g_s hw hf
      refine cw_get (val := cR z3) B hw rz3 ⟨by decide, by decide⟩ (by decide) cwi_4 cfl_3_24 ez3 rfl dX3_lengthOf_12 ?_
      refine cl_astore_n (lv' := [(2, cR z3), (1, .int (rI z2))]) hx hb dX3_lengthOf_15 rfl hl (by decide) rfl (fun ls hl => ?_)
      refine lv_goto (tgt := 4) hx hb dX3_lengthOf_16 (by decide) ?_
      exact ih σ z2 z3 iz2 iz3 hf _ _ _ _ _ hw (cl_sub hl [1, 0] rfl)

set_option maxHeartbeats 4000000 in
set_option maxRecDepth 100000 in
theorem pw_X3_lengthOf_0 {v : cwE} {bd : Nat × Nat} {p : Program} {l : Launch} {e : Env} {s : State} {m : MethodId} {args : Array Value} {below : List Frame} {meth : Method} {c : Code} {d : Nat} {rec : Nat → CS → List Int → CO} {σ0 σ' : CS} {kd : Nat} {r : Int} (hbd : bd = (v.2.2.1, v.2.2.2.1)) (hR : cw_Rec l v d rec) (htr : l.stackTraces = false) (hd5 : 5 ≤ d) (B : cw_B v RX3 p s m args meth c cX3_lengthOf 3 (some .int)) (hnh : ∀ x ∈ c.exceptionTable.toList, False) : ∀ (σ : CS) (x0 : Int), inR x0 → pc_X3_lengthOf_0 rec bd σ x0 = some (σ', kd, r) → ∀ (H : Heap) (locs : List Loc) (cells slots : Nat) (ls : Array Slot), cw_W v s σ0 σ H locs cells slots → cl_has ls 3 [(0, cR x0)] → W p l e (cw_rm v (d + 1) σ0) s m args below meth c H locs cells slots (cw_Z below v σ0 σ' kd (some (.int (rI r))) args s) (F0 m 0 ls []) := by
  subst hbd
  obtain ⟨hx, hb, hr, hml, hown, hts, hlk, hK⟩ := id B
  intro σ x0 ix0 hf H locs cells slots ls hw hl
  unfold pc_X3_lengthOf_0 at hf
  refine lv_iconst (v := rI 0) hx hb dX3_lengthOf_0 rfl ?_
  refine cl_istore_n (lv' := [(1, .int (rI 0)), (0, cR x0)]) hx hb dX3_lengthOf_1 rfl hl (by decide) rfl (fun ls hl => ?_)
  refine cl_aload_n hx hb dX3_lengthOf_2 rfl (lv_at hl.1 1 rfl) ?_
  refine cl_astore_n (lv' := [(2, cR x0), (1, .int (rI 0)), (0, cR x0)]) hx hb dX3_lengthOf_3 rfl hl (by decide) rfl (fun ls hl => ?_)
  exact pw_X3_lengthOf_4 rfl hR htr hd5 B hnh 1100000 σ 0 x0 ⟨by decide, by decide⟩ ix0 hf _ _ _ _ _ hw (cl_sub hl [1, 0] rfl)

set_option maxHeartbeats 4000000 in
set_option maxRecDepth 100000 in
theorem pm_X3_lengthOf {v : cwE} {bd : Nat × Nat} {l : Launch} {d : Nat} {rec : Nat → CS → List Int → CO} (hbd : bd = (v.2.2.1, v.2.2.2.1)) (hR : cw_Rec l v d rec) (htr : l.stackTraces = false) (hd5 : 5 ≤ d) (σ σ' : CS) (x0 : Int) (kd : Nat) (r : Int) (ix0 : inR x0) (hf : pc_X3_lengthOf_0 rec bd σ x0 = some (σ', kd, r)) : cw_Met l v yX3_lengthOf cX3_lengthOf 3 (some .int) (d + 1) [cR x0] σ σ' kd (some (.int (rI r))) := by
  refine cw_ofW (by decide +kernel) ?_
  intro p e s m args below meth c s₁ B hml hv
  obtain ⟨rfl, hM, hK⟩ := hv
  have hts := atoms_spec (ws := Cond.code yX3_lengthOf cX3_lengthOf 3 (some .int) :: cw_bw) B.pre
  have hB : cw_B v RX3 p s m _ meth c cX3_lengthOf 3 (some .int) := ⟨B.exec, B.bytes, B.returns, hml, findClass_of_methodNamed B.named, fun w h => hts w (List.mem_cons_of_mem _ h), B.notSynchronized, hK⟩
  have hnh := cc_nh B (hts _ List.mem_cons_self)
  rw [lg_entry_eq]
  obtain ⟨ls, hls, hl⟩ := cl_ent [cR x0] 3 (cl_1r cl_10) (Nat.le_of_ble_eq_true rfl)
  rw [hls]
  exact pw_X3_lengthOf_0 hbd hR htr hd5 hB hnh σ x0 ix0 hf _ _ _ _ _ (cw_W0 hM) (cl_sub hl [0] rfl)

set_option maxHeartbeats 4000000 in
set_option maxRecDepth 100000 in
theorem pw_X3_part_0 {v : cwE} {bd : Nat × Nat} {p : Program} {l : Launch} {e : Env} {s : State} {m : MethodId} {args : Array Value} {below : List Frame} {meth : Method} {c : Code} {d : Nat} {rec : Nat → CS → List Int → CO} {σ0 σ' : CS} {kd : Nat} {r : Int} (hbd : bd = (v.2.2.1, v.2.2.2.1)) (hR : cw_Rec l v d rec) (htr : l.stackTraces = false) (hd5 : 5 ≤ d) (B : cw_B v RX3 p s m args meth c cX3_part 3 (some (.object "PureHouse$Link"))) (hnh : ∀ x ∈ c.exceptionTable.toList, False) : ∀ (σ : CS) (x0 x1 x2 : Int), inR x0 → inR x1 → inR x2 → pc_X3_part_0 rec bd σ x0 x1 x2 = some (σ', kd, r) → ∀ (H : Heap) (locs : List Loc) (cells slots : Nat) (ls : Array Slot), cw_W v s σ0 σ H locs cells slots → cl_has ls 3 [(0, cR x0), (1, cR x1), (2, cR x2)] → W p l e (cw_rm v (d + 1) σ0) s m args below meth c H locs cells slots (cw_Z below v σ0 σ' kd (some (cR r)) args s) (F0 m 0 ls []) := by
  subst hbd
  obtain ⟨hx, hb, hr, hml, hown, hts, hlk, hK⟩ := id B
  intro σ x0 x1 x2 ix0 ix1 ix2 hf H locs cells slots ls hw hl
  unfold pc_X3_part_0 at hf
  obtain ⟨σ1, z2, eσ1, ez2, iz2, rσ1, hf⟩ := cc_n_s hf
  refine cw_new B hw cwt_4 rfl cwd_4 cnl_3_8 cni_4 cnz_4 rσ1 eσ1 ez2 dX3_part_0 (fun H hw => ?_)
  refine lv_dup hx hb dX3_part_3 (cR_cat _) ?_
  refine lv_iconst (v := rI 0) hx hb dX3_part_4 rfl ?_
  refine cl_aload_n hx hb dX3_part_5 rfl (lv_at hl.1 0 rfl) ?_
  refine cl_aload_n hx hb dX3_part_6 rfl (lv_at hl.1 1 rfl) ?_
  refine lv_iconst (v := rI 0) hx hb dX3_part_7 rfl ?_
  refine cl_aload_n hx hb dX3_part_8 rfl (lv_at hl.1 2 rfl) ?_
  obtain ⟨qσ3, hf⟩ := cc_t_s hf
  obtain ⟨σ3, z5, hσ3, hf⟩ := cc_ci_s hf
  obtain ⟨iz5, mσ3⟩ := hR 27 σ1 [z2, 0, x0, x1, 0, x2] σ3 0 z5 hσ3
  have mσ3 : cw_Met l v yX3_init cX3_init 6 none d [cR z2, .int (rI 0), cR x0, cR x1, .int (rI 0), cR x2] σ1 σ3 0 none := mσ3 iz2 ⟨by decide, by decide⟩ ix0 ix1 ⟨by decide, by decide⟩ ix2
  refine cw_ci (b := z2) (n := 5) (rest := [cR z2]) (As := [.int (rI 0), cR x0, cR x1, .int (rI 0), cR x2]) B mσ3 qσ3.1 rfl cgo_yX3_init cml_3_27 cin_yX3_init (by decide +kernel) (by decide) rfl hl.1.1 (cl_cs (cl_1r cl_10) (Nat.le_of_ble_eq_true rfl)) dX3_part_9 rfl hw (fun H locs cells slots hw => ?_)
  exact cw_reta B hf hw dX3_part_12

set_option maxHeartbeats 4000000 in
set_option maxRecDepth 100000 in
theorem pm_X3_part {v : cwE} {bd : Nat × Nat} {l : Launch} {d : Nat} {rec : Nat → CS → List Int → CO} (hbd : bd = (v.2.2.1, v.2.2.2.1)) (hR : cw_Rec l v d rec) (htr : l.stackTraces = false) (hd5 : 5 ≤ d) (σ σ' : CS) (x0 x1 x2 : Int) (kd : Nat) (r : Int) (ix0 : inR x0) (ix1 : inR x1) (ix2 : inR x2) (hf : pc_X3_part_0 rec bd σ x0 x1 x2 = some (σ', kd, r)) : cw_Met l v yX3_part cX3_part 3 (some (.object "PureHouse$Link")) (d + 1) [cR x0, cR x1, cR x2] σ σ' kd (some (cR r)) := by
  refine cw_ofW (by decide +kernel) ?_
  intro p e s m args below meth c s₁ B hml hv
  obtain ⟨rfl, hM, hK⟩ := hv
  have hts := atoms_spec (ws := Cond.code yX3_part cX3_part 3 (some (.object "PureHouse$Link")) :: cw_bw) B.pre
  have hB : cw_B v RX3 p s m _ meth c cX3_part 3 (some (.object "PureHouse$Link")) := ⟨B.exec, B.bytes, B.returns, hml, findClass_of_methodNamed B.named, fun w h => hts w (List.mem_cons_of_mem _ h), B.notSynchronized, hK⟩
  have hnh := cc_nh B (hts _ List.mem_cons_self)
  rw [lg_entry_eq]
  obtain ⟨ls, hls, hl⟩ := cl_ent [cR x0, cR x1, cR x2] 3 (cl_1r (cl_1r (cl_1r cl_10))) (Nat.le_of_ble_eq_true rfl)
  rw [hls]
  exact pw_X3_part_0 hbd hR htr hd5 hB hnh σ x0 x1 x2 ix0 ix1 ix2 hf _ _ _ _ _ (cw_W0 hM) (cl_sub hl [0, 1, 2] rfl)

set_option maxHeartbeats 4000000 in
set_option maxRecDepth 100000 in
theorem pw_X3_put_0 {v : cwE} {bd : Nat × Nat} {p : Program} {l : Launch} {e : Env} {s : State} {m : MethodId} {args : Array Value} {below : List Frame} {meth : Method} {c : Code} {d : Nat} {rec : Nat → CS → List Int → CO} {σ0 σ' : CS} {kd : Nat} {r : Int} (hbd : bd = (v.2.2.1, v.2.2.2.1)) (hR : cw_Rec l v d rec) (htr : l.stackTraces = false) (hd5 : 5 ≤ d) (B : cw_B v RX3 p s m args meth c cX3_put 4 (some (.object "PureHouse$Link"))) (hnh : ∀ x ∈ c.exceptionTable.toList, False) : ∀ (σ : CS) (x0 x1 x2 x3 : Int), inR x0 → inR x1 → inR x2 → inR x3 → pc_X3_put_0 rec bd σ x0 x1 x2 x3 = some (σ', kd, r) → ∀ (H : Heap) (locs : List Loc) (cells slots : Nat) (ls : Array Slot), cw_W v s σ0 σ H locs cells slots → cl_has ls 4 [(0, .int (rI x0)), (1, cR x1), (2, cR x2), (3, cR x3)] → W p l e (cw_rm v (d + 1) σ0) s m args below meth c H locs cells slots (cw_Z below v σ0 σ' kd (some (cR r)) args s) (F0 m 0 ls []) := by
  subst hbd
  obtain ⟨hx, hb, hr, hml, hown, hts, hlk, hK⟩ := id B
  intro σ x0 x1 x2 x3 ix0 ix1 ix2 ix3 hf H locs cells slots ls hw hl
  unfold pc_X3_put_0 at hf
  obtain ⟨σ1, z2, eσ1, ez2, iz2, rσ1, hf⟩ := cc_n_s hf
  refine cw_new B hw cwt_4 rfl cwd_4 cnl_3_8 cni_4 cnz_4 rσ1 eσ1 ez2 dX3_put_0 (fun H hw => ?_)
  refine lv_dup hx hb dX3_put_3 (cR_cat _) ?_
  refine lv_iload_n hx hb dX3_put_4 rfl (lv_at hl.1 0 rfl) ?_
  refine cl_aload_n hx hb dX3_put_5 rfl (lv_at hl.1 1 rfl) ?_
  refine cl_aload_n hx hb dX3_put_6 rfl (lv_at hl.1 2 rfl) ?_
  refine lv_iconst (v := rI 0) hx hb dX3_put_7 rfl ?_
  refine cl_aload_n hx hb dX3_put_8 rfl (lv_at hl.1 3 rfl) ?_
  obtain ⟨qσ3, hf⟩ := cc_t_s hf
  obtain ⟨σ3, z5, hσ3, hf⟩ := cc_ci_s hf
  obtain ⟨iz5, mσ3⟩ := hR 27 σ1 [z2, x0, x1, x2, 0, x3] σ3 0 z5 hσ3
  have mσ3 : cw_Met l v yX3_init cX3_init 6 none d [cR z2, .int (rI x0), cR x1, cR x2, .int (rI 0), cR x3] σ1 σ3 0 none := mσ3 iz2 ix0 ix1 ix2 ⟨by decide, by decide⟩ ix3
  refine cw_ci (b := z2) (n := 5) (rest := [cR z2]) (As := [.int (rI x0), cR x1, cR x2, .int (rI 0), cR x3]) B mσ3 qσ3.1 rfl cgo_yX3_init cml_3_27 cin_yX3_init (by decide +kernel) (by decide) rfl hl.1.1 (cl_cs (cl_1r cl_10) (Nat.le_of_ble_eq_true rfl)) dX3_put_9 rfl hw (fun H locs cells slots hw => ?_)
  exact cw_reta B hf hw dX3_put_12

set_option maxHeartbeats 4000000 in
set_option maxRecDepth 100000 in
theorem pm_X3_put {v : cwE} {bd : Nat × Nat} {l : Launch} {d : Nat} {rec : Nat → CS → List Int → CO} (hbd : bd = (v.2.2.1, v.2.2.2.1)) (hR : cw_Rec l v d rec) (htr : l.stackTraces = false) (hd5 : 5 ≤ d) (σ σ' : CS) (x0 x1 x2 x3 : Int) (kd : Nat) (r : Int) (ix0 : inR x0) (ix1 : inR x1) (ix2 : inR x2) (ix3 : inR x3) (hf : pc_X3_put_0 rec bd σ x0 x1 x2 x3 = some (σ', kd, r)) : cw_Met l v yX3_put cX3_put 4 (some (.object "PureHouse$Link")) (d + 1) [.int (rI x0), cR x1, cR x2, cR x3] σ σ' kd (some (cR r)) := by
  refine cw_ofW (by decide +kernel) ?_
  intro p e s m args below meth c s₁ B hml hv
  obtain ⟨rfl, hM, hK⟩ := hv
  have hts := atoms_spec (ws := Cond.code yX3_put cX3_put 4 (some (.object "PureHouse$Link")) :: cw_bw) B.pre
  have hB : cw_B v RX3 p s m _ meth c cX3_put 4 (some (.object "PureHouse$Link")) := ⟨B.exec, B.bytes, B.returns, hml, findClass_of_methodNamed B.named, fun w h => hts w (List.mem_cons_of_mem _ h), B.notSynchronized, hK⟩
  have hnh := cc_nh B (hts _ List.mem_cons_self)
  rw [lg_entry_eq]
  obtain ⟨ls, hls, hl⟩ := cl_ent [.int (rI x0), cR x1, cR x2, cR x3] 4 (cl_1i (cl_1r (cl_1r (cl_1r cl_10)))) (Nat.le_of_ble_eq_true rfl)
  rw [hls]
  exact pw_X3_put_0 hbd hR htr hd5 hB hnh σ x0 x1 x2 x3 ix0 ix1 ix2 ix3 hf _ _ _ _ _ (cw_W0 hM) (cl_sub hl [0, 1, 2, 3] rfl)

set_option maxHeartbeats 4000000 in
set_option maxRecDepth 100000 in
theorem pw_X3_putNew_0 {v : cwE} {bd : Nat × Nat} {p : Program} {l : Launch} {e : Env} {s : State} {m : MethodId} {args : Array Value} {below : List Frame} {meth : Method} {c : Code} {d : Nat} {rec : Nat → CS → List Int → CO} {σ0 σ' : CS} {kd : Nat} {r : Int} (hbd : bd = (v.2.2.1, v.2.2.2.1)) (hR : cw_Rec l v d rec) (htr : l.stackTraces = false) (hd5 : 5 ≤ d) (B : cw_B v RX3 p s m args meth c cX3_putNew 3 (some (.object "PureHouse$Link"))) (hnh : ∀ x ∈ c.exceptionTable.toList, False) : ∀ (σ : CS) (x0 x1 x2 : Int), inR x0 → inR x1 → inR x2 → pc_X3_putNew_0 rec bd σ x0 x1 x2 = some (σ', kd, r) → ∀ (H : Heap) (locs : List Loc) (cells slots : Nat) (ls : Array Slot), cw_W v s σ0 σ H locs cells slots → cl_has ls 3 [(0, .int (rI x0)), (1, .int (rI x1)), (2, cR x2)] → W p l e (cw_rm v (d + 1) σ0) s m args below meth c H locs cells slots (cw_Z below v σ0 σ' kd (some (cR r)) args s) (F0 m 0 ls []) := by
  subst hbd
  obtain ⟨hx, hb, hr, hml, hown, hts, hlk, hK⟩ := id B
  intro σ x0 x1 x2 ix0 ix1 ix2 hf H locs cells slots ls hw hl
  unfold pc_X3_putNew_0 at hf
  obtain ⟨σ1, z2, eσ1, ez2, iz2, rσ1, hf⟩ := cc_n_s hf
  refine cw_new B hw cwt_4 rfl cwd_4 cnl_3_8 cni_4 cnz_4 rσ1 eσ1 ez2 dX3_putNew_0 (fun H hw => ?_)
  refine lv_dup hx hb dX3_putNew_3 (cR_cat _) ?_
  refine lv_iload_n hx hb dX3_putNew_4 rfl (lv_at hl.1 0 rfl) ?_
  refine cl_null hx hb dX3_putNew_5 ?_
  refine cl_null hx hb dX3_putNew_6 ?_
  refine lv_iconst (v := rI (-1)) hx hb dX3_putNew_7 rfl ?_
  refine lv_iload_n hx hb dX3_putNew_8 rfl (lv_at hl.1 1 rfl) ?_
  obtain ⟨z3, ez3, iz3, hf⟩ := cc_ck_s hf
  refine rn_sub hx hb ez3 dX3_putNew_9 ?_
  refine cl_aload_n hx hb dX3_putNew_10 rfl (lv_at hl.1 2 rfl) ?_
  obtain ⟨qσ4, hf⟩ := cc_t_s hf
  obtain ⟨σ4, z6, hσ4, hf⟩ := cc_ci_s hf
  obtain ⟨iz6, mσ4⟩ := hR 27 σ1 [z2, x0, (-1), (-1), z3, x2] σ4 0 z6 hσ4
  have mσ4 : cw_Met l v yX3_init cX3_init 6 none d [cR z2, .int (rI x0), cR (-1), cR (-1), .int (rI z3), cR x2] σ1 σ4 0 none := mσ4 iz2 ix0 ⟨by decide, by decide⟩ ⟨by decide, by decide⟩ iz3 ix2
  refine cw_ci (b := z2) (n := 5) (rest := [cR z2]) (As := [.int (rI x0), cR (-1), cR (-1), .int (rI z3), cR x2]) B mσ4 qσ4.1 rfl cgo_yX3_init cml_3_27 cin_yX3_init (by decide +kernel) (by decide) rfl hl.1.1 (cl_cs (cl_1r cl_10) (Nat.le_of_ble_eq_true rfl)) dX3_putNew_11 rfl hw (fun H locs cells slots hw => ?_)
  exact cw_reta B hf hw dX3_putNew_14

set_option maxHeartbeats 4000000 in
set_option maxRecDepth 100000 in
theorem pm_X3_putNew {v : cwE} {bd : Nat × Nat} {l : Launch} {d : Nat} {rec : Nat → CS → List Int → CO} (hbd : bd = (v.2.2.1, v.2.2.2.1)) (hR : cw_Rec l v d rec) (htr : l.stackTraces = false) (hd5 : 5 ≤ d) (σ σ' : CS) (x0 x1 x2 : Int) (kd : Nat) (r : Int) (ix0 : inR x0) (ix1 : inR x1) (ix2 : inR x2) (hf : pc_X3_putNew_0 rec bd σ x0 x1 x2 = some (σ', kd, r)) : cw_Met l v yX3_putNew cX3_putNew 3 (some (.object "PureHouse$Link")) (d + 1) [.int (rI x0), .int (rI x1), cR x2] σ σ' kd (some (cR r)) := by
  refine cw_ofW (by decide +kernel) ?_
  intro p e s m args below meth c s₁ B hml hv
  obtain ⟨rfl, hM, hK⟩ := hv
  have hts := atoms_spec (ws := Cond.code yX3_putNew cX3_putNew 3 (some (.object "PureHouse$Link")) :: cw_bw) B.pre
  have hB : cw_B v RX3 p s m _ meth c cX3_putNew 3 (some (.object "PureHouse$Link")) := ⟨B.exec, B.bytes, B.returns, hml, findClass_of_methodNamed B.named, fun w h => hts w (List.mem_cons_of_mem _ h), B.notSynchronized, hK⟩
  have hnh := cc_nh B (hts _ List.mem_cons_self)
  rw [lg_entry_eq]
  obtain ⟨ls, hls, hl⟩ := cl_ent [.int (rI x0), .int (rI x1), cR x2] 3 (cl_1i (cl_1i (cl_1r cl_10))) (Nat.le_of_ble_eq_true rfl)
  rw [hls]
  exact pw_X3_putNew_0 hbd hR htr hd5 hB hnh σ x0 x1 x2 ix0 ix1 ix2 hf _ _ _ _ _ (cw_W0 hM) (cl_sub hl [0, 1, 2] rfl)

set_option maxHeartbeats 4000000 in
set_option maxRecDepth 100000 in
theorem pw_X4_areSame_0 {v : cwE} {bd : Nat × Nat} {p : Program} {l : Launch} {e : Env} {s : State} {m : MethodId} {args : Array Value} {below : List Frame} {meth : Method} {c : Code} {d : Nat} {rec : Nat → CS → List Int → CO} {σ0 σ' : CS} {kd : Nat} {r : Int} (hbd : bd = (v.2.2.1, v.2.2.2.1)) (hR : cw_Rec l v d rec) (htr : l.stackTraces = false) (hd5 : 5 ≤ d) (B : cw_B v RX4 p s m args meth c cX4_areSame 3 (some .boolean)) (hnh : ∀ x ∈ c.exceptionTable.toList, False) : ∀ (σ : CS) (x0 x1 x2 : Int), inR x0 → inR x1 → inR x2 → pc_X4_areSame_0 rec bd σ x0 x1 x2 = some (σ', kd, r) → ∀ (H : Heap) (locs : List Loc) (cells slots : Nat) (ls : Array Slot), cw_W v s σ0 σ H locs cells slots → cl_has ls 3 [(0, cR x0), (1, cR x1), (2, cR x2)] → W p l e (cw_rm v (d + 1) σ0) s m args below meth c H locs cells slots (cw_Z below v σ0 σ' kd (some (.int (rI r))) args s) (F0 m 0 ls []) := by
  subst hbd
  obtain ⟨hx, hb, hr, hml, hown, hts, hlk, hK⟩ := id B
  intro σ x0 x1 x2 ix0 ix1 ix2 hf H locs cells slots ls hw hl
  unfold pc_X4_areSame_0 at hf
  refine cl_aload_n hx hb dX4_areSame_0 rfl (lv_at hl.1 0 rfl) ?_
  refine cl_aload_n hx hb dX4_areSame_1 rfl (lv_at hl.1 1 rfl) ?_
  refine cl_null hx hb dX4_areSame_2 ?_
  refine cl_aload_n hx hb dX4_areSame_3 rfl (lv_at hl.1 2 rfl) ?_
  refine cl_null hx hb dX4_areSame_4 ?_
  refine lv_iconst (v := rI 0) hx hb dX4_areSame_5 rfl ?_
  refine lv_iconst (v := rI 0) hx hb dX4_areSame_6 rfl ?_
  obtain ⟨qσ1, hf⟩ := cc_t_s hf
  obtain ⟨σ1, kv2, z3, hσ1, hf⟩ := cc_cl_s hf
  obtain ⟨iz3, mσ1⟩ := hR 34 σ [x0, x1, (-1), x2, (-1), 0, 0] σ1 kv2 z3 hσ1
  have mσ1 : cw_Met l v yX4_compare cX4_compare 11 (some .boolean) d [cR x0, cR x1, cR (-1), cR x2, cR (-1), .int (rI 0), .int (rI 0)] σ σ1 kv2 (some (.int (rI z3))) := mσ1 ix0 ix1 ⟨by decide, by decide⟩ ix2 ⟨by decide, by decide⟩ ⟨by decide, by decide⟩ ⟨by decide, by decide⟩
  refine cw_cv (b := x0) (t := 5) (n := 6) (rest := []) (As := [cR x1, cR (-1), cR x2, cR (-1), .int (rI 0), .int (rI 0)]) B mσ1 qσ1 ⟨by decide, by decide⟩ cgo_yX4_compare cml_4_40 cin_yX4_compare cse_yX4_compare (by decide +kernel) (by decide) rfl hl.1.1 (Nat.le_of_ble_eq_true rfl) dX4_areSame_7 rfl hw (fun h0 H locs cells slots hw => ?_) (fun h0 H locs cells slots q ce hw h1 h2 h3 => ?_)
  · rcases hf with ⟨-, hf⟩ | ⟨hk, -⟩
    · skip
      obtain ⟨h01, hf⟩ := cc_bo_s hf
      exact cw_retz B h01 hf hw dX4_areSame_10
    · exact absurd h0 hk
  · rcases hf with ⟨hk, -⟩ | ⟨-, hf⟩
    · exact absurd hk h0
    · cases hf
      exact cw_xout B hnh h0 hw h1 h2 h3

set_option maxHeartbeats 4000000 in
set_option maxRecDepth 100000 in
theorem pm_X4_areSame {v : cwE} {bd : Nat × Nat} {l : Launch} {d : Nat} {rec : Nat → CS → List Int → CO} (hbd : bd = (v.2.2.1, v.2.2.2.1)) (hR : cw_Rec l v d rec) (htr : l.stackTraces = false) (hd5 : 5 ≤ d) (σ σ' : CS) (x0 x1 x2 : Int) (kd : Nat) (r : Int) (ix0 : inR x0) (ix1 : inR x1) (ix2 : inR x2) (hf : pc_X4_areSame_0 rec bd σ x0 x1 x2 = some (σ', kd, r)) : cw_Met l v yX4_areSame cX4_areSame 3 (some .boolean) (d + 1) [cR x0, cR x1, cR x2] σ σ' kd (some (.int (rI r))) := by
  refine cw_ofW (by decide +kernel) ?_
  intro p e s m args below meth c s₁ B hml hv
  obtain ⟨rfl, hM, hK⟩ := hv
  have hts := atoms_spec (ws := Cond.code yX4_areSame cX4_areSame 3 (some .boolean) :: cw_bw) B.pre
  have hB : cw_B v RX4 p s m _ meth c cX4_areSame 3 (some .boolean) := ⟨B.exec, B.bytes, B.returns, hml, findClass_of_methodNamed B.named, fun w h => hts w (List.mem_cons_of_mem _ h), B.notSynchronized, hK⟩
  have hnh := cc_nh B (hts _ List.mem_cons_self)
  rw [lg_entry_eq]
  obtain ⟨ls, hls, hl⟩ := cl_ent [cR x0, cR x1, cR x2] 3 (cl_1r (cl_1r (cl_1r cl_10))) (Nat.le_of_ble_eq_true rfl)
  rw [hls]
  exact pw_X4_areSame_0 hbd hR htr hd5 hB hnh σ x0 x1 x2 ix0 ix1 ix2 hf _ _ _ _ _ (cw_W0 hM) (cl_sub hl [0, 1, 2] rfl)

set_option maxHeartbeats 4000000 in
set_option maxRecDepth 100000 in
theorem pw_X4_begin_2 {v : cwE} {bd : Nat × Nat} {p : Program} {l : Launch} {e : Env} {s : State} {m : MethodId} {args : Array Value} {below : List Frame} {meth : Method} {c : Code} {d : Nat} {rec : Nat → CS → List Int → CO} {σ0 σ' : CS} {kd : Nat} {r : Int} (hbd : bd = (v.2.2.1, v.2.2.2.1)) (hR : cw_Rec l v d rec) (htr : l.stackTraces = false) (hd5 : 5 ≤ d) (B : cw_B v RX4 p s m args meth c cX4_begin 3 none) (hnh : ∀ x ∈ c.exceptionTable.toList, False) : ∀ (n : Nat) (σ : CS) (x0 x1 x2 : Int), inR x0 → inR x1 → inR x2 → pc_X4_begin_2 rec bd n σ x0 x1 x2 = some (σ', kd, r) → ∀ (H : Heap) (locs : List Loc) (cells slots : Nat) (ls : Array Slot), cw_W v s σ0 σ H locs cells slots → cl_has ls 3 [(0, cR x0), (1, .int (rI x1)), (2, .int (rI x2))] → W p l e (cw_rm v (d + 1) σ0) s m args below meth c H locs cells slots (cw_Z below v σ0 σ' kd none args s) (F0 m 2 ls []) := by
  subst hbd
  obtain ⟨hx, hb, hr, hml, hown, hts, hlk, hK⟩ := id B
  intro n
  induction n with
  | zero => intro σ x0 x1 x2 ix0 ix1 ix2 hf; cases hf
  | succ n ih =>
    intro σ x0 x1 x2 ix0 ix1 ix2 hf H locs cells slots ls hw hl
    unfold pc_X4_begin_2 at hf
    refine lv_iload_n hx hb dX4_begin_2 rfl (lv_at hl.1 2 rfl) ?_
    refine cl_aload_n hx hb dX4_begin_3 rfl (lv_at hl.1 0 rfl) ?_
    obtain ⟨z1, ez1, iz1, rz1, hf⟩ := cc_g_s hw hf
    refine cw_get (val := cR z1) B hw rz1 ⟨by decide, by decide⟩ (by decide) cwi_5 cfl_4_9 ez1 rfl dX4_begin_4 ?_
    obtain ⟨z2, ez2, iz2, rz2, hf⟩ := cc_l_s hf
    refine cw_len B hw rz2 (by decide) ez2 iz2 dX4_begin_7 ?_
    refine rn_icmp_ge (a := x2) (b := z2) (tgt := 24) hx hb ix2 iz2 dX4_begin_8 (by decide) (fun c3 => ?_) (fun c3 => ?_)
    · replace hf := cc_if_t hf c3
      refine cl_aload_n hx hb dX4_begin_24 rfl (lv_at hl.1 0 rfl) ?_
      refine lv_iload_n hx hb dX4_begin_25 rfl (lv_at hl.1 1 rfl) ?_
      obtain ⟨σ4, eσ4, rσ4, hf⟩ := cc_p_s hf
      refine cw_put B hw rσ4 cwt_5 (by decide) rfl cfl_4_22 ix1 eσ4 rfl (cw_fv_n rfl rfl) dX4_begin_26 (fun H locs hw => ?_)
      exact cw_retv B hf hw dX4_begin_29
    · replace hf := cc_if_f hf c3
      refine cl_aload_n hx hb dX4_begin_11 rfl (lv_at hl.1 0 rfl) ?_
      obtain ⟨z5, ez5, iz5, rz5, hf⟩ := cc_g_s hw hf
      refine cw_get (val := cR z5) B hw rz5 ⟨by decide, by decide⟩ (by decide) cwi_5 cfl_4_9 ez5 rfl dX4_begin_12 ?_
      refine lv_iload_n hx hb dX4_begin_15 rfl (lv_at hl.1 2 rfl) ?_
      refine lv_iconst (v := rI 0) hx hb dX4_begin_16 rfl ?_
      obtain ⟨σ6, eσ6, rσ6, bσ6, hf⟩ := cc_w_s hf
      refine cw_astI B hw rσ6 ix2 bσ6 ⟨by decide, by decide⟩ eσ6 dX4_begin_17 (fun H locs hw => ?_)
      obtain ⟨z7, ez7, iz7, hf⟩ := cc_ck_s hf
      refine cl_iinc (v := rI z7) (lv' := [(2, .int (rI z7)), (0, cR x0), (1, .int (rI x1))]) hx hb dX4_begin_18 hl (k := 2) rfl (by rw [ez7]; exact rI_add _ _) (by decide) rfl (fun ls hl => ?_)
      refine lv_goto (tgt := 2) hx hb dX4_begin_21 (by decide) ?_
      exact ih σ6 x0 x1 z7 ix0 ix1 iz7 hf _ _ _ _ _ hw (cl_sub hl [1, 2, 0] rfl)

set_option maxHeartbeats 4000000 in
set_option maxRecDepth 100000 in
theorem pw_X4_begin_0 {v : cwE} {bd : Nat × Nat} {p : Program} {l : Launch} {e : Env} {s : State} {m : MethodId} {args : Array Value} {below : List Frame} {meth : Method} {c : Code} {d : Nat} {rec : Nat → CS → List Int → CO} {σ0 σ' : CS} {kd : Nat} {r : Int} (hbd : bd = (v.2.2.1, v.2.2.2.1)) (hR : cw_Rec l v d rec) (htr : l.stackTraces = false) (hd5 : 5 ≤ d) (B : cw_B v RX4 p s m args meth c cX4_begin 3 none) (hnh : ∀ x ∈ c.exceptionTable.toList, False) : ∀ (σ : CS) (x0 x1 : Int), inR x0 → inR x1 → pc_X4_begin_0 rec bd σ x0 x1 = some (σ', kd, r) → ∀ (H : Heap) (locs : List Loc) (cells slots : Nat) (ls : Array Slot), cw_W v s σ0 σ H locs cells slots → cl_has ls 3 [(0, cR x0), (1, .int (rI x1))] → W p l e (cw_rm v (d + 1) σ0) s m args below meth c H locs cells slots (cw_Z below v σ0 σ' kd none args s) (F0 m 0 ls []) := by
  subst hbd
  obtain ⟨hx, hb, hr, hml, hown, hts, hlk, hK⟩ := id B
  intro σ x0 x1 ix0 ix1 hf H locs cells slots ls hw hl
  unfold pc_X4_begin_0 at hf
  refine lv_iconst (v := rI 0) hx hb dX4_begin_0 rfl ?_
  refine cl_istore_n (lv' := [(2, .int (rI 0)), (0, cR x0), (1, .int (rI x1))]) hx hb dX4_begin_1 rfl hl (by decide) rfl (fun ls hl => ?_)
  exact pw_X4_begin_2 rfl hR htr hd5 B hnh 1100000 σ x0 x1 0 ix0 ix1 ⟨by decide, by decide⟩ hf _ _ _ _ _ hw (cl_sub hl [1, 2, 0] rfl)

