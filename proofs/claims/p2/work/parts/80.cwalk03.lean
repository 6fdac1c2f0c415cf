set_option maxHeartbeats 4000000 in
set_option maxRecDepth 100000 in
theorem pw_X11_text_0 {v : cwE} {bd : cBd} {p : Program} {l : Launch} {e : Env} {s : State} {m : MethodId} {args : Array Value} {below : List Frame} {meth : Method} {c : Code} {d : Nat} {rec : Nat → CS → List Int → CO} {σ0 σ' : CS} {kd : Nat} {r : Int} (hbd : bd = cw_bd v) (hR : cw_Rec l v d rec) (htr : l.stackTraces = false) (hd5 : 5 ≤ d) (B : cw_B v RX11 p s m args meth c cX11_text 2 (some .int)) (hnh : ∀ x ∈ c.exceptionTable.toList, False) : ∀ (σ : CS) (x0 x1 : Int), inR x0 → inR x1 → pc_X11_text_0 rec bd σ x0 x1 = some (σ', kd, r) → ∀ (H : Heap) (locs : List Loc) (cells slots : Nat) (ls : Array Slot), cw_W v s σ0 σ H locs cells slots → cl_has ls 2 [(0, cR v x0), (1, .int (rI x1))] → W p l e (cw_rm v (d + 1) σ0) s m args below meth c H locs cells slots (cw_Z below v σ0 σ' kd (some (.int (rI r))) args s) (F0 m 0 ls []) := by
  subst hbd
  obtain ⟨hx, hb, hr, hml, hown, hts, hlk, hK⟩ := id B
  intro σ x0 x1 ix0 ix1 hf H locs cells slots ls hw hl
  unfold pc_X11_text_0 at hf
  refine lv_iload_n hx hb dX11_text_0 rfl (lv_at hl.1 1 rfl) ?_
  refine rn_if_lt (a := x1) (tgt := 12) hx hb ix1 dX11_text_1 (by decide) (fun c1 => ?_) (fun c1 => ?_)
  · replace hf := cc_if_t hf c1
    exact pw_X11_text_12 rfl hR htr hd5 B hnh σ hf _ _ _ _ _ hw (cl_sub hl [] rfl)
  · replace hf := cc_if_f hf c1
    refine lv_iload_n hx hb dX11_text_4 rfl (lv_at hl.1 1 rfl) ?_
    refine cl_aload_n hx hb dX11_text_5 rfl (lv_at hl.1 0 rfl) ?_
    obtain ⟨z2, ez2, iz2, rz2, hf⟩ := cc_g_s hw hf
    refine cw_get (val := .int (rI z2)) B hw rz2 ⟨by decide, by decide⟩ (by decide) cwi_12 cfl_X11_54 ez2 rfl dX11_text_6 ?_
    refine rn_icmp_le (a := x1) (b := z2) (tgt := 20) hx hb ix1 iz2 dX11_text_9 (by decide) (fun c3 => ?_) (fun c3 => ?_)
    · replace hf := cc_if_t hf c3
      refine cl_aload_n hx hb dX11_text_20 rfl (lv_at hl.1 0 rfl) ?_
      refine lv_iconst (v := rI 0) hx hb dX11_text_21 rfl ?_
      obtain ⟨σ4, eσ4, rσ4, hf⟩ := cc_p_s hf
      refine cw_put B hw rσ4 cwt_12 (by decide) rfl cfl_X11_54 ⟨by decide, by decide⟩ eσ4 rfl (cw_fv_n rfl rfl) dX11_text_22 (fun H locs hw => ?_)
      refine cl_aload_n hx hb dX11_text_25 rfl (lv_at hl.1 0 rfl) ?_
      refine lv_iload_n hx hb dX11_text_26 rfl (lv_at hl.1 1 rfl) ?_
      obtain ⟨qσ5, hf⟩ := cc_t_s hf
      obtain ⟨σ5, kv6, z7, hσ5, hf⟩ := cc_cl_s hf
      obtain ⟨iz7, mσ5⟩ := hR 57 σ4 [x0, x1] σ5 kv6 z7 hσ5
      have mσ5 : cw_MetW l v yX11_runText cX11_runText 4 (some .int) [(20, 71, 74, 158)] d [cR v x0, .int (rI x1)] σ4 σ5 kv6 (some (.int (rI z7))) := mσ5 ix0 ix1
      refine cw_cvW (b := x0) (t := 12) (n := 1) (rest := []) (As := [.int (rI x1)]) B mσ5 qσ5 ⟨by decide, by decide⟩ cgo_yX11_runText cml_X11_77 cin_yX11_runText cse_yX11_runText (by decide +kernel) (by decide) rfl hl.1.1 (Nat.le_of_ble_eq_true rfl) dX11_text_27 rfl hw (fun h0 H locs cells slots hw => ?_) (fun h0 H locs cells slots q ce hw h1 h2 h3 => ?_)
      · rcases hf with ⟨-, hf⟩ | ⟨hk, -⟩
        · skip
          exact cw_reti B hf hw dX11_text_30
        · exact absurd h0 hk
      · rcases hf with ⟨hk, -⟩ | ⟨-, hf⟩
        · exact absurd hk h0
        · cases hf
          exact cw_xout B hnh h0 hw h1 h2 h3
    · replace hf := cc_if_f hf c3
      exact pw_X11_text_12 rfl hR htr hd5 B hnh σ hf _ _ _ _ _ hw (cl_sub hl [] rfl)

set_option maxHeartbeats 4000000 in
set_option maxRecDepth 100000 in
theorem pm_X11_text {v : cwE} {bd : cBd} {l : Launch} {d : Nat} {rec : Nat → CS → List Int → CO} (hbd : bd = cw_bd v) (hR : cw_Rec l v d rec) (htr : l.stackTraces = false) (hd5 : 5 ≤ d) (σ σ' : CS) (x0 x1 : Int) (kd : Nat) (r : Int) (ix0 : inR x0) (ix1 : inR x1) (hf : pc_X11_text_0 rec bd σ x0 x1 = some (σ', kd, r)) : cw_Met l v yX11_text cX11_text 2 (some .int) (d + 1) [cR v x0, .int (rI x1)] σ σ' kd (some (.int (rI r))) := by
  refine cw_ofW (by decide +kernel) ?_
  intro p e s m args below meth c s₁ B hml hv
  obtain ⟨rfl, hM, hK⟩ := hv
  have hts := atoms_spec (ws := Cond.code yX11_text cX11_text 2 (some .int) :: cw_bw) B.pre
  have hB : cw_B v RX11 p s m _ meth c cX11_text 2 (some .int) := ⟨B.exec, B.bytes, B.returns, hml, findClass_of_methodNamed B.named, fun w h => hts w (List.mem_cons_of_mem _ h), B.notSynchronized, hK⟩
  have hnh := cc_nh B (hts _ List.mem_cons_self)
  rw [lg_entry_eq]
  obtain ⟨ls, hls, hl⟩ := cl_ent [cR v x0, .int (rI x1)] 2 (cl_1r (cl_1i cl_10)) (Nat.le_of_ble_eq_true rfl)
  rw [hls]
  exact pw_X11_text_0 hbd hR htr hd5 hB hnh σ x0 x1 ix0 ix1 hf _ _ _ _ _ (cw_W0 hM) (cl_sub hl [0, 1] rfl)

set_option maxHeartbeats 4000000 in
set_option maxRecDepth 100000 in
theorem pw_X11_type_0 {v : cwE} {bd : cBd} {p : Program} {l : Launch} {e : Env} {s : State} {m : MethodId} {args : Array Value} {below : List Frame} {meth : Method} {c : Code} {d : Nat} {rec : Nat → CS → List Int → CO} {σ0 σ' : CS} {kd : Nat} {r : Int} (hbd : bd = cw_bd v) (hR : cw_Rec l v d rec) (htr : l.stackTraces = false) (hd5 : 5 ≤ d) (B : cw_B v RX11 p s m args meth c cX11_type 2 (some .int)) (hnh : ∀ x ∈ c.exceptionTable.toList, False) : ∀ (σ : CS) (x0 x1 : Int), inR x0 → inR x1 → pc_X11_type_0 rec bd σ x0 x1 = some (σ', kd, r) → ∀ (H : Heap) (locs : List Loc) (cells slots : Nat) (ls : Array Slot), cw_W v s σ0 σ H locs cells slots → cl_has ls 2 [(0, cR v x0), (1, .int (rI x1))] → W p l e (cw_rm v (d + 1) σ0) s m args below meth c H locs cells slots (cw_Z below v σ0 σ' kd (some (.int (rI r))) args s) (F0 m 0 ls []) := by
  subst hbd
  obtain ⟨hx, hb, hr, hml, hown, hts, hlk, hK⟩ := id B
  intro σ x0 x1 ix0 ix1 hf H locs cells slots ls hw hl
  unfold pc_X11_type_0 at hf
  refine cl_aload_n hx hb dX11_type_0 rfl (lv_at hl.1 0 rfl) ?_
  obtain ⟨z1, ez1, iz1, rz1, hf⟩ := cc_g_s hw hf
  refine cw_get (val := cR v z1) B hw rz1 ⟨by decide, by decide⟩ (by decide) cwi_12 cfl_X11_23 ez1 rfl dX11_type_1 ?_
  obtain ⟨z2, ez2, iz2, rz2, hf⟩ := cc_g_s hw hf
  refine cw_get (val := cR v z2) B hw rz2 ⟨by decide, by decide⟩ (by decide) cwi_1 cfl_X11_84 ez2 rfl dX11_type_4 ?_
  refine lv_iload_n hx hb dX11_type_7 rfl (lv_at hl.1 1 rfl) ?_
  obtain ⟨qσ3, hf⟩ := cc_t_s hf
  obtain ⟨σ3, kv4, z5, hσ3, hf⟩ := cc_cl_s hf
  obtain ⟨iz5, mσ3⟩ := hR 100 σ [z2, x1] σ3 kv4 z5 hσ3
  have mσ3 : cw_Met l v yX5_has cX5_has 2 (some .boolean) d [cR v z2, .int (rI x1)] σ σ3 kv4 (some (.int (rI z5))) := mσ3 iz2 ix1
  refine cw_cv (b := z2) (t := 6) (n := 1) (rest := []) (As := [.int (rI x1)]) B mσ3 qσ3 ⟨by decide, by decide⟩ cgo_yX5_has cml_X11_121 cin_yX5_has cse_yX5_has (by decide +kernel) (by decide) rfl hl.1.1 (Nat.le_of_ble_eq_true rfl) dX11_type_8 rfl hw (fun h0 H locs cells slots hw => ?_) (fun h0 H locs cells slots q ce hw h1 h2 h3 => ?_)
  · rcases hf with ⟨-, hf⟩ | ⟨hk, -⟩
    · skip
      refine rn_if_ne (a := z5) (tgt := 22) hx hb iz5 dX11_type_11 (by decide) (fun c6 => ?_) (fun c6 => ?_)
      · replace hf := cc_if_t hf c6
        refine cl_aload_n hx hb dX11_type_22 rfl (lv_at hl.1 0 rfl) ?_
        refine cl_aload_n hx hb dX11_type_23 rfl (lv_at hl.1 0 rfl) ?_
        obtain ⟨z7, ez7, iz7, rz7, hf⟩ := cc_g_s hw hf
        refine cw_get (val := cR v z7) B hw rz7 ⟨by decide, by decide⟩ (by decide) cwi_12 cfl_X11_23 ez7 rfl dX11_type_24 ?_
        obtain ⟨z8, ez8, iz8, rz8, hf⟩ := cc_g_s hw hf
        refine cw_get (val := cR v z8) B hw rz8 ⟨by decide, by decide⟩ (by decide) cwi_1 cfl_X11_145 ez8 rfl dX11_type_27 ?_
        refine lv_iload_n hx hb dX11_type_30 rfl (lv_at hl.1 1 rfl) ?_
        obtain ⟨z9, ez9, iz9, rz9, bz9, hf⟩ := cc_r_s hw hf
        refine cw_aldR B hw rz9 ix1 bz9 ez9 dX11_type_31 ?_
        obtain ⟨qσ10, hf⟩ := cc_t_s hf
        obtain ⟨σ10, kv11, z12, hσ10, hf⟩ := cc_cl_s hf
        obtain ⟨iz12, mσ10⟩ := hR 61 σ3 [x0, z9] σ10 kv11 z12 hσ10
        have mσ10 : cw_MetW l v yX11_tellTypeOf cX11_tellTypeOf 3 (some .int) [(16, 24, 27, 158)] d [cR v x0, cR v z9] σ3 σ10 kv11 (some (.int (rI z12))) := mσ10 ix0 iz9
        refine cw_cvW (b := x0) (t := 12) (n := 1) (rest := []) (As := [cR v z9]) B mσ10 qσ10 ⟨by decide, by decide⟩ cgo_yX11_tellTypeOf cml_X11_148 cin_yX11_tellTypeOf cse_yX11_tellTypeOf (by decide +kernel) (by decide) rfl hl.1.1 (Nat.le_of_ble_eq_true rfl) dX11_type_32 rfl hw (fun h0 H locs cells slots hw => ?_) (fun h0 H locs cells slots q ce hw h1 h2 h3 => ?_)
        · rcases hf with ⟨-, hf⟩ | ⟨hk, -⟩
          · skip
            exact cw_reti B hf hw dX11_type_35
          · exact absurd h0 hk
        · rcases hf with ⟨hk, -⟩ | ⟨-, hf⟩
          · exact absurd hk h0
          · cases hf
            exact cw_xout B hnh h0 hw h1 h2 h3
      · replace hf := cc_if_f hf c6
        obtain ⟨hy, hm⟩ := cc_x_s hf
        obtain ⟨hy1, hy2⟩ := Prod.mk.inj hy
        obtain ⟨hy2, hy3⟩ := Prod.mk.inj hy2
        subst hy2
        refine cw_throw (rest := []) B hnh htr hw (by decide) (by decide +kernel) cxc_X11_81 cxi_3 (cw_hat cxa_X11_83 (by decide +kernel) hts hK.1) (List.all_eq_true.mp cxg_X11_83) hd5 hm hy1 hl.1.1 (Nat.le_of_ble_eq_true rfl) dX11_type_14 dX11_type_17 dX11_type_18 dX11_type_21
    · exact absurd h0 hk
  · rcases hf with ⟨hk, -⟩ | ⟨-, hf⟩
    · exact absurd hk h0
    · cases hf
      exact cw_xout B hnh h0 hw h1 h2 h3

set_option maxHeartbeats 4000000 in
set_option maxRecDepth 100000 in
theorem pm_X11_type {v : cwE} {bd : cBd} {l : Launch} {d : Nat} {rec : Nat → CS → List Int → CO} (hbd : bd = cw_bd v) (hR : cw_Rec l v d rec) (htr : l.stackTraces = false) (hd5 : 5 ≤ d) (σ σ' : CS) (x0 x1 : Int) (kd : Nat) (r : Int) (ix0 : inR x0) (ix1 : inR x1) (hf : pc_X11_type_0 rec bd σ x0 x1 = some (σ', kd, r)) : cw_Met l v yX11_type cX11_type 2 (some .int) (d + 1) [cR v x0, .int (rI x1)] σ σ' kd (some (.int (rI r))) := by
  refine cw_ofW (by decide +kernel) ?_
  intro p e s m args below meth c s₁ B hml hv
  obtain ⟨rfl, hM, hK⟩ := hv
  have hts := atoms_spec (ws := Cond.code yX11_type cX11_type 2 (some .int) :: cw_bw) B.pre
  have hB : cw_B v RX11 p s m _ meth c cX11_type 2 (some .int) := ⟨B.exec, B.bytes, B.returns, hml, findClass_of_methodNamed B.named, fun w h => hts w (List.mem_cons_of_mem _ h), B.notSynchronized, hK⟩
  have hnh := cc_nh B (hts _ List.mem_cons_self)
  rw [lg_entry_eq]
  obtain ⟨ls, hls, hl⟩ := cl_ent [cR v x0, .int (rI x1)] 2 (cl_1r (cl_1i cl_10)) (Nat.le_of_ble_eq_true rfl)
  rw [hls]
  exact pw_X11_type_0 hbd hR htr hd5 hB hnh σ x0 x1 ix0 ix1 hf _ _ _ _ _ (cw_W0 hM) (cl_sub hl [0, 1] rfl)

set_option maxHeartbeats 4000000 in
set_option maxRecDepth 100000 in
theorem pw_X2_init_0 {v : cwE} {bd : cBd} {p : Program} {l : Launch} {e : Env} {s : State} {m : MethodId} {args : Array Value} {below : List Frame} {meth : Method} {c : Code} {d : Nat} {rec : Nat → CS → List Int → CO} {σ0 σ' : CS} {kd : Nat} {r : Int} (hbd : bd = cw_bd v) (hR : cw_Rec l v d rec) (htr : l.stackTraces = false) (hd5 : 5 ≤ d) (B : cw_B v RX2 p s m args meth c cX2_init 5 none) (hin : meth.name = "<init>") (hnh : ∀ x ∈ c.exceptionTable.toList, False) : ∀ (σ : CS) (x0 x1 x2 x3 x4 : Int), inR x0 → inR x1 → inR x2 → inR x3 → inR x4 → pc_X2_init_0 rec bd σ x0 x1 x2 x3 x4 = some (σ', kd, r) → ∀ (H : Heap) (locs : List Loc) (cells slots : Nat) (ls : Array Slot), cw_W v s σ0 σ H locs cells slots → cl_has ls 5 [(0, cR v x0), (1, cR v x1), (2, cR v x2), (3, cR v x3), (4, cR v x4)] → W p l e (cw_rm v (d + 1) σ0) s m args below meth c H locs cells slots (cw_Z below v σ0 σ' kd none args s) (F0 m 0 ls []) := by
  subst hbd
  obtain ⟨hx, hb, hr, hml, hown, hts, hlk, hK⟩ := id B
  intro σ x0 x1 x2 x3 x4 ix0 ix1 ix2 ix3 ix4 hf H locs cells slots ls hw hl
  unfold pc_X2_init_0 at hf
  refine cl_aload_n hx hb dX2_init_0 rfl (lv_at hl.1 0 rfl) ?_
  obtain ⟨q0, hf⟩ := cc_t_s hf
  rw [cR_r q0.1]
  refine W.objInit hx hb hown (hts _ coi_X2_3) (hts _ coi2) (hts _ coi3) rfl (hl.1.1.trans hml.symm) rfl dX2_init_1 (by show 1 ≤ d + 1; omega) (by show _ + 12 ≤ 100 * (d + 1); simp [JFrame.monitorRoom]; omega) ?_
  refine cl_aload_n hx hb dX2_init_4 rfl (lv_at hl.1 0 rfl) ?_
  refine lv_iconst (v := rI (-1)) hx hb dX2_init_5 rfl ?_
  obtain ⟨σ1, eσ1, rσ1, hf⟩ := cc_p_s hf
  refine cw_put B hw rσ1 cwt_3 (by decide) rfl cfl_X2_9 ⟨by decide, by decide⟩ eσ1 rfl (cw_fv_n rfl rfl) dX2_init_6 (fun H locs hw => ?_)
  refine cl_aload_n hx hb dX2_init_9 rfl (lv_at hl.1 0 rfl) ?_
  refine cl_aload_n hx hb dX2_init_10 rfl (lv_at hl.1 1 rfl) ?_
  obtain ⟨σ2, eσ2, rσ2, hf⟩ := cc_p_s hf
  refine cw_putF B hin hw rσ2 cwt_3 (by decide) rfl rfl rfl cfl_X2_15 ix1 eσ2 rfl (cw_fv_r rfl (Or.inr ⟨_, rfl⟩)) dX2_init_11 (fun H locs hw => ?_)
  refine cl_aload_n hx hb dX2_init_14 rfl (lv_at hl.1 0 rfl) ?_
  refine cl_aload_n hx hb dX2_init_15 rfl (lv_at hl.1 2 rfl) ?_
  obtain ⟨σ3, eσ3, rσ3, hf⟩ := cc_p_s hf
  refine cw_putF B hin hw rσ3 cwt_3 (by decide) rfl rfl rfl cfl_X2_19 ix2 eσ3 rfl (cw_fv_r rfl (Or.inl ⟨_, rfl⟩)) dX2_init_16 (fun H locs hw => ?_)
  refine cl_aload_n hx hb dX2_init_19 rfl (lv_at hl.1 0 rfl) ?_
  refine cl_aload_n hx hb dX2_init_20 rfl (lv_at hl.1 3 rfl) ?_
  obtain ⟨σ4, eσ4, rσ4, hf⟩ := cc_p_s hf
  refine cw_putF B hin hw rσ4 cwt_3 (by decide) rfl rfl rfl cfl_X2_23 ix3 eσ4 rfl (cw_fv_r rfl (Or.inl ⟨_, rfl⟩)) dX2_init_21 (fun H locs hw => ?_)
  refine cl_aload_n hx hb dX2_init_24 rfl (lv_at hl.1 0 rfl) ?_
  refine cl_aload hx hb dX2_init_25 (lv_at hl.1 4 rfl) ?_
  obtain ⟨σ5, eσ5, rσ5, hf⟩ := cc_p_s hf
  refine cw_putF B hin hw rσ5 cwt_3 (by decide) rfl rfl rfl cfl_X2_27 ix4 eσ5 rfl (cw_fv_r rfl (Or.inl ⟨_, rfl⟩)) dX2_init_27 (fun H locs hw => ?_)
  exact cw_retv B hf hw dX2_init_30

set_option maxHeartbeats 4000000 in
set_option maxRecDepth 100000 in
theorem pm_X2_init {v : cwE} {bd : cBd} {l : Launch} {d : Nat} {rec : Nat → CS → List Int → CO} (hbd : bd = cw_bd v) (hR : cw_Rec l v d rec) (htr : l.stackTraces = false) (hd5 : 5 ≤ d) (σ σ' : CS) (x0 x1 x2 x3 x4 : Int) (kd : Nat) (r : Int) (ix0 : inR x0) (ix1 : inR x1) (ix2 : inR x2) (ix3 : inR x3) (ix4 : inR x4) (hf : pc_X2_init_0 rec bd σ x0 x1 x2 x3 x4 = some (σ', kd, r)) : cw_Met l v yX2_init cX2_init 5 none (d + 1) [cR v x0, cR v x1, cR v x2, cR v x3, cR v x4] σ σ' kd none := by
  refine cw_ofW (by decide +kernel) ?_
  intro p e s m args below meth c s₁ B hml hv
  obtain ⟨rfl, hM, hK⟩ := hv
  have hts := atoms_spec (ws := Cond.code yX2_init cX2_init 5 none :: cw_bw) B.pre
  have hB : cw_B v RX2 p s m _ meth c cX2_init 5 none := ⟨B.exec, B.bytes, B.returns, hml, findClass_of_methodNamed B.named, fun w h => hts w (List.mem_cons_of_mem _ h), B.notSynchronized, hK⟩
  have hnh := cc_nh B (hts _ List.mem_cons_self)
  rw [lg_entry_eq]
  obtain ⟨ls, hls, hl⟩ := cl_ent [cR v x0, cR v x1, cR v x2, cR v x3, cR v x4] 5 (cl_1r (cl_1r (cl_1r (cl_1r (cl_1r cl_10))))) (Nat.le_of_ble_eq_true rfl)
  rw [hls]
  exact pw_X2_init_0 hbd hR htr hd5 hB (name_of_methodNamed B.named B.method).1 hnh σ x0 x1 x2 x3 x4 ix0 ix1 ix2 ix3 ix4 hf _ _ _ _ _ (cw_W0 hM) (cl_sub hl [0, 1, 2, 3, 4] rfl)

set_option maxHeartbeats 4000000 in
set_option maxRecDepth 100000 in
theorem pw_X2_isNameOf_0 {v : cwE} {bd : cBd} {p : Program} {l : Launch} {e : Env} {s : State} {m : MethodId} {args : Array Value} {below : List Frame} {meth : Method} {c : Code} {d : Nat} {rec : Nat → CS → List Int → CO} {σ0 σ' : CS} {kd : Nat} {r : Int} (hbd : bd = cw_bd v) (hR : cw_Rec l v d rec) (htr : l.stackTraces = false) (hd5 : 5 ≤ d) (B : cw_B v RX2 p s m args meth c cX2_isNameOf 3 (some .boolean)) (hnh : ∀ x ∈ c.exceptionTable.toList, False) : ∀ (σ : CS) (x0 x1 x2 : Int), inR x0 → inR x1 → inR x2 → pc_X2_isNameOf_0 rec bd σ x0 x1 x2 = some (σ', kd, r) → ∀ (H : Heap) (locs : List Loc) (cells slots : Nat) (ls : Array Slot), cw_W v s σ0 σ H locs cells slots → cl_has ls 3 [(0, cR v x0), (1, cR v x1), (2, cR v x2)] → W p l e (cw_rm v (d + 1) σ0) s m args below meth c H locs cells slots (cw_Z below v σ0 σ' kd (some (.int (rI r))) args s) (F0 m 0 ls []) := by
  subst hbd
  obtain ⟨hx, hb, hr, hml, hown, hts, hlk, hK⟩ := id B
  intro σ x0 x1 x2 ix0 ix1 ix2 hf H locs cells slots ls hw hl
  unfold pc_X2_isNameOf_0 at hf
  refine cl_aload_n hx hb dX2_isNameOf_0 rfl (lv_at hl.1 1 rfl) ?_
  obtain ⟨z1, ez1, iz1, rz1, hf⟩ := cc_g_s hw hf
  refine cw_get (val := .int (rI z1)) B hw rz1 ⟨by decide, by decide⟩ (by decide) cwi_7 cfl_X2_141 ez1 rfl dX2_isNameOf_1 ?_
  refine cl_aload_n hx hb dX2_isNameOf_4 rfl (lv_at hl.1 2 rfl) ?_
  obtain ⟨z2, ez2, iz2, rz2, hf⟩ := cc_g_s hw hf
  refine cw_get (val := .int (rI z2)) B hw rz2 ⟨by decide, by decide⟩ (by decide) cwi_7 cfl_X2_141 ez2 rfl dX2_isNameOf_5 ?_
  refine rn_icmp_ne (a := z1) (b := z2) (tgt := 41) hx hb iz1 iz2 dX2_isNameOf_8 (by decide) (fun c3 => ?_) (fun c3 => ?_)
  · replace hf := cc_if_t hf c3
    refine lv_iconst (v := rI 0) hx hb dX2_isNameOf_41 rfl ?_
    obtain ⟨h01, hf⟩ := cc_bo_s hf
    exact cw_retz B h01 hf hw dX2_isNameOf_42
  · replace hf := cc_if_f hf c3
    refine cl_aload_n hx hb dX2_isNameOf_11 rfl (lv_at hl.1 0 rfl) ?_
    obtain ⟨z4, ez4, iz4, rz4, hf⟩ := cc_g_s hw hf
    refine cw_get (val := cR v z4) B hw rz4 ⟨by decide, by decide⟩ (by decide) cwi_3 cfl_X2_15 ez4 rfl dX2_isNameOf_12 ?_
    refine cl_aload_n hx hb dX2_isNameOf_15 rfl (lv_at hl.1 1 rfl) ?_
    obtain ⟨z5, ez5, iz5, rz5, hf⟩ := cc_g_s hw hf
    refine cw_get (val := .int (rI z5)) B hw rz5 ⟨by decide, by decide⟩ (by decide) cwi_7 cfl_X2_138 ez5 rfl dX2_isNameOf_16 ?_
    refine cl_aload_n hx hb dX2_isNameOf_19 rfl (lv_at hl.1 0 rfl) ?_
    obtain ⟨z6, ez6, iz6, rz6, hf⟩ := cc_g_s hw hf
    refine cw_get (val := cR v z6) B hw rz6 ⟨by decide, by decide⟩ (by decide) cwi_3 cfl_X2_15 ez6 rfl dX2_isNameOf_20 ?_
    refine cl_aload_n hx hb dX2_isNameOf_23 rfl (lv_at hl.1 2 rfl) ?_
    obtain ⟨z7, ez7, iz7, rz7, hf⟩ := cc_g_s hw hf
    refine cw_get (val := .int (rI z7)) B hw rz7 ⟨by decide, by decide⟩ (by decide) cwi_7 cfl_X2_138 ez7 rfl dX2_isNameOf_24 ?_
    refine cl_aload_n hx hb dX2_isNameOf_27 rfl (lv_at hl.1 2 rfl) ?_
    obtain ⟨z8, ez8, iz8, rz8, hf⟩ := cc_g_s hw hf
    refine cw_get (val := .int (rI z8)) B hw rz8 ⟨by decide, by decide⟩ (by decide) cwi_7 cfl_X2_141 ez8 rfl dX2_isNameOf_28 ?_
    obtain ⟨σ9, kv10, z11, hσ9, hf⟩ := cc_cl_s hf
    obtain ⟨iz11, mσ9⟩ := hR 98 σ [z4, z5, z6, z7, z8] σ9 kv10 z11 hσ9
    have mσ9 : cw_Met l v yX5_agree cX5_agree 6 (some .boolean) d [cR v z4, .int (rI z5), cR v z6, .int (rI z7), .int (rI z8)] σ σ9 kv10 (some (.int (rI z11))) := mσ9 iz4 iz5 iz6 iz7 iz8
    refine cw_cs (n := 5) (rest := []) (As := [cR v z4, .int (rI z5), cR v z6, .int (rI z7), .int (rI z8)]) B mσ9 cgo_yX5_agree cml_X2_169 cst_yX5_agree (by decide +kernel) (by decide) rfl hl.1.1 (Nat.le_of_ble_eq_true rfl) dX2_isNameOf_31 rfl hw (fun h0 H locs cells slots hw => ?_) (fun h0 H locs cells slots q ce hw h1 h2 h3 => ?_)
    · rcases hf with ⟨-, hf⟩ | ⟨hk, -⟩
      · skip
        refine rn_if_eq (a := z11) (tgt := 41) hx hb iz11 dX2_isNameOf_34 (by decide) (fun c12 => ?_) (fun c12 => ?_)
        · replace hf := cc_if_t hf c12
          refine lv_iconst (v := rI 0) hx hb dX2_isNameOf_41 rfl ?_
          obtain ⟨h01, hf⟩ := cc_bo_s hf
          exact cw_retz B h01 hf hw dX2_isNameOf_42
        · replace hf := cc_if_f hf c12
          refine lv_iconst (v := rI 1) hx hb dX2_isNameOf_37 rfl ?_
          refine lv_goto (tgt := 42) hx hb dX2_isNameOf_38 (by decide) ?_
          obtain ⟨h01, hf⟩ := cc_bo_s hf
          exact cw_retz B h01 hf hw dX2_isNameOf_42
      · exact absurd h0 hk
    · rcases hf with ⟨hk, -⟩ | ⟨-, hf⟩
      · exact absurd hk h0
      · cases hf
        exact cw_xout B hnh h0 hw h1 h2 h3

set_option maxHeartbeats 4000000 in
set_option maxRecDepth 100000 in
theorem pm_X2_isNameOf {v : cwE} {bd : cBd} {l : Launch} {d : Nat} {rec : Nat → CS → List Int → CO} (hbd : bd = cw_bd v) (hR : cw_Rec l v d rec) (htr : l.stackTraces = false) (hd5 : 5 ≤ d) (σ σ' : CS) (x0 x1 x2 : Int) (kd : Nat) (r : Int) (ix0 : inR x0) (ix1 : inR x1) (ix2 : inR x2) (hf : pc_X2_isNameOf_0 rec bd σ x0 x1 x2 = some (σ', kd, r)) : cw_Met l v yX2_isNameOf cX2_isNameOf 3 (some .boolean) (d + 1) [cR v x0, cR v x1, cR v x2] σ σ' kd (some (.int (rI r))) := by
  refine cw_ofW (by decide +kernel) ?_
  intro p e s m args below meth c s₁ B hml hv
  obtain ⟨rfl, hM, hK⟩ := hv
  have hts := atoms_spec (ws := Cond.code yX2_isNameOf cX2_isNameOf 3 (some .boolean) :: cw_bw) B.pre
  have hB : cw_B v RX2 p s m _ meth c cX2_isNameOf 3 (some .boolean) := ⟨B.exec, B.bytes, B.returns, hml, findClass_of_methodNamed B.named, fun w h => hts w (List.mem_cons_of_mem _ h), B.notSynchronized, hK⟩
  have hnh := cc_nh B (hts _ List.mem_cons_self)
  rw [lg_entry_eq]
  obtain ⟨ls, hls, hl⟩ := cl_ent [cR v x0, cR v x1, cR v x2] 3 (cl_1r (cl_1r (cl_1r cl_10))) (Nat.le_of_ble_eq_true rfl)
  rw [hls]
  exact pw_X2_isNameOf_0 hbd hR htr hd5 hB hnh σ x0 x1 x2 ix0 ix1 ix2 hf _ _ _ _ _ (cw_W0 hM) (cl_sub hl [0, 1, 2] rfl)

set_option maxHeartbeats 4000000 in
set_option maxRecDepth 100000 in
theorem pw_X2_judge_68 {v : cwE} {bd : cBd} {p : Program} {l : Launch} {e : Env} {s : State} {m : MethodId} {args : Array Value} {below : List Frame} {meth : Method} {c : Code} {d : Nat} {rec : Nat → CS → List Int → CO} {σ0 σ' : CS} {kd : Nat} {r : Int} (hbd : bd = cw_bd v) (hR : cw_Rec l v d rec) (htr : l.stackTraces = false) (hd5 : 5 ≤ d) (B : cw_B v RX2 p s m args meth c cX2_judge 8 (some (.object "PureHouse$Node"))) (hnh : ∀ x ∈ c.exceptionTable.toList, False) : ∀ (n : Nat) (σ : CS) (x0 x1 x2 x3 x4 : Int), inR x0 → inR x1 → inR x2 → inR x3 → inR x4 → pc_X2_judge_68 rec bd n σ x0 x1 x2 x3 x4 = some (σ', kd, r) → ∀ (H : Heap) (locs : List Loc) (cells slots : Nat) (ls : Array Slot), cw_W v s σ0 σ H locs cells slots → cl_has ls 8 [(0, cR v x0), (1, cR v x1), (2, cR v x2), (3, cR v x3), (4, .int (rI x4))] → W p l e (cw_rm v (d + 1) σ0) s m args below meth c H locs cells slots (cw_Z below v σ0 σ' kd (some (cR v r)) args s) (F0 m 68 ls []) := by
  subst hbd
  obtain ⟨hx, hb, hr, hml, hown, hts, hlk, hK⟩ := id B
  intro n
  induction n with
  | zero => intro σ x0 x1 x2 x3 x4 ix0 ix1 ix2 ix3 ix4 hf; cases hf
  | succ n ih =>
    intro σ x0 x1 x2 x3 x4 ix0 ix1 ix2 ix3 ix4 hf H locs cells slots ls hw hl
    unfold pc_X2_judge_68 at hf
    refine lv_iload hx hb dX2_judge_68 (lv_at hl.1 4 rfl) ?_
    refine cl_aload_n hx hb dX2_judge_70 rfl (lv_at hl.1 1 rfl) ?_
    obtain ⟨z1, ez1, iz1, rz1, hf⟩ := cc_g_s hw hf
    refine cw_get (val := cR v z1) B hw rz1 ⟨by decide, by decide⟩ (by decide) cwi_7 cfl_X2_59 ez1 rfl dX2_judge_71 ?_
    obtain ⟨z2, ez2, iz2, rz2, hf⟩ := cc_l_s hf
    refine cw_len B hw rz2 (by decide) ez2 iz2 dX2_judge_74 ?_
    refine rn_icmp_ge (a := x4) (b := z2) (tgt := 191) hx hb ix4 iz2 dX2_judge_75 (by decide) (fun c3 => ?_) (fun c3 => ?_)
    · replace hf := cc_if_t hf c3
      refine cl_aload_n hx hb dX2_judge_191 rfl (lv_at hl.1 3 rfl) ?_
      exact cw_reta B hf hw dX2_judge_192
    · replace hf := cc_if_f hf c3
      refine cl_aload_n hx hb dX2_judge_78 rfl (lv_at hl.1 0 rfl) ?_
      refine cl_aload_n hx hb dX2_judge_79 rfl (lv_at hl.1 3 rfl) ?_
      refine cl_aload_n hx hb dX2_judge_80 rfl (lv_at hl.1 1 rfl) ?_
      obtain ⟨z4, ez4, iz4, rz4, hf⟩ := cc_g_s hw hf
      refine cw_get (val := cR v z4) B hw rz4 ⟨by decide, by decide⟩ (by decide) cwi_7 cfl_X2_39 ez4 rfl dX2_judge_81 ?_
      obtain ⟨qσ5, hf⟩ := cc_t_s hf
      obtain ⟨σ5, kv6, z7, hσ5, hf⟩ := cc_cl_s hf
      obtain ⟨iz7, mσ5⟩ := hR 68 σ [x0, x3, z4] σ5 kv6 z7 hσ5
      have mσ5 : cw_Met l v yX2_needProduct cX2_needProduct 3 none d [cR v x0, cR v x3, cR v z4] σ σ5 kv6 none := mσ5 ix0 ix3 iz4
      refine cw_cv (b := x0) (t := 3) (n := 2) (rest := []) (As := [cR v x3, cR v z4]) B mσ5 qσ5 ⟨by decide, by decide⟩ cgo_yX2_needProduct cml_X2_63 cin_yX2_needProduct cse_yX2_needProduct (by decide +kernel) (by decide) rfl hl.1.1 (Nat.le_of_ble_eq_true rfl) dX2_judge_84 rfl hw (fun h0 H locs cells slots hw => ?_) (fun h0 H locs cells slots q ce hw h1 h2 h3 => ?_)
      · rcases hf with ⟨-, hf⟩ | ⟨hk, -⟩
        · skip
          refine cl_aload_n hx hb dX2_judge_87 rfl (lv_at hl.1 1 rfl) ?_
          obtain ⟨z8, ez8, iz8, rz8, hf⟩ := cc_g_s hw hf
          refine cw_get (val := cR v z8) B hw rz8 ⟨by decide, by decide⟩ (by decide) cwi_7 cfl_X2_59 ez8 rfl dX2_judge_88 ?_
          refine lv_iload hx hb dX2_judge_91 (lv_at hl.1 4 rfl) ?_
          obtain ⟨z9, ez9, iz9, rz9, bz9, hf⟩ := cc_r_s hw hf
          refine cw_aldR B hw rz9 ix4 bz9 ez9 dX2_judge_93 ?_
          refine cl_astore (lv' := [(5, cR v z9), (0, cR v x0), (1, cR v x1), (2, cR v x2), (3, cR v x3), (4, .int (rI x4))]) hx hb dX2_judge_94 hl (by decide) rfl (fun ls hl => ?_)
          refine cl_aload_n hx hb dX2_judge_96 rfl (lv_at hl.1 1 rfl) ?_
          refine cl_aload hx hb dX2_judge_97 (lv_at hl.1 0 rfl) ?_
          refine cl_aload_n hx hb dX2_judge_99 rfl (lv_at hl.1 3 rfl) ?_
          obtain ⟨qσ10, hf⟩ := cc_t_s hf
          obtain ⟨σ10, kv11, z12, hσ10, hf⟩ := cc_cl_s hf
          obtain ⟨iz12, mσ10⟩ := hR 66 σ5 [x0, z9, x2] σ10 kv11 z12 hσ10
          have mσ10 : cw_Met l v yX2_judge cX2_judge 8 (some (.object "PureHouse$Node")) d [cR v x0, cR v z9, cR v x2] σ5 σ10 kv11 (some (cR v z12)) := mσ10 ix0 iz9 ix2
          refine cw_cv (b := x0) (t := 3) (n := 2) (rest := []) (As := [cR v z9, cR v x2]) B mσ10 qσ10 ⟨by decide, by decide⟩ cgo_yX2_judge cml_X2_31 cin_yX2_judge cse_yX2_judge (by decide +kernel) (by decide) rfl hl.1.1 (Nat.le_of_ble_eq_true rfl) dX2_judge_100 rfl hw (fun h0 H locs cells slots hw => ?_) (fun h0 H locs cells slots q ce hw h1 h2 h3 => ?_)
          · rcases hf with ⟨-, hf⟩ | ⟨hk, -⟩
            · skip
              refine cl_astore (lv' := [(6, cR v z12), (5, cR v z9), (0, cR v x0), (1, cR v x1), (2, cR v x2), (3, cR v x3), (4, .int (rI x4))]) hx hb dX2_judge_103 hl (by decide) rfl (fun ls hl => ?_)
              refine cl_aload_n hx hb dX2_judge_105 rfl (lv_at hl.1 2 rfl) ?_
              obtain ⟨z13, ez13, iz13, rz13, hf⟩ := cc_g_s hw hf
              refine cw_get (val := cR v z13) B hw rz13 ⟨by decide, by decide⟩ (by decide) cwi_3 cfl_X2_23 ez13 rfl dX2_judge_106 ?_
              refine cl_aload_n hx hb dX2_judge_109 rfl (lv_at hl.1 5 rfl) ?_
              obtain ⟨z14, ez14, iz14, rz14, hf⟩ := cc_g_s hw hf
              refine cw_get (val := cR v z14) B hw rz14 ⟨by decide, by decide⟩ (by decide) cwi_7 cfl_X2_39 ez14 rfl dX2_judge_110 ?_
              refine cl_aload hx hb dX2_judge_113 (lv_at hl.1 0 rfl) ?_
              obtain ⟨qσ15, hf⟩ := cc_t_s hf
              obtain ⟨σ15, kv16, z17, hσ15, hf⟩ := cc_cl_s hf
              obtain ⟨iz17, mσ15⟩ := hR 80 σ10 [z13, z14, z12] σ15 kv16 z17 hσ15
              have mσ15 : cw_Met l v yX4_areSame cX4_areSame 3 (some .boolean) d [cR v z13, cR v z14, cR v z12] σ10 σ15 kv16 (some (.int (rI z17))) := mσ15 iz13 iz14 iz12
              refine cw_cv (b := z13) (t := 5) (n := 2) (rest := []) (As := [cR v z14, cR v z12]) B mσ15 qσ15 ⟨by decide, by decide⟩ cgo_yX4_areSame cml_X2_67 cin_yX4_areSame cse_yX4_areSame (by decide +kernel) (by decide) rfl hl.1.1 (Nat.le_of_ble_eq_true rfl) dX2_judge_115 rfl hw (fun h0 H locs cells slots hw => ?_) (fun h0 H locs cells slots q ce hw h1 h2 h3 => ?_)
              · rcases hf with ⟨-, hf⟩ | ⟨hk, -⟩
                · skip
                  refine rn_if_ne (a := z17) (tgt := 143) hx hb iz17 dX2_judge_118 (by decide) (fun c18 => ?_) (fun c18 => ?_)
                  · replace hf := cc_if_t hf c18
                    refine cl_aload_n hx hb dX2_judge_143 rfl (lv_at hl.1 2 rfl) ?_
                    refine cl_aload_n hx hb dX2_judge_144 rfl (lv_at hl.1 5 rfl) ?_
                    obtain ⟨z19, ez19, iz19, rz19, hf⟩ := cc_g_s hw hf
                    refine cw_get (val := .int (rI z19)) B hw rz19 ⟨by decide, by decide⟩ (by decide) cwi_7 cfl_X2_85 ez19 rfl dX2_judge_145 ?_
                    obtain ⟨σ20, eσ20, rσ20, hf⟩ := cc_p_s hf
                    refine cw_put B hw rσ20 cwt_3 (by decide) rfl cfl_X2_9 iz19 eσ20 rfl (cw_fv_n rfl rfl) dX2_judge_148 (fun H locs hw => ?_)
                    obtain ⟨σ21, z22, eσ21, ez22, iz22, rσ21, hf⟩ := cc_n_s hf
                    refine cw_new B hw cwt_4 rfl cwd_4 cnl_X2_88 cni_4 cnz_4 rσ21 eσ21 ez22 dX2_judge_151 (fun H hw => ?_)
                    refine lv_dup hx hb dX2_judge_154 (cR_cat _) ?_
                    refine cl_aload_n hx hb dX2_judge_155 rfl (lv_at hl.1 5 rfl) ?_
                    obtain ⟨z23, ez23, iz23, rz23, hf⟩ := cc_g_s hw hf
                    refine cw_get (val := .int (rI z23)) B hw rz23 ⟨by decide, by decide⟩ (by decide) cwi_7 cfl_X2_90 ez23 rfl dX2_judge_156 ?_
                    refine cl_aload hx hb dX2_judge_159 (lv_at hl.1 1 rfl) ?_
                    refine cl_aload_n hx hb dX2_judge_161 rfl (lv_at hl.1 4 rfl) ?_
                    obtain ⟨σ24, kv25, z26, hσ24, hf⟩ := cc_cl_s hf
                    obtain ⟨iz26, mσ24⟩ := hR 136 σ21 [x2] σ24 kv25 z26 hσ24
                    have mσ24 : cw_Met l v yX8_letsOf cX8_letsOf 1 (some (.object "PureHouse$Link")) d [cR v x2] σ21 σ24 kv25 (some (cR v z26)) := mσ24 ix2
                    refine cw_cs (n := 1) (rest := [cR v z9, .int (rI z23), cR v z22, cR v z22]) (As := [cR v x2]) B mσ24 cgo_yX8_letsOf cml_X2_93 cst_yX8_letsOf (by decide +kernel) (by decide) rfl hl.1.1 (cl_cs (cl_1r (cl_1i (cl_1r (cl_1r cl_10)))) (Nat.le_of_ble_eq_true rfl)) dX2_judge_162 rfl hw (fun h0 H locs cells slots hw => ?_) (fun h0 H locs cells slots q ce hw h1 h2 h3 => ?_)
                    · rcases hf with ⟨-, hf⟩ | ⟨hk, -⟩
                      · skip
                        refine cl_null (v := v) hx hb dX2_judge_165 ?_
                        obtain ⟨qσ27, hf⟩ := cc_t_s hf
                        obtain ⟨σ27, z29, hσ27, hf⟩ := cc_ci_s hf
                        obtain ⟨iz29, mσ27⟩ := hR 77 σ24 [z22, z23, z9, z26, (-1)] σ27 0 z29 hσ27
                        have mσ27 : cw_Met l v yX3_init cX3_init 5 none d [cR v z22, .int (rI z23), cR v z9, cR v z26, cR v (-1)] σ24 σ27 0 none := mσ27 iz22 iz23 iz9 iz26 ⟨by decide, by decide⟩
                        refine cw_ci (b := z22) (n := 4) (rest := [cR v z22]) (As := [.int (rI z23), cR v z9, cR v z26, cR v (-1)]) B mσ27 qσ27.1 rfl cgo_yX3_init cml_X2_97 cin_yX3_init (by decide +kernel) (by decide) rfl hl.1.1 (cl_cs (cl_1r cl_10) (Nat.le_of_ble_eq_true rfl)) dX2_judge_166 rfl hw (fun H locs cells slots hw => ?_)
                        refine cl_astore (lv' := [(7, cR v z22), (6, cR v z12), (5, cR v z9), (0, cR v x0), (1, cR v x1), (2, cR v x2), (3, cR v x3), (4, .int (rI x4))]) hx hb dX2_judge_169 hl (by decide) rfl (fun ls hl => ?_)
                        refine cl_aload_n hx hb dX2_judge_171 rfl (lv_at hl.1 3 rfl) ?_
                        obtain ⟨z30, ez30, iz30, rz30, hf⟩ := cc_g_s hw hf
                        refine cw_get (val := cR v z30) B hw rz30 ⟨by decide, by decide⟩ (by decide) cwi_3 cfl_X2_23 ez30 rfl dX2_judge_172 ?_
                        refine cl_aload_n hx hb dX2_judge_175 rfl (lv_at hl.1 6 rfl) ?_
                        obtain ⟨z31, ez31, iz31, rz31, hf⟩ := cc_g_s hw hf
                        refine cw_get (val := cR v z31) B hw rz31 ⟨by decide, by decide⟩ (by decide) cwi_7 cfl_X2_51 ez31 rfl dX2_judge_176 ?_
                        refine cl_aload hx hb dX2_judge_179 (lv_at hl.1 0 rfl) ?_
                        obtain ⟨qσ32, hf⟩ := cc_t_s hf
                        obtain ⟨σ32, kv33, z34, hσ32, hf⟩ := cc_cl_s hf
                        obtain ⟨iz34, mσ32⟩ := hR 86 σ27 [z30, z31, z22] σ32 kv33 z34 hσ32
                        have mσ32 : cw_Met l v yX4_normalForm cX4_normalForm 3 (some (.object "PureHouse$Node")) d [cR v z30, cR v z31, cR v z22] σ27 σ32 kv33 (some (cR v z34)) := mσ32 iz30 iz31 iz22
                        refine cw_cv (b := z30) (t := 5) (n := 2) (rest := []) (As := [cR v z31, cR v z22]) B mσ32 qσ32 ⟨by decide, by decide⟩ cgo_yX4_normalForm cml_X2_100 cin_yX4_normalForm cse_yX4_normalForm (by decide +kernel) (by decide) rfl hl.1.1 (Nat.le_of_ble_eq_true rfl) dX2_judge_181 rfl hw (fun h0 H locs cells slots hw => ?_) (fun h0 H locs cells slots q ce hw h1 h2 h3 => ?_)
                        · rcases hf with ⟨-, hf⟩ | ⟨hk, -⟩
                          · skip
                            refine cl_astore_n (lv' := [(3, cR v z34), (7, cR v z22), (6, cR v z12), (5, cR v z9), (0, cR v x0), (1, cR v x1), (2, cR v x2), (4, .int (rI x4))]) hx hb dX2_judge_184 rfl hl (by decide) rfl (fun ls hl => ?_)
                            obtain ⟨z35, ez35, iz35, hf⟩ := cc_ck_s hf
                            refine cl_iinc (v := rI z35) (lv' := [(4, .int (rI z35)), (3, cR v z34), (7, cR v z22), (6, cR v z12), (5, cR v z9), (0, cR v x0), (1, cR v x1), (2, cR v x2)]) hx hb dX2_judge_185 hl (k := 7) rfl (by rw [ez35]; exact rI_add _ _) (by decide) rfl (fun ls hl => ?_)
                            refine lv_goto (tgt := 68) hx hb dX2_judge_188 (by decide) ?_
                            exact ih σ32 x0 x1 x2 z34 z35 ix0 ix1 ix2 iz34 iz35 hf _ _ _ _ _ hw (cl_sub hl [5, 6, 7, 1, 0] rfl)
                          · exact absurd h0 hk
                        · rcases hf with ⟨hk, -⟩ | ⟨-, hf⟩
                          · exact absurd hk h0
                          · cases hf
                            exact cw_xout B hnh h0 hw h1 h2 h3
                      · exact absurd h0 hk
                    · rcases hf with ⟨hk, -⟩ | ⟨-, hf⟩
                      · exact absurd hk h0
                      · cases hf
                        exact cw_xout B hnh h0 hw h1 h2 h3
                  · replace hf := cc_if_f hf c18
                    refine cl_aload_n hx hb dX2_judge_121 rfl (lv_at hl.1 2 rfl) ?_
                    obtain ⟨z36, ez36, iz36, rz36, hf⟩ := cc_g_s hw hf
                    refine cw_get (val := cR v z36) B hw rz36 ⟨by decide, by decide⟩ (by decide) cwi_3 cfl_X2_27 ez36 rfl dX2_judge_122 ?_
                    refine lv_bipush (v := rI 11) hx hb dX2_judge_125 (by decide +kernel) ?_
                    refine cl_aload hx hb dX2_judge_127 (lv_at hl.1 1 rfl) ?_
                    obtain ⟨z37, ez37, iz37, rz37, hf⟩ := cc_g_s hw hf
                    refine cw_get (val := .int (rI z37)) B hw rz37 ⟨by decide, by decide⟩ (by decide) cwi_7 cfl_X2_73 ez37 rfl dX2_judge_129 ?_
                    obtain ⟨qσ38, hf⟩ := cc_t_s hf
                    obtain ⟨σ38, kv39, z40, hσ38, hf⟩ := cc_cl_s hf
                    obtain ⟨iz40, mσ38⟩ := hR 30 σ15 [z36, 11, z37] σ38 kv39 z40 hσ38
                    have mσ38 : cw_Met l v yX10_set cX10_set 3 none d [cR v z36, .int (rI 11), .int (rI z37)] σ15 σ38 kv39 none := mσ38 iz36 ⟨by decide, by decide⟩ iz37
                    refine cw_cv (b := z36) (t := 11) (n := 2) (rest := []) (As := [.int (rI 11), .int (rI z37)]) B mσ38 qσ38 ⟨by decide, by decide⟩ cgo_yX10_set cml_X2_76 cin_yX10_set cse_yX10_set (by decide +kernel) (by decide) rfl hl.1.1 (Nat.le_of_ble_eq_true rfl) dX2_judge_132 rfl hw (fun h0 H locs cells slots hw => ?_) (fun h0 H locs cells slots q ce hw h1 h2 h3 => ?_)
                    · rcases hf with ⟨-, hf⟩ | ⟨hk, -⟩
                      · skip
                        obtain ⟨hy, hm⟩ := cc_x_s hf
                        obtain ⟨hy1, hy2⟩ := Prod.mk.inj hy
                        obtain ⟨hy2, hy3⟩ := Prod.mk.inj hy2
                        subst hy2
                        refine cw_throw (rest := []) B hnh htr hw (by decide) (by decide +kernel) cxc_X2_82 cxi_1 (cw_hat cxa_X2_84 (by decide +kernel) hts hK.1) (List.all_eq_true.mp cxg_X2_84) hd5 hm hy1 hl.1.1 (Nat.le_of_ble_eq_true rfl) dX2_judge_135 dX2_judge_138 dX2_judge_139 dX2_judge_142
                      · exact absurd h0 hk
                    · rcases hf with ⟨hk, -⟩ | ⟨-, hf⟩
                      · exact absurd hk h0
                      · cases hf
                        exact cw_xout B hnh h0 hw h1 h2 h3
                · exact absurd h0 hk
              · rcases hf with ⟨hk, -⟩ | ⟨-, hf⟩
                · exact absurd hk h0
                · cases hf
                  exact cw_xout B hnh h0 hw h1 h2 h3
            · exact absurd h0 hk
          · rcases hf with ⟨hk, -⟩ | ⟨-, hf⟩
            · exact absurd hk h0
            · cases hf
              exact cw_xout B hnh h0 hw h1 h2 h3
        · exact absurd h0 hk
      · rcases hf with ⟨hk, -⟩ | ⟨-, hf⟩
        · exact absurd hk h0
        · cases hf
          exact cw_xout B hnh h0 hw h1 h2 h3

set_option maxHeartbeats 4000000 in
set_option maxRecDepth 100000 in
theorem pw_X2_judge_0 {v : cwE} {bd : cBd} {p : Program} {l : Launch} {e : Env} {s : State} {m : MethodId} {args : Array Value} {below : List Frame} {meth : Method} {c : Code} {d : Nat} {rec : Nat → CS → List Int → CO} {σ0 σ' : CS} {kd : Nat} {r : Int} (hbd : bd = cw_bd v) (hR : cw_Rec l v d rec) (htr : l.stackTraces = false) (hd5 : 5 ≤ d) (B : cw_B v RX2 p s m args meth c cX2_judge 8 (some (.object "PureHouse$Node"))) (hnh : ∀ x ∈ c.exceptionTable.toList, False) : ∀ (σ : CS) (x0 x1 x2 : Int), inR x0 → inR x1 → inR x2 → pc_X2_judge_0 rec bd σ x0 x1 x2 = some (σ', kd, r) → ∀ (H : Heap) (locs : List Loc) (cells slots : Nat) (ls : Array Slot), cw_W v s σ0 σ H locs cells slots → cl_has ls 8 [(0, cR v x0), (1, cR v x1), (2, cR v x2)] → W p l e (cw_rm v (d + 1) σ0) s m args below meth c H locs cells slots (cw_Z below v σ0 σ' kd (some (cR v r)) args s) (F0 m 0 ls []) := by
  subst hbd
  obtain ⟨hx, hb, hr, hml, hown, hts, hlk, hK⟩ := id B
  intro σ x0 x1 x2 ix0 ix1 ix2 hf H locs cells slots ls hw hl
  unfold pc_X2_judge_0 at hf
  refine cl_aload_n hx hb dX2_judge_0 rfl (lv_at hl.1 1 rfl) ?_
  obtain ⟨z1, ez1, iz1, rz1, hf⟩ := cc_g_s hw hf
  refine cw_get (val := cR v z1) B hw rz1 ⟨by decide, by decide⟩ (by decide) cwi_7 cfl_X2_39 ez1 rfl dX2_judge_1 ?_
  refine cl_ifnonnull (x := z1) (tgt := 14) hx hb dX2_judge_4 (by decide) (fun c2 => ?_) (fun c2 => ?_)
  · replace hf := cc_if_t hf c2
    refine cl_aload_n hx hb dX2_judge_14 rfl (lv_at hl.1 0 rfl) ?_
    refine cl_aload_n hx hb dX2_judge_15 rfl (lv_at hl.1 1 rfl) ?_
    obtain ⟨z3, ez3, iz3, rz3, hf⟩ := cc_g_s hw hf
    refine cw_get (val := cR v z3) B hw rz3 ⟨by decide, by decide⟩ (by decide) cwi_7 cfl_X2_39 ez3 rfl dX2_judge_16 ?_
    refine cl_aload_n hx hb dX2_judge_19 rfl (lv_at hl.1 2 rfl) ?_
    obtain ⟨qσ4, hf⟩ := cc_t_s hf
    obtain ⟨σ4, kv5, z6, hσ4, hf⟩ := cc_cl_s hf
    obtain ⟨iz6, mσ4⟩ := hR 66 σ [x0, z3, x2] σ4 kv5 z6 hσ4
    have mσ4 : cw_Met l v yX2_judge cX2_judge 8 (some (.object "PureHouse$Node")) d [cR v x0, cR v z3, cR v x2] σ σ4 kv5 (some (cR v z6)) := mσ4 ix0 iz3 ix2
    refine cw_cv (b := x0) (t := 3) (n := 2) (rest := []) (As := [cR v z3, cR v x2]) B mσ4 qσ4 ⟨by decide, by decide⟩ cgo_yX2_judge cml_X2_31 cin_yX2_judge cse_yX2_judge (by decide +kernel) (by decide) rfl hl.1.1 (Nat.le_of_ble_eq_true rfl) dX2_judge_20 rfl hw (fun h0 H locs cells slots hw => ?_) (fun h0 H locs cells slots q ce hw h1 h2 h3 => ?_)
    · rcases hf with ⟨-, hf⟩ | ⟨hk, -⟩
      · skip
        refine cl_astore_n (lv' := [(3, cR v z6), (0, cR v x0), (1, cR v x1), (2, cR v x2)]) hx hb dX2_judge_23 rfl hl (by decide) rfl (fun ls hl => ?_)
        refine cl_aload_n hx hb dX2_judge_24 rfl (lv_at hl.1 2 rfl) ?_
        obtain ⟨z7, ez7, iz7, rz7, hf⟩ := cc_g_s hw hf
        refine cw_get (val := .int (rI z7)) B hw rz7 ⟨by decide, by decide⟩ (by decide) cwi_7 cfl_X2_48 ez7 rfl dX2_judge_25 ?_
        refine lv_bipush (v := rI 6) hx hb dX2_judge_28 (by decide +kernel) ?_
        refine rn_icmp_ne (a := z7) (b := 6) (tgt := 56) hx hb iz7 ⟨by decide, by decide⟩ dX2_judge_30 (by decide) (fun c8 => ?_) (fun c8 => ?_)
        · replace hf := cc_if_t hf c8
          refine cl_aload_n hx hb dX2_judge_56 rfl (lv_at hl.1 2 rfl) ?_
          obtain ⟨z9, ez9, iz9, rz9, hf⟩ := cc_g_s hw hf
          refine cw_get (val := .int (rI z9)) B hw rz9 ⟨by decide, by decide⟩ (by decide) cwi_7 cfl_X2_48 ez9 rfl dX2_judge_57 ?_
          refine lv_bipush (v := rI 7) hx hb dX2_judge_60 (by decide +kernel) ?_
          refine rn_icmp_ne (a := z9) (b := 7) (tgt := 193) hx hb iz9 ⟨by decide, by decide⟩ dX2_judge_62 (by decide) (fun c10 => ?_) (fun c10 => ?_)
          · replace hf := cc_if_t hf c10
            refine cl_aload_n hx hb dX2_judge_193 rfl (lv_at hl.1 1 rfl) ?_
            refine cl_aload_n hx hb dX2_judge_194 rfl (lv_at hl.1 0 rfl) ?_
            refine cl_aload_n hx hb dX2_judge_195 rfl (lv_at hl.1 2 rfl) ?_
            obtain ⟨z11, ez11, iz11, rz11, hf⟩ := cc_g_s hw hf
            refine cw_get (val := cR v z11) B hw rz11 ⟨by decide, by decide⟩ (by decide) cwi_7 cfl_X2_39 ez11 rfl dX2_judge_196 ?_
            obtain ⟨qσ12, hf⟩ := cc_t_s hf
            obtain ⟨σ12, kv13, z14, hσ12, hf⟩ := cc_cl_s hf
            obtain ⟨iz14, mσ12⟩ := hR 70 σ4 [x0, z6, z11] σ12 kv13 z14 hσ12
            have mσ12 : cw_Met l v yX2_neededSort cX2_neededSort 3 (some .int) d [cR v x0, cR v z6, cR v z11] σ4 σ12 kv13 (some (.int (rI z14))) := mσ12 ix0 iz6 iz11
            refine cw_cv (b := x0) (t := 3) (n := 2) (rest := []) (As := [cR v z6, cR v z11]) B mσ12 qσ12 ⟨by decide, by decide⟩ cgo_yX2_neededSort cml_X2_35 cin_yX2_neededSort cse_yX2_neededSort (by decide +kernel) (by decide) rfl hl.1.1 (Nat.le_of_ble_eq_true rfl) dX2_judge_199 rfl hw (fun h0 H locs cells slots hw => ?_) (fun h0 H locs cells slots q ce hw h1 h2 h3 => ?_)
            · rcases hf with ⟨-, hf⟩ | ⟨hk, -⟩
              · skip
                refine cl_istore (lv' := [(4, .int (rI z14)), (3, cR v z6), (0, cR v x0), (1, cR v x1), (2, cR v x2)]) hx hb dX2_judge_202 hl (by decide) rfl (fun ls hl => ?_)
                refine cl_aload_n hx hb dX2_judge_204 rfl (lv_at hl.1 2 rfl) ?_
                obtain ⟨z15, ez15, iz15, rz15, hf⟩ := cc_g_s hw hf
                refine cw_get (val := cR v z15) B hw rz15 ⟨by decide, by decide⟩ (by decide) cwi_3 cfl_X2_23 ez15 rfl dX2_judge_205 ?_
                refine cl_aload_n hx hb dX2_judge_208 rfl (lv_at hl.1 3 rfl) ?_
                obtain ⟨z16, ez16, iz16, rz16, hf⟩ := cc_g_s hw hf
                refine cw_get (val := cR v z16) B hw rz16 ⟨by decide, by decide⟩ (by decide) cwi_7 cfl_X2_39 ez16 rfl dX2_judge_209 ?_
                refine cl_aload_n hx hb dX2_judge_212 rfl (lv_at hl.1 4 rfl) ?_
                obtain ⟨σ17, kv18, z19, hσ17, hf⟩ := cc_cl_s hf
                obtain ⟨iz19, mσ17⟩ := hR 136 σ12 [x2] σ17 kv18 z19 hσ17
                have mσ17 : cw_Met l v yX8_letsOf cX8_letsOf 1 (some (.object "PureHouse$Link")) d [cR v x2] σ12 σ17 kv18 (some (cR v z19)) := mσ17 ix2
                refine cw_cs (n := 1) (rest := [cR v z16, cR v z15]) (As := [cR v x2]) B mσ17 cgo_yX8_letsOf cml_X2_93 cst_yX8_letsOf (by decide +kernel) (by decide) rfl hl.1.1 (cl_cs (cl_1r (cl_1r cl_10)) (Nat.le_of_ble_eq_true rfl)) dX2_judge_213 rfl hw (fun h0 H locs cells slots hw => ?_) (fun h0 H locs cells slots q ce hw h1 h2 h3 => ?_)
                · rcases hf with ⟨-, hf⟩ | ⟨hk, -⟩
                  · skip
                    obtain ⟨qσ20, hf⟩ := cc_t_s hf
                    obtain ⟨σ20, kv21, z22, hσ20, hf⟩ := cc_cl_s hf
                    obtain ⟨iz22, mσ20⟩ := hR 86 σ17 [z15, z16, z19] σ20 kv21 z22 hσ20
                    have mσ20 : cw_Met l v yX4_normalForm cX4_normalForm 3 (some (.object "PureHouse$Node")) d [cR v z15, cR v z16, cR v z19] σ17 σ20 kv21 (some (cR v z22)) := mσ20 iz15 iz16 iz19
                    refine cw_cv (b := z15) (t := 5) (n := 2) (rest := []) (As := [cR v z16, cR v z19]) B mσ20 qσ20 ⟨by decide, by decide⟩ cgo_yX4_normalForm cml_X2_100 cin_yX4_normalForm cse_yX4_normalForm (by decide +kernel) (by decide) rfl hl.1.1 (Nat.le_of_ble_eq_true rfl) dX2_judge_216 rfl hw (fun h0 H locs cells slots hw => ?_) (fun h0 H locs cells slots q ce hw h1 h2 h3 => ?_)
                    · rcases hf with ⟨-, hf⟩ | ⟨hk, -⟩
                      · skip
                        refine cl_astore (lv' := [(5, cR v z22), (4, .int (rI z14)), (3, cR v z6), (0, cR v x0), (1, cR v x1), (2, cR v x2)]) hx hb dX2_judge_219 hl (by decide) rfl (fun ls hl => ?_)
                        refine cl_aload_n hx hb dX2_judge_221 rfl (lv_at hl.1 3 rfl) ?_
                        refine cl_aload_n hx hb dX2_judge_222 rfl (lv_at hl.1 4 rfl) ?_
                        obtain ⟨z23, ez23, iz23, rz23, hf⟩ := cc_g_s hw hf
                        refine cw_get (val := cR v z23) B hw rz23 ⟨by decide, by decide⟩ (by decide) cwi_7 cfl_X2_51 ez23 rfl dX2_judge_223 ?_
                        obtain ⟨σ24, z25, eσ24, ez25, iz25, rσ24, hf⟩ := cc_n_s hf
                        refine cw_new B hw cwt_9 rfl cwd_9 cnl_X2_54 cni_9 cnz_9 rσ24 eσ24 ez25 dX2_judge_226 (fun H hw => ?_)
                        refine lv_dup hx hb dX2_judge_229 (cR_cat _) ?_
                        refine cl_aload_n hx hb dX2_judge_230 rfl (lv_at hl.1 4 rfl) ?_
                        refine cl_aload hx hb dX2_judge_231 (lv_at hl.1 0 rfl) ?_
                        refine lv_iload hx hb dX2_judge_233 (lv_at hl.1 1 rfl) ?_
                        refine cl_aload_n hx hb dX2_judge_235 rfl (lv_at hl.1 5 rfl) ?_
                        obtain ⟨qσ26, hf⟩ := cc_t_s hf
                        obtain ⟨σ26, z28, hσ26, hf⟩ := cc_ci_s hf
                        obtain ⟨iz28, mσ26⟩ := hR 135 σ24 [z25, x1, z22, z14, x2] σ26 0 z28 hσ26
                        have mσ26 : cw_Met l v yX8_init cX8_init 7 none d [cR v z25, cR v x1, cR v z22, .int (rI z14), cR v x2] σ24 σ26 0 none := mσ26 iz25 ix1 iz22 iz14 ix2
                        refine cw_ci (b := z25) (n := 4) (rest := [cR v z25, cR v z23, cR v x0]) (As := [cR v x1, cR v z22, .int (rI z14), cR v x2]) B mσ26 qσ26.1 rfl cgo_yX8_init cml_X2_56 cin_yX8_init (by decide +kernel) (by decide) rfl hl.1.1 (cl_cs (cl_1r (cl_1r (cl_1r cl_10))) (Nat.le_of_ble_eq_true rfl)) dX2_judge_236 rfl hw (fun H locs cells slots hw => ?_)
                        obtain ⟨qσ29, hf⟩ := cc_t_s hf
                        obtain ⟨σ29, kv30, z31, hσ29, hf⟩ := cc_cl_s hf
                        obtain ⟨iz31, mσ29⟩ := hR 66 σ26 [x0, z23, z25] σ29 kv30 z31 hσ29
                        have mσ29 : cw_Met l v yX2_judge cX2_judge 8 (some (.object "PureHouse$Node")) d [cR v x0, cR v z23, cR v z25] σ26 σ29 kv30 (some (cR v z31)) := mσ29 ix0 iz23 iz25
                        refine cw_cv (b := x0) (t := 3) (n := 2) (rest := []) (As := [cR v z23, cR v z25]) B mσ29 qσ29 ⟨by decide, by decide⟩ cgo_yX2_judge cml_X2_31 cin_yX2_judge cse_yX2_judge (by decide +kernel) (by decide) rfl hl.1.1 (Nat.le_of_ble_eq_true rfl) dX2_judge_239 rfl hw (fun h0 H locs cells slots hw => ?_) (fun h0 H locs cells slots q ce hw h1 h2 h3 => ?_)
                        · rcases hf with ⟨-, hf⟩ | ⟨hk, -⟩
                          · skip
                            refine cl_astore (lv' := [(6, cR v z31), (5, cR v z22), (4, .int (rI z14)), (3, cR v z6), (0, cR v x0), (1, cR v x1), (2, cR v x2)]) hx hb dX2_judge_242 hl (by decide) rfl (fun ls hl => ?_)
                            refine cl_aload_n hx hb dX2_judge_244 rfl (lv_at hl.1 5 rfl) ?_
                            obtain ⟨z32, ez32, iz32, rz32, hf⟩ := cc_g_s hw hf
                            refine cw_get (val := .int (rI z32)) B hw rz32 ⟨by decide, by decide⟩ (by decide) cwi_7 cfl_X2_48 ez32 rfl dX2_judge_245 ?_
                            refine lv_iconst (v := rI 5) hx hb dX2_judge_248 rfl ?_
                            refine rn_icmp_ne (a := z32) (b := 5) (tgt := 270) hx hb iz32 ⟨by decide, by decide⟩ dX2_judge_249 (by decide) (fun c33 => ?_) (fun c33 => ?_)
                            · replace hf := cc_if_t hf c33
                              refine cl_aload_n hx hb dX2_judge_270 rfl (lv_at hl.1 4 rfl) ?_
                              refine cl_aload_n hx hb dX2_judge_271 rfl (lv_at hl.1 5 rfl) ?_
                              refine cl_aload hx hb dX2_judge_272 (lv_at hl.1 1 rfl) ?_
                              refine lv_iload hx hb dX2_judge_274 (lv_at hl.1 2 rfl) ?_
                              refine cl_aload hx hb dX2_judge_276 (lv_at hl.1 0 rfl) ?_
                              obtain ⟨qσ34, hf⟩ := cc_t_s hf
                              obtain ⟨σ34, kv35, z36, hσ34, hf⟩ := cc_cl_s hf
                              obtain ⟨iz36, mσ34⟩ := hR 74 σ29 [x0, x1, z22, z14, z31] σ34 kv35 z36 hσ34
                              have mσ34 : cw_Met l v yX2_typeOfLambda cX2_typeOfLambda 7 (some (.object "PureHouse$Node")) d [cR v x0, cR v x1, cR v z22, .int (rI z14), cR v z31] σ29 σ34 kv35 (some (cR v z36)) := mσ34 ix0 ix1 iz22 iz14 iz31
                              refine cw_cv (b := x0) (t := 3) (n := 4) (rest := []) (As := [cR v x1, cR v z22, .int (rI z14), cR v z31]) B mσ34 qσ34 ⟨by decide, by decide⟩ cgo_yX2_typeOfLambda cml_X2_108 cin_yX2_typeOfLambda cse_yX2_typeOfLambda (by decide +kernel) (by decide) rfl hl.1.1 (Nat.le_of_ble_eq_true rfl) dX2_judge_278 rfl hw (fun h0 H locs cells slots hw => ?_) (fun h0 H locs cells slots q ce hw h1 h2 h3 => ?_)
                              · rcases hf with ⟨-, hf⟩ | ⟨hk, -⟩
                                · skip
                                  exact cw_reta B hf hw dX2_judge_281
                                · exact absurd h0 hk
                              · rcases hf with ⟨hk, -⟩ | ⟨-, hf⟩
                                · exact absurd hk h0
                                · cases hf
                                  exact cw_xout B hnh h0 hw h1 h2 h3
                            · replace hf := cc_if_f hf c33
                              refine cl_aload_n hx hb dX2_judge_252 rfl (lv_at hl.1 4 rfl) ?_
                              refine cl_aload_n hx hb dX2_judge_253 rfl (lv_at hl.1 5 rfl) ?_
                              refine lv_iload hx hb dX2_judge_254 (lv_at hl.1 2 rfl) ?_
                              refine cl_aload_n hx hb dX2_judge_256 rfl (lv_at hl.1 4 rfl) ?_
                              refine cl_aload hx hb dX2_judge_257 (lv_at hl.1 0 rfl) ?_
                              refine cl_aload_n hx hb dX2_judge_259 rfl (lv_at hl.1 5 rfl) ?_
                              obtain ⟨z37, ez37, iz37, rz37, hf⟩ := cc_g_s hw hf
                              refine cw_get (val := cR v z37) B hw rz37 ⟨by decide, by decide⟩ (by decide) cwi_7 cfl_X2_51 ez37 rfl dX2_judge_260 ?_
                              obtain ⟨qσ38, hf⟩ := cc_t_s hf
                              obtain ⟨σ38, kv39, z40, hσ38, hf⟩ := cc_cl_s hf
                              obtain ⟨iz40, mσ38⟩ := hR 70 σ29 [x0, z31, z37] σ38 kv39 z40 hσ38
                              have mσ38 : cw_Met l v yX2_neededSort cX2_neededSort 3 (some .int) d [cR v x0, cR v z31, cR v z37] σ29 σ38 kv39 (some (.int (rI z40))) := mσ38 ix0 iz31 iz37
                              refine cw_cv (b := x0) (t := 3) (n := 2) (rest := [.int (rI z14), cR v x1, cR v x0]) (As := [cR v z31, cR v z37]) B mσ38 qσ38 ⟨by decide, by decide⟩ cgo_yX2_neededSort cml_X2_35 cin_yX2_neededSort cse_yX2_neededSort (by decide +kernel) (by decide) rfl hl.1.1 (cl_cs (cl_1i (cl_1r (cl_1r cl_10))) (Nat.le_of_ble_eq_true rfl)) dX2_judge_263 rfl hw (fun h0 H locs cells slots hw => ?_) (fun h0 H locs cells slots q ce hw h1 h2 h3 => ?_)
                              · rcases hf with ⟨-, hf⟩ | ⟨hk, -⟩
                                · skip
                                  obtain ⟨qσ41, hf⟩ := cc_t_s hf
                                  obtain ⟨σ41, kv42, z43, hσ41, hf⟩ := cc_cl_s hf
                                  obtain ⟨iz43, mσ41⟩ := hR 75 σ38 [x0, x1, z14, z40] σ41 kv42 z43 hσ41
                                  have mσ41 : cw_Met l v yX2_typeOfProduct cX2_typeOfProduct 5 (some (.object "PureHouse$Node")) d [cR v x0, cR v x1, .int (rI z14), .int (rI z40)] σ38 σ41 kv42 (some (cR v z43)) := mσ41 ix0 ix1 iz14 iz40
                                  refine cw_cv (b := x0) (t := 3) (n := 3) (rest := []) (As := [cR v x1, .int (rI z14), .int (rI z40)]) B mσ41 qσ41 ⟨by decide, by decide⟩ cgo_yX2_typeOfProduct cml_X2_104 cin_yX2_typeOfProduct cse_yX2_typeOfProduct (by decide +kernel) (by decide) rfl hl.1.1 (Nat.le_of_ble_eq_true rfl) dX2_judge_266 rfl hw (fun h0 H locs cells slots hw => ?_) (fun h0 H locs cells slots q ce hw h1 h2 h3 => ?_)
                                  · rcases hf with ⟨-, hf⟩ | ⟨hk, -⟩
                                    · skip
                                      exact cw_reta B hf hw dX2_judge_269
                                    · exact absurd h0 hk
                                  · rcases hf with ⟨hk, -⟩ | ⟨-, hf⟩
                                    · exact absurd hk h0
                                    · cases hf
                                      exact cw_xout B hnh h0 hw h1 h2 h3
                                · exact absurd h0 hk
                              · rcases hf with ⟨hk, -⟩ | ⟨-, hf⟩
                                · exact absurd hk h0
                                · cases hf
                                  exact cw_xout B hnh h0 hw h1 h2 h3
                          · exact absurd h0 hk
                        · rcases hf with ⟨hk, -⟩ | ⟨-, hf⟩
                          · exact absurd hk h0
                          · cases hf
                            exact cw_xout B hnh h0 hw h1 h2 h3
                      · exact absurd h0 hk
                    · rcases hf with ⟨hk, -⟩ | ⟨-, hf⟩
                      · exact absurd hk h0
                      · cases hf
                        exact cw_xout B hnh h0 hw h1 h2 h3
                  · exact absurd h0 hk
                · rcases hf with ⟨hk, -⟩ | ⟨-, hf⟩
                  · exact absurd hk h0
                  · cases hf
                    exact cw_xout B hnh h0 hw h1 h2 h3
              · exact absurd h0 hk
            · rcases hf with ⟨hk, -⟩ | ⟨-, hf⟩
              · exact absurd hk h0
              · cases hf
                exact cw_xout B hnh h0 hw h1 h2 h3
          · replace hf := cc_if_f hf c10
            refine lv_iconst (v := rI 0) hx hb dX2_judge_65 rfl ?_
            refine cl_istore (lv' := [(4, .int (rI 0)), (3, cR v z6), (0, cR v x0), (1, cR v x1), (2, cR v x2)]) hx hb dX2_judge_66 hl (by decide) rfl (fun ls hl => ?_)
            exact pw_X2_judge_68 rfl hR htr hd5 B hnh 2000000 σ4 x0 x1 x2 z6 0 ix0 ix1 ix2 iz6 ⟨by decide, by decide⟩ hf _ _ _ _ _ hw (cl_sub hl [2, 3, 4, 1, 0] rfl)
        · replace hf := cc_if_f hf c8
          refine cl_aload_n hx hb dX2_judge_33 rfl (lv_at hl.1 1 rfl) ?_
          refine cl_aload_n hx hb dX2_judge_34 rfl (lv_at hl.1 2 rfl) ?_
          obtain ⟨z44, ez44, iz44, rz44, hf⟩ := cc_g_s hw hf
          refine cw_get (val := cR v z44) B hw rz44 ⟨by decide, by decide⟩ (by decide) cwi_7 cfl_X2_51 ez44 rfl dX2_judge_35 ?_
          obtain ⟨σ45, z46, eσ45, ez46, iz46, rσ45, hf⟩ := cc_n_s hf
          refine cw_new B hw cwt_9 rfl cwd_9 cnl_X2_54 cni_9 cnz_9 rσ45 eσ45 ez46 dX2_judge_38 (fun H hw => ?_)
          refine lv_dup hx hb dX2_judge_41 (cR_cat _) ?_
          refine cl_aload_n hx hb dX2_judge_42 rfl (lv_at hl.1 2 rfl) ?_
          refine cl_aload_n hx hb dX2_judge_43 rfl (lv_at hl.1 0 rfl) ?_
          refine cl_aload_n hx hb dX2_judge_44 rfl (lv_at hl.1 1 rfl) ?_
          obtain ⟨z47, ez47, iz47, rz47, hf⟩ := cc_g_s hw hf
          refine cw_get (val := .int (rI z47)) B hw rz47 ⟨by decide, by decide⟩ (by decide) cwi_3 cfl_X2_9 ez47 rfl dX2_judge_45 ?_
          refine cl_aload_n hx hb dX2_judge_48 rfl (lv_at hl.1 3 rfl) ?_
          obtain ⟨qσ48, hf⟩ := cc_t_s hf
          obtain ⟨σ48, z50, hσ48, hf⟩ := cc_ci_s hf
          obtain ⟨iz50, mσ48⟩ := hR 135 σ45 [z46, x1, z6, z47, x2] σ48 0 z50 hσ48
          have mσ48 : cw_Met l v yX8_init cX8_init 7 none d [cR v z46, cR v x1, cR v z6, .int (rI z47), cR v x2] σ45 σ48 0 none := mσ48 iz46 ix1 iz6 iz47 ix2
          refine cw_ci (b := z46) (n := 4) (rest := [cR v z46, cR v z44, cR v x0]) (As := [cR v x1, cR v z6, .int (rI z47), cR v x2]) B mσ48 qσ48.1 rfl cgo_yX8_init cml_X2_56 cin_yX8_init (by decide +kernel) (by decide) rfl hl.1.1 (cl_cs (cl_1r (cl_1r (cl_1r cl_10))) (Nat.le_of_ble_eq_true rfl)) dX2_judge_49 rfl hw (fun H locs cells slots hw => ?_)
          obtain ⟨qσ51, hf⟩ := cc_t_s hf
          obtain ⟨σ51, kv52, z53, hσ51, hf⟩ := cc_cl_s hf
          obtain ⟨iz53, mσ51⟩ := hR 66 σ48 [x0, z44, z46] σ51 kv52 z53 hσ51
          have mσ51 : cw_Met l v yX2_judge cX2_judge 8 (some (.object "PureHouse$Node")) d [cR v x0, cR v z44, cR v z46] σ48 σ51 kv52 (some (cR v z53)) := mσ51 ix0 iz44 iz46
          refine cw_cv (b := x0) (t := 3) (n := 2) (rest := []) (As := [cR v z44, cR v z46]) B mσ51 qσ51 ⟨by decide, by decide⟩ cgo_yX2_judge cml_X2_31 cin_yX2_judge cse_yX2_judge (by decide +kernel) (by decide) rfl hl.1.1 (Nat.le_of_ble_eq_true rfl) dX2_judge_52 rfl hw (fun h0 H locs cells slots hw => ?_) (fun h0 H locs cells slots q ce hw h1 h2 h3 => ?_)
          · rcases hf with ⟨-, hf⟩ | ⟨hk, -⟩
            · skip
              exact cw_reta B hf hw dX2_judge_55
            · exact absurd h0 hk
          · rcases hf with ⟨hk, -⟩ | ⟨-, hf⟩
            · exact absurd hk h0
            · cases hf
              exact cw_xout B hnh h0 hw h1 h2 h3
      · exact absurd h0 hk
    · rcases hf with ⟨hk, -⟩ | ⟨-, hf⟩
      · exact absurd hk h0
      · cases hf
        exact cw_xout B hnh h0 hw h1 h2 h3
  · replace hf := cc_if_f hf c2
    refine cl_aload_n hx hb dX2_judge_7 rfl (lv_at hl.1 0 rfl) ?_
    refine cl_aload_n hx hb dX2_judge_8 rfl (lv_at hl.1 1 rfl) ?_
    refine cl_aload_n hx hb dX2_judge_9 rfl (lv_at hl.1 2 rfl) ?_
    obtain ⟨qσ54, hf⟩ := cc_t_s hf
    obtain ⟨σ54, kv55, z56, hσ54, hf⟩ := cc_cl_s hf
    obtain ⟨iz56, mσ54⟩ := hR 67 σ [x0, x1, x2] σ54 kv55 z56 hσ54
    have mσ54 : cw_Met l v yX2_judgeName cX2_judgeName 6 (some (.object "PureHouse$Node")) d [cR v x0, cR v x1, cR v x2] σ σ54 kv55 (some (cR v z56)) := mσ54 ix0 ix1 ix2
    refine cw_cv (b := x0) (t := 3) (n := 2) (rest := []) (As := [cR v x1, cR v x2]) B mσ54 qσ54 ⟨by decide, by decide⟩ cgo_yX2_judgeName cml_X2_45 cin_yX2_judgeName cse_yX2_judgeName (by decide +kernel) (by decide) rfl hl.1.1 (Nat.le_of_ble_eq_true rfl) dX2_judge_10 rfl hw (fun h0 H locs cells slots hw => ?_) (fun h0 H locs cells slots q ce hw h1 h2 h3 => ?_)
    · rcases hf with ⟨-, hf⟩ | ⟨hk, -⟩
      · skip
        exact cw_reta B hf hw dX2_judge_13
      · exact absurd h0 hk
    · rcases hf with ⟨hk, -⟩ | ⟨-, hf⟩
      · exact absurd hk h0
      · cases hf
        exact cw_xout B hnh h0 hw h1 h2 h3

set_option maxHeartbeats 4000000 in
set_option maxRecDepth 100000 in
theorem pm_X2_judge {v : cwE} {bd : cBd} {l : Launch} {d : Nat} {rec : Nat → CS → List Int → CO} (hbd : bd = cw_bd v) (hR : cw_Rec l v d rec) (htr : l.stackTraces = false) (hd5 : 5 ≤ d) (σ σ' : CS) (x0 x1 x2 : Int) (kd : Nat) (r : Int) (ix0 : inR x0) (ix1 : inR x1) (ix2 : inR x2) (hf : pc_X2_judge_0 rec bd σ x0 x1 x2 = some (σ', kd, r)) : cw_Met l v yX2_judge cX2_judge 8 (some (.object "PureHouse$Node")) (d + 1) [cR v x0, cR v x1, cR v x2] σ σ' kd (some (cR v r)) := by
  refine cw_ofW (by decide +kernel) ?_
  intro p e s m args below meth c s₁ B hml hv
  obtain ⟨rfl, hM, hK⟩ := hv
  have hts := atoms_spec (ws := Cond.code yX2_judge cX2_judge 8 (some (.object "PureHouse$Node")) :: cw_bw) B.pre
  have hB : cw_B v RX2 p s m _ meth c cX2_judge 8 (some (.object "PureHouse$Node")) := ⟨B.exec, B.bytes, B.returns, hml, findClass_of_methodNamed B.named, fun w h => hts w (List.mem_cons_of_mem _ h), B.notSynchronized, hK⟩
  have hnh := cc_nh B (hts _ List.mem_cons_self)
  rw [lg_entry_eq]
  obtain ⟨ls, hls, hl⟩ := cl_ent [cR v x0, cR v x1, cR v x2] 8 (cl_1r (cl_1r (cl_1r cl_10))) (Nat.le_of_ble_eq_true rfl)
  rw [hls]
  exact pw_X2_judge_0 hbd hR htr hd5 hB hnh σ x0 x1 x2 ix0 ix1 ix2 hf _ _ _ _ _ (cw_W0 hM) (cl_sub hl [0, 1, 2] rfl)

set_option maxHeartbeats 4000000 in
set_option maxRecDepth 100000 in
theorem pw_X2_judgeName_2 {v : cwE} {bd : cBd} {p : Program} {l : Launch} {e : Env} {s : State} {m : MethodId} {args : Array Value} {below : List Frame} {meth : Method} {c : Code} {d : Nat} {rec : Nat → CS → List Int → CO} {σ0 σ' : CS} {kd : Nat} {r : Int} (hbd : bd = cw_bd v) (hR : cw_Rec l v d rec) (htr : l.stackTraces = false) (hd5 : 5 ≤ d) (B : cw_B v RX2 p s m args meth c cX2_judgeName 6 (some (.object "PureHouse$Node"))) (hnh : ∀ x ∈ c.exceptionTable.toList, False) : ∀ (n : Nat) (σ : CS) (x0 x1 x3 : Int), inR x0 → inR x1 → inR x3 → pc_X2_judgeName_2 rec bd n σ x0 x1 x3 = some (σ', kd, r) → ∀ (H : Heap) (locs : List Loc) (cells slots : Nat) (ls : Array Slot), cw_W v s σ0 σ H locs cells slots → cl_has ls 6 [(0, cR v x0), (1, cR v x1), (3, cR v x3)] → W p l e (cw_rm v (d + 1) σ0) s m args below meth c H locs cells slots (cw_Z below v σ0 σ' kd (some (cR v r)) args s) (F0 m 2 ls []) := by
  subst hbd
  obtain ⟨hx, hb, hr, hml, hown, hts, hlk, hK⟩ := id B
  intro n
  induction n with
  | zero => intro σ x0 x1 x3 ix0 ix1 ix3 hf; cases hf
  | succ n ih =>
    intro σ x0 x1 x3 ix0 ix1 ix3 hf H locs cells slots ls hw hl
    unfold pc_X2_judgeName_2 at hf
    refine cl_aload_n hx hb dX2_judgeName_2 rfl (lv_at hl.1 2 rfl) ?_
    refine cl_ifnull (x := x3) (tgt := 48) hx hb dX2_judgeName_3 (by decide) (fun c1 => ?_) (fun c1 => ?_)
    · replace hf := cc_if_t hf c1
      refine cl_aload_n hx hb dX2_judgeName_48 rfl (lv_at hl.1 0 rfl) ?_
      obtain ⟨z2, ez2, iz2, rz2, hf⟩ := cc_g_s hw hf
      refine cw_get (val := cR v z2) B hw rz2 ⟨by decide, by decide⟩ (by decide) cwi_3 cfl_X2_19 ez2 rfl dX2_judgeName_49 ?_
      obtain ⟨z3, ez3, iz3, rz3, hf⟩ := cc_g_s hw hf
      refine cw_get (val := cR v z3) B hw rz3 ⟨by decide, by decide⟩ (by decide) cwi_1 cfl_X2_132 ez3 rfl dX2_judgeName_52 ?_
      refine cl_aload_n hx hb dX2_judgeName_55 rfl (lv_at hl.1 0 rfl) ?_
      obtain ⟨z4, ez4, iz4, rz4, hf⟩ := cc_g_s hw hf
      refine cw_get (val := cR v z4) B hw rz4 ⟨by decide, by decide⟩ (by decide) cwi_3 cfl_X2_15 ez4 rfl dX2_judgeName_56 ?_
      refine cl_aload_n hx hb dX2_judgeName_59 rfl (lv_at hl.1 1 rfl) ?_
      obtain ⟨z5, ez5, iz5, rz5, hf⟩ := cc_g_s hw hf
      refine cw_get (val := .int (rI z5)) B hw rz5 ⟨by decide, by decide⟩ (by decide) cwi_7 cfl_X2_138 ez5 rfl dX2_judgeName_60 ?_
      refine cl_aload_n hx hb dX2_judgeName_63 rfl (lv_at hl.1 1 rfl) ?_
      obtain ⟨z6, ez6, iz6, rz6, hf⟩ := cc_g_s hw hf
      refine cw_get (val := .int (rI z6)) B hw rz6 ⟨by decide, by decide⟩ (by decide) cwi_7 cfl_X2_141 ez6 rfl dX2_judgeName_64 ?_
      obtain ⟨qσ7, hf⟩ := cc_t_s hf
      obtain ⟨σ7, kv8, z9, hσ7, hf⟩ := cc_cl_s hf
      obtain ⟨iz9, mσ7⟩ := hR 99 σ [z3, z4, z5, z6] σ7 kv8 z9 hσ7
      have mσ7 : cw_Met l v yX5_find cX5_find 5 (some .int) d [cR v z3, cR v z4, .int (rI z5), .int (rI z6)] σ σ7 kv8 (some (.int (rI z9))) := mσ7 iz3 iz4 iz5 iz6
      refine cw_cv (b := z3) (t := 6) (n := 3) (rest := []) (As := [cR v z4, .int (rI z5), .int (rI z6)]) B mσ7 qσ7 ⟨by decide, by decide⟩ cgo_yX5_find cml_X2_144 cin_yX5_find cse_yX5_find (by decide +kernel) (by decide) rfl hl.1.1 (Nat.le_of_ble_eq_true rfl) dX2_judgeName_67 rfl hw (fun h0 H locs cells slots hw => ?_) (fun h0 H locs cells slots q ce hw h1 h2 h3 => ?_)
      · rcases hf with ⟨-, hf⟩ | ⟨hk, -⟩
        · skip
          refine cl_istore_n (lv' := [(3, .int (rI z9)), (0, cR v x0), (1, cR v x1)]) hx hb dX2_judgeName_70 rfl hl (by decide) rfl (fun ls hl => ?_)
          refine lv_iload_n hx hb dX2_judgeName_71 rfl (lv_at hl.1 0 rfl) ?_
          refine lv_iconst (v := rI (-1)) hx hb dX2_judgeName_72 rfl ?_
          refine rn_icmp_eq (a := z9) (b := (-1)) (tgt := 102) hx hb iz9 ⟨by decide, by decide⟩ dX2_judgeName_73 (by decide) (fun c10 => ?_) (fun c10 => ?_)
          · replace hf := cc_if_t hf c10
            refine cl_aload_n hx hb dX2_judgeName_102 rfl (lv_at hl.1 1 rfl) ?_
            obtain ⟨z11, ez11, iz11, rz11, hf⟩ := cc_g_s hw hf
            refine cw_get (val := cR v z11) B hw rz11 ⟨by decide, by decide⟩ (by decide) cwi_3 cfl_X2_19 ez11 rfl dX2_judgeName_103 ?_
            obtain ⟨z12, ez12, iz12, rz12, hf⟩ := cc_g_s hw hf
            refine cw_get (val := cR v z12) B hw rz12 ⟨by decide, by decide⟩ (by decide) cwi_1 cfl_X2_157 ez12 rfl dX2_judgeName_106 ?_
            refine cl_aload_n hx hb dX2_judgeName_109 rfl (lv_at hl.1 1 rfl) ?_
            obtain ⟨z13, ez13, iz13, rz13, hf⟩ := cc_g_s hw hf
            refine cw_get (val := cR v z13) B hw rz13 ⟨by decide, by decide⟩ (by decide) cwi_3 cfl_X2_15 ez13 rfl dX2_judgeName_110 ?_
            refine cl_aload_n hx hb dX2_judgeName_113 rfl (lv_at hl.1 2 rfl) ?_
            obtain ⟨z14, ez14, iz14, rz14, hf⟩ := cc_g_s hw hf
            refine cw_get (val := .int (rI z14)) B hw rz14 ⟨by decide, by decide⟩ (by decide) cwi_7 cfl_X2_138 ez14 rfl dX2_judgeName_114 ?_
            refine cl_aload_n hx hb dX2_judgeName_117 rfl (lv_at hl.1 2 rfl) ?_
            obtain ⟨z15, ez15, iz15, rz15, hf⟩ := cc_g_s hw hf
            refine cw_get (val := .int (rI z15)) B hw rz15 ⟨by decide, by decide⟩ (by decide) cwi_7 cfl_X2_141 ez15 rfl dX2_judgeName_118 ?_
            obtain ⟨qσ16, hf⟩ := cc_t_s hf
            obtain ⟨σ16, kv17, z18, hσ16, hf⟩ := cc_cl_s hf
            obtain ⟨iz18, mσ16⟩ := hR 99 σ7 [z12, z13, z14, z15] σ16 kv17 z18 hσ16
            have mσ16 : cw_Met l v yX5_find cX5_find 5 (some .int) d [cR v z12, cR v z13, .int (rI z14), .int (rI z15)] σ7 σ16 kv17 (some (.int (rI z18))) := mσ16 iz12 iz13 iz14 iz15
            refine cw_cv (b := z12) (t := 6) (n := 3) (rest := []) (As := [cR v z13, .int (rI z14), .int (rI z15)]) B mσ16 qσ16 ⟨by decide, by decide⟩ cgo_yX5_find cml_X2_144 cin_yX5_find cse_yX5_find (by decide +kernel) (by decide) rfl hl.1.1 (Nat.le_of_ble_eq_true rfl) dX2_judgeName_121 rfl hw (fun h0 H locs cells slots hw => ?_) (fun h0 H locs cells slots q ce hw h1 h2 h3 => ?_)
            · rcases hf with ⟨-, hf⟩ | ⟨hk, -⟩
              · skip
                refine cl_istore (lv' := [(4, .int (rI z18)), (3, .int (rI z9)), (0, cR v x0), (1, cR v x1)]) hx hb dX2_judgeName_124 hl (by decide) rfl (fun ls hl => ?_)
                refine lv_iload hx hb dX2_judgeName_126 (lv_at hl.1 0 rfl) ?_
                refine lv_iconst (v := rI (-1)) hx hb dX2_judgeName_128 rfl ?_
                refine rn_icmp_ne (a := z18) (b := (-1)) (tgt := 152) hx hb iz18 ⟨by decide, by decide⟩ dX2_judgeName_129 (by decide) (fun c19 => ?_) (fun c19 => ?_)
                · replace hf := cc_if_t hf c19
                  refine cl_aload_n hx hb dX2_judgeName_152 rfl (lv_at hl.1 2 rfl) ?_
                  obtain ⟨z20, ez20, iz20, rz20, hf⟩ := cc_g_s hw hf
                  refine cw_get (val := cR v z20) B hw rz20 ⟨by decide, by decide⟩ (by decide) cwi_3 cfl_X2_19 ez20 rfl dX2_judgeName_153 ?_
                  refine lv_iload hx hb dX2_judgeName_156 (lv_at hl.1 0 rfl) ?_
                  obtain ⟨qσ21, hf⟩ := cc_t_s hf
                  obtain ⟨σ21, kv22, z23, hσ21, hf⟩ := cc_cl_s hf
                  obtain ⟨iz23, mσ21⟩ := hR 17 σ16 [z20, z18] σ21 kv22 z23 hσ21
                  have mσ21 : cw_Met l v yX0_axiomOf cX0_axiomOf 2 (some .int) d [cR v z20, .int (rI z18)] σ16 σ21 kv22 (some (.int (rI z23))) := mσ21 iz20 iz18
                  refine cw_cv (b := z20) (t := 1) (n := 1) (rest := []) (As := [.int (rI z18)]) B mσ21 qσ21 ⟨by decide, by decide⟩ cgo_yX0_axiomOf cml_X2_163 cin_yX0_axiomOf cse_yX0_axiomOf (by decide +kernel) (by decide) rfl hl.1.1 (Nat.le_of_ble_eq_true rfl) dX2_judgeName_158 rfl hw (fun h0 H locs cells slots hw => ?_) (fun h0 H locs cells slots q ce hw h1 h2 h3 => ?_)
                  · rcases hf with ⟨-, hf⟩ | ⟨hk, -⟩
                    · skip
                      refine cl_istore (lv' := [(5, .int (rI z23)), (4, .int (rI z18)), (3, .int (rI z9)), (0, cR v x0), (1, cR v x1)]) hx hb dX2_judgeName_161 hl (by decide) rfl (fun ls hl => ?_)
                      refine lv_iload hx hb dX2_judgeName_163 (lv_at hl.1 0 rfl) ?_
                      refine lv_iconst (v := rI (-1)) hx hb dX2_judgeName_165 rfl ?_
                      refine rn_icmp_ne (a := z23) (b := (-1)) (tgt := 190) hx hb iz23 ⟨by decide, by decide⟩ dX2_judgeName_166 (by decide) (fun c24 => ?_) (fun c24 => ?_)
                      · replace hf := cc_if_t hf c24
                        refine cl_aload_n hx hb dX2_judgeName_190 rfl (lv_at hl.1 3 rfl) ?_
                        refine cl_aload_n hx hb dX2_judgeName_191 rfl (lv_at hl.1 4 rfl) ?_
                        refine lv_iconst (v := rI 1) hx hb dX2_judgeName_192 rfl ?_
                        refine lv_iload hx hb dX2_judgeName_193 (lv_at hl.1 1 rfl) ?_
                        refine cl_aload_n hx hb dX2_judgeName_195 rfl (lv_at hl.1 3 rfl) ?_
                        obtain ⟨z25, ez25, iz25, rz25, hf⟩ := cc_g_s hw hf
                        refine cw_get (val := cR v z25) B hw rz25 ⟨by decide, by decide⟩ (by decide) cwi_3 cfl_X2_19 ez25 rfl dX2_judgeName_196 ?_
                        refine lv_iload hx hb dX2_judgeName_199 (lv_at hl.1 0 rfl) ?_
                        obtain ⟨qσ26, hf⟩ := cc_t_s hf
                        obtain ⟨σ26, kv27, z28, hσ26, hf⟩ := cc_cl_s hf
                        obtain ⟨iz28, mσ26⟩ := hR 17 σ21 [z25, z23] σ26 kv27 z28 hσ26
                        have mσ26 : cw_Met l v yX0_axiomOf cX0_axiomOf 2 (some .int) d [cR v z25, .int (rI z23)] σ21 σ26 kv27 (some (.int (rI z28))) := mσ26 iz25 iz23
                        refine cw_cv (b := z25) (t := 1) (n := 1) (rest := [.int (rI z18), .int (rI 1), cR v x1, cR v x0]) (As := [.int (rI z23)]) B mσ26 qσ26 ⟨by decide, by decide⟩ cgo_yX0_axiomOf cml_X2_163 cin_yX0_axiomOf cse_yX0_axiomOf (by decide +kernel) (by decide) rfl hl.1.1 (cl_cs (cl_1i (cl_1i (cl_1r (cl_1r cl_10)))) (Nat.le_of_ble_eq_true rfl)) dX2_judgeName_201 rfl hw (fun h0 H locs cells slots hw => ?_) (fun h0 H locs cells slots q ce hw h1 h2 h3 => ?_)
                        · rcases hf with ⟨-, hf⟩ | ⟨hk, -⟩
                          · skip
                            obtain ⟨qσ29, hf⟩ := cc_t_s hf
                            obtain ⟨σ29, kv30, z31, hσ29, hf⟩ := cc_cl_s hf
                            obtain ⟨iz31, mσ29⟩ := hR 71 σ26 [x0, x1, 1, z18, z28] σ29 kv30 z31 hσ29
                            have mσ29 : cw_Met l v yX2_resolve cX2_resolve 5 none d [cR v x0, cR v x1, .int (rI 1), .int (rI z18), .int (rI z28)] σ26 σ29 kv30 none := mσ29 ix0 ix1 ⟨by decide, by decide⟩ iz18 iz28
                            refine cw_cv (b := x0) (t := 3) (n := 4) (rest := []) (As := [cR v x1, .int (rI 1), .int (rI z18), .int (rI z28)]) B mσ29 qσ29 ⟨by decide, by decide⟩ cgo_yX2_resolve cml_X2_121 cin_yX2_resolve cse_yX2_resolve (by decide +kernel) (by decide) rfl hl.1.1 (Nat.le_of_ble_eq_true rfl) dX2_judgeName_204 rfl hw (fun h0 H locs cells slots hw => ?_) (fun h0 H locs cells slots q ce hw h1 h2 h3 => ?_)
                            · rcases hf with ⟨-, hf⟩ | ⟨hk, -⟩
                              · skip
                                obtain ⟨σ32, z33, eσ32, ez33, iz33, rσ32, hf⟩ := cc_n_s hf
                                refine cw_new B hw cwt_7 rfl cwd_7 cnl_X2_40 cni_7 cnz_7 rσ32 eσ32 ez33 dX2_judgeName_207 (fun H hw => ?_)
                                refine lv_dup hx hb dX2_judgeName_210 (cR_cat _) ?_
                                refine lv_iconst (v := rI 1) hx hb dX2_judgeName_211 rfl ?_
                                refine lv_iload hx hb dX2_judgeName_212 (lv_at hl.1 0 rfl) ?_
                                obtain ⟨qσ34, hf⟩ := cc_t_s hf
                                obtain ⟨σ34, z36, hσ34, hf⟩ := cc_ci_s hf
                                obtain ⟨iz36, mσ34⟩ := hR 105 σ32 [z33, 1, z23] σ34 0 z36 hσ34
                                have mσ34 : cw_Met l v yX6_init cX6_init 3 none d [cR v z33, .int (rI 1), .int (rI z23)] σ32 σ34 0 none := mσ34 iz33 ⟨by decide, by decide⟩ iz23
                                refine cw_ci (b := z33) (n := 2) (rest := [cR v z33]) (As := [.int (rI 1), .int (rI z23)]) B mσ34 qσ34.1 rfl cgo_yX6_init cml_X2_167 cin_yX6_init (by decide +kernel) (by decide) rfl hl.1.1 (cl_cs (cl_1r cl_10) (Nat.le_of_ble_eq_true rfl)) dX2_judgeName_214 rfl hw (fun H locs cells slots hw => ?_)
                                exact cw_reta B hf hw dX2_judgeName_217
                              · exact absurd h0 hk
                            · rcases hf with ⟨hk, -⟩ | ⟨-, hf⟩
                              · exact absurd hk h0
                              · cases hf
                                exact cw_xout B hnh h0 hw h1 h2 h3
                          · exact absurd h0 hk
                        · rcases hf with ⟨hk, -⟩ | ⟨-, hf⟩
                          · exact absurd hk h0
                          · cases hf
                            exact cw_xout B hnh h0 hw h1 h2 h3
                      · replace hf := cc_if_f hf c24
                        refine cl_aload_n hx hb dX2_judgeName_169 rfl (lv_at hl.1 3 rfl) ?_
                        obtain ⟨z37, ez37, iz37, rz37, hf⟩ := cc_g_s hw hf
                        refine cw_get (val := cR v z37) B hw rz37 ⟨by decide, by decide⟩ (by decide) cwi_3 cfl_X2_27 ez37 rfl dX2_judgeName_170 ?_
                        refine lv_bipush (v := rI 7) hx hb dX2_judgeName_173 (by decide +kernel) ?_
                        refine cl_aload_n hx hb dX2_judgeName_175 rfl (lv_at hl.1 4 rfl) ?_
                        obtain ⟨z38, ez38, iz38, rz38, hf⟩ := cc_g_s hw hf
                        refine cw_get (val := .int (rI z38)) B hw rz38 ⟨by decide, by decide⟩ (by decide) cwi_7 cfl_X2_160 ez38 rfl dX2_judgeName_176 ?_
                        obtain ⟨qσ39, hf⟩ := cc_t_s hf
                        obtain ⟨σ39, kv40, z41, hσ39, hf⟩ := cc_cl_s hf
                        obtain ⟨iz41, mσ39⟩ := hR 30 σ21 [z37, 7, z38] σ39 kv40 z41 hσ39
                        have mσ39 : cw_Met l v yX10_set cX10_set 3 none d [cR v z37, .int (rI 7), .int (rI z38)] σ21 σ39 kv40 none := mσ39 iz37 ⟨by decide, by decide⟩ iz38
                        refine cw_cv (b := z37) (t := 11) (n := 2) (rest := []) (As := [.int (rI 7), .int (rI z38)]) B mσ39 qσ39 ⟨by decide, by decide⟩ cgo_yX10_set cml_X2_76 cin_yX10_set cse_yX10_set (by decide +kernel) (by decide) rfl hl.1.1 (Nat.le_of_ble_eq_true rfl) dX2_judgeName_179 rfl hw (fun h0 H locs cells slots hw => ?_) (fun h0 H locs cells slots q ce hw h1 h2 h3 => ?_)
                        · rcases hf with ⟨-, hf⟩ | ⟨hk, -⟩
                          · skip
                            obtain ⟨hy, hm⟩ := cc_x_s hf
                            obtain ⟨hy1, hy2⟩ := Prod.mk.inj hy
                            obtain ⟨hy2, hy3⟩ := Prod.mk.inj hy2
                            subst hy2
                            refine cw_throw (rest := []) B hnh htr hw (by decide) (by decide +kernel) cxc_X2_82 cxi_1 (cw_hat cxa_X2_84 (by decide +kernel) hts hK.1) (List.all_eq_true.mp cxg_X2_84) hd5 hm hy1 hl.1.1 (Nat.le_of_ble_eq_true rfl) dX2_judgeName_182 dX2_judgeName_185 dX2_judgeName_186 dX2_judgeName_189
                          · exact absurd h0 hk
                        · rcases hf with ⟨hk, -⟩ | ⟨-, hf⟩
                          · exact absurd hk h0
                          · cases hf
                            exact cw_xout B hnh h0 hw h1 h2 h3
                    · exact absurd h0 hk
                  · rcases hf with ⟨hk, -⟩ | ⟨-, hf⟩
                    · exact absurd hk h0
                    · cases hf
                      exact cw_xout B hnh h0 hw h1 h2 h3
                · replace hf := cc_if_f hf c19
                  refine cl_aload_n hx hb dX2_judgeName_132 rfl (lv_at hl.1 2 rfl) ?_
                  obtain ⟨z42, ez42, iz42, rz42, hf⟩ := cc_g_s hw hf
                  refine cw_get (val := cR v z42) B hw rz42 ⟨by decide, by decide⟩ (by decide) cwi_3 cfl_X2_27 ez42 rfl dX2_judgeName_133 ?_
                  refine lv_iconst (v := rI 3) hx hb dX2_judgeName_136 rfl ?_
                  refine cl_aload_n hx hb dX2_judgeName_137 rfl (lv_at hl.1 3 rfl) ?_
                  obtain ⟨z43, ez43, iz43, rz43, hf⟩ := cc_g_s hw hf
                  refine cw_get (val := .int (rI z43)) B hw rz43 ⟨by decide, by decide⟩ (by decide) cwi_7 cfl_X2_160 ez43 rfl dX2_judgeName_138 ?_
                  obtain ⟨qσ44, hf⟩ := cc_t_s hf
                  obtain ⟨σ44, kv45, z46, hσ44, hf⟩ := cc_cl_s hf
                  obtain ⟨iz46, mσ44⟩ := hR 30 σ16 [z42, 3, z43] σ44 kv45 z46 hσ44
                  have mσ44 : cw_Met l v yX10_set cX10_set 3 none d [cR v z42, .int (rI 3), .int (rI z43)] σ16 σ44 kv45 none := mσ44 iz42 ⟨by decide, by decide⟩ iz43
                  refine cw_cv (b := z42) (t := 11) (n := 2) (rest := []) (As := [.int (rI 3), .int (rI z43)]) B mσ44 qσ44 ⟨by decide, by decide⟩ cgo_yX10_set cml_X2_76 cin_yX10_set cse_yX10_set (by decide +kernel) (by decide) rfl hl.1.1 (Nat.le_of_ble_eq_true rfl) dX2_judgeName_141 rfl hw (fun h0 H locs cells slots hw => ?_) (fun h0 H locs cells slots q ce hw h1 h2 h3 => ?_)
                  · rcases hf with ⟨-, hf⟩ | ⟨hk, -⟩
                    · skip
                      obtain ⟨hy, hm⟩ := cc_x_s hf
                      obtain ⟨hy1, hy2⟩ := Prod.mk.inj hy
                      obtain ⟨hy2, hy3⟩ := Prod.mk.inj hy2
                      subst hy2
                      refine cw_throw (rest := []) B hnh htr hw (by decide) (by decide +kernel) cxc_X2_82 cxi_1 (cw_hat cxa_X2_84 (by decide +kernel) hts hK.1) (List.all_eq_true.mp cxg_X2_84) hd5 hm hy1 hl.1.1 (Nat.le_of_ble_eq_true rfl) dX2_judgeName_144 dX2_judgeName_147 dX2_judgeName_148 dX2_judgeName_151
                    · exact absurd h0 hk
                  · rcases hf with ⟨hk, -⟩ | ⟨-, hf⟩
                    · exact absurd hk h0
                    · cases hf
                      exact cw_xout B hnh h0 hw h1 h2 h3
              · exact absurd h0 hk
            · rcases hf with ⟨hk, -⟩ | ⟨-, hf⟩
              · exact absurd hk h0
              · cases hf
                exact cw_xout B hnh h0 hw h1 h2 h3
          · replace hf := cc_if_f hf c10
            refine cl_aload_n hx hb dX2_judgeName_76 rfl (lv_at hl.1 1 rfl) ?_
            refine cl_aload_n hx hb dX2_judgeName_77 rfl (lv_at hl.1 2 rfl) ?_
            refine lv_iconst (v := rI 2) hx hb dX2_judgeName_78 rfl ?_
            refine lv_iload_n hx hb dX2_judgeName_79 rfl (lv_at hl.1 0 rfl) ?_
            refine cl_aload_n hx hb dX2_judgeName_80 rfl (lv_at hl.1 1 rfl) ?_
            obtain ⟨z47, ez47, iz47, rz47, hf⟩ := cc_g_s hw hf
            refine cw_get (val := cR v z47) B hw rz47 ⟨by decide, by decide⟩ (by decide) cwi_3 cfl_X2_19 ez47 rfl dX2_judgeName_81 ?_
            obtain ⟨z48, ez48, iz48, rz48, hf⟩ := cc_g_s hw hf
            refine cw_get (val := cR v z48) B hw rz48 ⟨by decide, by decide⟩ (by decide) cwi_1 cfl_X2_150 ez48 rfl dX2_judgeName_84 ?_
            refine lv_iload_n hx hb dX2_judgeName_87 rfl (lv_at hl.1 0 rfl) ?_
            obtain ⟨z49, ez49, iz49, rz49, bz49, hf⟩ := cc_r_s hw hf
            refine cw_aldI B hw rz49 iz9 bz49 ez49 dX2_judgeName_88 ?_
            obtain ⟨qσ50, hf⟩ := cc_t_s hf
            obtain ⟨σ50, kv51, z52, hσ50, hf⟩ := cc_cl_s hf
            obtain ⟨iz52, mσ50⟩ := hR 71 σ7 [x0, x1, 2, z9, z49] σ50 kv51 z52 hσ50
            have mσ50 : cw_Met l v yX2_resolve cX2_resolve 5 none d [cR v x0, cR v x1, .int (rI 2), .int (rI z9), .int (rI z49)] σ7 σ50 kv51 none := mσ50 ix0 ix1 ⟨by decide, by decide⟩ iz9 iz49
            refine cw_cv (b := x0) (t := 3) (n := 4) (rest := []) (As := [cR v x1, .int (rI 2), .int (rI z9), .int (rI z49)]) B mσ50 qσ50 ⟨by decide, by decide⟩ cgo_yX2_resolve cml_X2_121 cin_yX2_resolve cse_yX2_resolve (by decide +kernel) (by decide) rfl hl.1.1 (Nat.le_of_ble_eq_true rfl) dX2_judgeName_89 rfl hw (fun h0 H locs cells slots hw => ?_) (fun h0 H locs cells slots q ce hw h1 h2 h3 => ?_)
            · rcases hf with ⟨-, hf⟩ | ⟨hk, -⟩
              · skip
                refine cl_aload_n hx hb dX2_judgeName_92 rfl (lv_at hl.1 1 rfl) ?_
                obtain ⟨z53, ez53, iz53, rz53, hf⟩ := cc_g_s hw hf
                refine cw_get (val := cR v z53) B hw rz53 ⟨by decide, by decide⟩ (by decide) cwi_3 cfl_X2_19 ez53 rfl dX2_judgeName_93 ?_
                obtain ⟨z54, ez54, iz54, rz54, hf⟩ := cc_g_s hw hf
                refine cw_get (val := cR v z54) B hw rz54 ⟨by decide, by decide⟩ (by decide) cwi_1 cfl_X2_154 ez54 rfl dX2_judgeName_96 ?_
                refine lv_iload_n hx hb dX2_judgeName_99 rfl (lv_at hl.1 0 rfl) ?_
                obtain ⟨z55, ez55, iz55, rz55, bz55, hf⟩ := cc_r_s hw hf
                refine cw_aldR B hw rz55 iz9 bz55 ez55 dX2_judgeName_100 ?_
                exact cw_reta B hf hw dX2_judgeName_101
              · exact absurd h0 hk
            · rcases hf with ⟨hk, -⟩ | ⟨-, hf⟩
              · exact absurd hk h0
              · cases hf
                exact cw_xout B hnh h0 hw h1 h2 h3
        · exact absurd h0 hk
      · rcases hf with ⟨hk, -⟩ | ⟨-, hf⟩
        · exact absurd hk h0
        · cases hf
          exact cw_xout B hnh h0 hw h1 h2 h3
    · replace hf := cc_if_f hf c1
      refine cl_aload_n hx hb dX2_judgeName_6 rfl (lv_at hl.1 0 rfl) ?_
      refine cl_aload_n hx hb dX2_judgeName_7 rfl (lv_at hl.1 2 rfl) ?_
      obtain ⟨z56, ez56, iz56, rz56, hf⟩ := cc_g_s hw hf
      refine cw_get (val := cR v z56) B hw rz56 ⟨by decide, by decide⟩ (by decide) cwi_9 cfl_X2_112 ez56 rfl dX2_judgeName_8 ?_
      refine cl_aload_n hx hb dX2_judgeName_11 rfl (lv_at hl.1 1 rfl) ?_
      obtain ⟨qσ57, hf⟩ := cc_t_s hf
      obtain ⟨σ57, kv58, z59, hσ57, hf⟩ := cc_cl_s hf
      obtain ⟨iz59, mσ57⟩ := hR 65 σ [x0, z56, x1] σ57 kv58 z59 hσ57
      have mσ57 : cw_Met l v yX2_isNameOf cX2_isNameOf 3 (some .boolean) d [cR v x0, cR v z56, cR v x1] σ σ57 kv58 (some (.int (rI z59))) := mσ57 ix0 iz56 ix1
      refine cw_cv (b := x0) (t := 3) (n := 2) (rest := []) (As := [cR v z56, cR v x1]) B mσ57 qσ57 ⟨by decide, by decide⟩ cgo_yX2_isNameOf cml_X2_115 cin_yX2_isNameOf cse_yX2_isNameOf (by decide +kernel) (by decide) rfl hl.1.1 (Nat.le_of_ble_eq_true rfl) dX2_judgeName_12 rfl hw (fun h0 H locs cells slots hw => ?_) (fun h0 H locs cells slots q ce hw h1 h2 h3 => ?_)
      · rcases hf with ⟨-, hf⟩ | ⟨hk, -⟩
        · skip
          refine rn_if_eq (a := z59) (tgt := 40) hx hb iz59 dX2_judgeName_15 (by decide) (fun c60 => ?_) (fun c60 => ?_)
          · replace hf := cc_if_t hf c60
            refine cl_aload_n hx hb dX2_judgeName_40 rfl (lv_at hl.1 2 rfl) ?_
            obtain ⟨z61, ez61, iz61, rz61, hf⟩ := cc_g_s hw hf
            refine cw_get (val := cR v z61) B hw rz61 ⟨by decide, by decide⟩ (by decide) cwi_9 cfl_X2_128 ez61 rfl dX2_judgeName_41 ?_
            refine cl_astore_n (lv' := [(3, cR v z61), (0, cR v x0), (1, cR v x1)]) hx hb dX2_judgeName_44 rfl hl (by decide) rfl (fun ls hl => ?_)
            refine lv_goto (tgt := 2) hx hb dX2_judgeName_45 (by decide) ?_
            exact ih σ57 x0 x1 z61 ix0 ix1 iz61 hf _ _ _ _ _ hw (cl_sub hl [1, 2, 0] rfl)
          · replace hf := cc_if_f hf c60
            refine cl_aload_n hx hb dX2_judgeName_18 rfl (lv_at hl.1 0 rfl) ?_
            refine cl_aload_n hx hb dX2_judgeName_19 rfl (lv_at hl.1 1 rfl) ?_
            refine lv_iconst (v := rI 3) hx hb dX2_judgeName_20 rfl ?_
            refine cl_aload_n hx hb dX2_judgeName_21 rfl (lv_at hl.1 2 rfl) ?_
            obtain ⟨z62, ez62, iz62, rz62, hf⟩ := cc_g_s hw hf
            refine cw_get (val := cR v z62) B hw rz62 ⟨by decide, by decide⟩ (by decide) cwi_9 cfl_X2_112 ez62 rfl dX2_judgeName_22 ?_
            obtain ⟨z63, ez63, iz63, rz63, hf⟩ := cc_g_s hw hf
            refine cw_get (val := .int (rI z63)) B hw rz63 ⟨by decide, by decide⟩ (by decide) cwi_7 cfl_X2_90 ez63 rfl dX2_judgeName_25 ?_
            refine cl_aload_n hx hb dX2_judgeName_28 rfl (lv_at hl.1 2 rfl) ?_
            obtain ⟨z64, ez64, iz64, rz64, hf⟩ := cc_g_s hw hf
            refine cw_get (val := .int (rI z64)) B hw rz64 ⟨by decide, by decide⟩ (by decide) cwi_9 cfl_X2_118 ez64 rfl dX2_judgeName_29 ?_
            obtain ⟨qσ65, hf⟩ := cc_t_s hf
            obtain ⟨σ65, kv66, z67, hσ65, hf⟩ := cc_cl_s hf
            obtain ⟨iz67, mσ65⟩ := hR 71 σ57 [x0, x1, 3, z63, z64] σ65 kv66 z67 hσ65
            have mσ65 : cw_Met l v yX2_resolve cX2_resolve 5 none d [cR v x0, cR v x1, .int (rI 3), .int (rI z63), .int (rI z64)] σ57 σ65 kv66 none := mσ65 ix0 ix1 ⟨by decide, by decide⟩ iz63 iz64
            refine cw_cv (b := x0) (t := 3) (n := 4) (rest := []) (As := [cR v x1, .int (rI 3), .int (rI z63), .int (rI z64)]) B mσ65 qσ65 ⟨by decide, by decide⟩ cgo_yX2_resolve cml_X2_121 cin_yX2_resolve cse_yX2_resolve (by decide +kernel) (by decide) rfl hl.1.1 (Nat.le_of_ble_eq_true rfl) dX2_judgeName_32 rfl hw (fun h0 H locs cells slots hw => ?_) (fun h0 H locs cells slots q ce hw h1 h2 h3 => ?_)
            · rcases hf with ⟨-, hf⟩ | ⟨hk, -⟩
              · skip
                refine cl_aload_n hx hb dX2_judgeName_35 rfl (lv_at hl.1 2 rfl) ?_
                obtain ⟨z68, ez68, iz68, rz68, hf⟩ := cc_g_s hw hf
                refine cw_get (val := cR v z68) B hw rz68 ⟨by decide, by decide⟩ (by decide) cwi_9 cfl_X2_125 ez68 rfl dX2_judgeName_36 ?_
                exact cw_reta B hf hw dX2_judgeName_39
              · exact absurd h0 hk
            · rcases hf with ⟨hk, -⟩ | ⟨-, hf⟩
              · exact absurd hk h0
              · cases hf
                exact cw_xout B hnh h0 hw h1 h2 h3
        · exact absurd h0 hk
      · rcases hf with ⟨hk, -⟩ | ⟨-, hf⟩
        · exact absurd hk h0
        · cases hf
          exact cw_xout B hnh h0 hw h1 h2 h3

set_option maxHeartbeats 4000000 in
set_option maxRecDepth 100000 in
theorem pw_X2_judgeName_0 {v : cwE} {bd : cBd} {p : Program} {l : Launch} {e : Env} {s : State} {m : MethodId} {args : Array Value} {below : List Frame} {meth : Method} {c : Code} {d : Nat} {rec : Nat → CS → List Int → CO} {σ0 σ' : CS} {kd : Nat} {r : Int} (hbd : bd = cw_bd v) (hR : cw_Rec l v d rec) (htr : l.stackTraces = false) (hd5 : 5 ≤ d) (B : cw_B v RX2 p s m args meth c cX2_judgeName 6 (some (.object "PureHouse$Node"))) (hnh : ∀ x ∈ c.exceptionTable.toList, False) : ∀ (σ : CS) (x0 x1 x2 : Int), inR x0 → inR x1 → inR x2 → pc_X2_judgeName_0 rec bd σ x0 x1 x2 = some (σ', kd, r) → ∀ (H : Heap) (locs : List Loc) (cells slots : Nat) (ls : Array Slot), cw_W v s σ0 σ H locs cells slots → cl_has ls 6 [(0, cR v x0), (1, cR v x1), (2, cR v x2)] → W p l e (cw_rm v (d + 1) σ0) s m args below meth c H locs cells slots (cw_Z below v σ0 σ' kd (some (cR v r)) args s) (F0 m 0 ls []) := by
  subst hbd
  obtain ⟨hx, hb, hr, hml, hown, hts, hlk, hK⟩ := id B
  intro σ x0 x1 x2 ix0 ix1 ix2 hf H locs cells slots ls hw hl
  unfold pc_X2_judgeName_0 at hf
  refine cl_aload_n hx hb dX2_judgeName_0 rfl (lv_at hl.1 2 rfl) ?_
  refine cl_astore_n (lv' := [(3, cR v x2), (0, cR v x0), (1, cR v x1), (2, cR v x2)]) hx hb dX2_judgeName_1 rfl hl (by decide) rfl (fun ls hl => ?_)
  exact pw_X2_judgeName_2 rfl hR htr hd5 B hnh 2000000 σ x0 x1 x2 ix0 ix1 ix2 hf _ _ _ _ _ hw (cl_sub hl [1, 2, 0] rfl)

set_option maxHeartbeats 4000000 in
set_option maxRecDepth 100000 in
theorem pm_X2_judgeName {v : cwE} {bd : cBd} {l : Launch} {d : Nat} {rec : Nat → CS → List Int → CO} (hbd : bd = cw_bd v) (hR : cw_Rec l v d rec) (htr : l.stackTraces = false) (hd5 : 5 ≤ d) (σ σ' : CS) (x0 x1 x2 : Int) (kd : Nat) (r : Int) (ix0 : inR x0) (ix1 : inR x1) (ix2 : inR x2) (hf : pc_X2_judgeName_0 rec bd σ x0 x1 x2 = some (σ', kd, r)) : cw_Met l v yX2_judgeName cX2_judgeName 6 (some (.object "PureHouse$Node")) (d + 1) [cR v x0, cR v x1, cR v x2] σ σ' kd (some (cR v r)) := by
  refine cw_ofW (by decide +kernel) ?_
  intro p e s m args below meth c s₁ B hml hv
  obtain ⟨rfl, hM, hK⟩ := hv
  have hts := atoms_spec (ws := Cond.code yX2_judgeName cX2_judgeName 6 (some (.object "PureHouse$Node")) :: cw_bw) B.pre
  have hB : cw_B v RX2 p s m _ meth c cX2_judgeName 6 (some (.object "PureHouse$Node")) := ⟨B.exec, B.bytes, B.returns, hml, findClass_of_methodNamed B.named, fun w h => hts w (List.mem_cons_of_mem _ h), B.notSynchronized, hK⟩
  have hnh := cc_nh B (hts _ List.mem_cons_self)
  rw [lg_entry_eq]
  obtain ⟨ls, hls, hl⟩ := cl_ent [cR v x0, cR v x1, cR v x2] 6 (cl_1r (cl_1r (cl_1r cl_10))) (Nat.le_of_ble_eq_true rfl)
  rw [hls]
  exact pw_X2_judgeName_0 hbd hR htr hd5 hB hnh σ x0 x1 x2 ix0 ix1 ix2 hf _ _ _ _ _ (cw_W0 hM) (cl_sub hl [0, 1, 2] rfl)

set_option maxHeartbeats 4000000 in
set_option maxRecDepth 100000 in
theorem pw_X2_needProduct_0 {v : cwE} {bd : cBd} {p : Program} {l : Launch} {e : Env} {s : State} {m : MethodId} {args : Array Value} {below : List Frame} {meth : Method} {c : Code} {d : Nat} {rec : Nat → CS → List Int → CO} {σ0 σ' : CS} {kd : Nat} {r : Int} (hbd : bd = cw_bd v) (hR : cw_Rec l v d rec) (htr : l.stackTraces = false) (hd5 : 5 ≤ d) (B : cw_B v RX2 p s m args meth c cX2_needProduct 3 none) (hnh : ∀ x ∈ c.exceptionTable.toList, False) : ∀ (σ : CS) (x0 x1 x2 : Int), inR x0 → inR x1 → inR x2 → pc_X2_needProduct_0 rec bd σ x0 x1 x2 = some (σ', kd, r) → ∀ (H : Heap) (locs : List Loc) (cells slots : Nat) (ls : Array Slot), cw_W v s σ0 σ H locs cells slots → cl_has ls 3 [(0, cR v x0), (1, cR v x1), (2, cR v x2)] → W p l e (cw_rm v (d + 1) σ0) s m args below meth c H locs cells slots (cw_Z below v σ0 σ' kd none args s) (F0 m 0 ls []) := by
  subst hbd
  obtain ⟨hx, hb, hr, hml, hown, hts, hlk, hK⟩ := id B
  intro σ x0 x1 x2 ix0 ix1 ix2 hf H locs cells slots ls hw hl
  unfold pc_X2_needProduct_0 at hf
  refine cl_aload_n hx hb dX2_needProduct_0 rfl (lv_at hl.1 1 rfl) ?_
  obtain ⟨z1, ez1, iz1, rz1, hf⟩ := cc_g_s hw hf
  refine cw_get (val := .int (rI z1)) B hw rz1 ⟨by decide, by decide⟩ (by decide) cwi_7 cfl_X2_48 ez1 rfl dX2_needProduct_1 ?_
  refine lv_iconst (v := rI 5) hx hb dX2_needProduct_4 rfl ?_
  refine rn_icmp_eq (a := z1) (b := 5) (tgt := 29) hx hb iz1 ⟨by decide, by decide⟩ dX2_needProduct_5 (by decide) (fun c2 => ?_) (fun c2 => ?_)
  · replace hf := cc_if_t hf c2
    exact cw_retv B hf hw dX2_needProduct_29
  · replace hf := cc_if_f hf c2
    refine cl_aload_n hx hb dX2_needProduct_8 rfl (lv_at hl.1 0 rfl) ?_
    obtain ⟨z3, ez3, iz3, rz3, hf⟩ := cc_g_s hw hf
    refine cw_get (val := cR v z3) B hw rz3 ⟨by decide, by decide⟩ (by decide) cwi_3 cfl_X2_27 ez3 rfl dX2_needProduct_9 ?_
    refine lv_bipush (v := rI 10) hx hb dX2_needProduct_12 (by decide +kernel) ?_
    refine cl_aload_n hx hb dX2_needProduct_14 rfl (lv_at hl.1 2 rfl) ?_
    obtain ⟨z4, ez4, iz4, rz4, hf⟩ := cc_g_s hw hf
    refine cw_get (val := .int (rI z4)) B hw rz4 ⟨by decide, by decide⟩ (by decide) cwi_7 cfl_X2_73 ez4 rfl dX2_needProduct_15 ?_
    obtain ⟨qσ5, hf⟩ := cc_t_s hf
    obtain ⟨σ5, kv6, z7, hσ5, hf⟩ := cc_cl_s hf
    obtain ⟨iz7, mσ5⟩ := hR 30 σ [z3, 10, z4] σ5 kv6 z7 hσ5
    have mσ5 : cw_Met l v yX10_set cX10_set 3 none d [cR v z3, .int (rI 10), .int (rI z4)] σ σ5 kv6 none := mσ5 iz3 ⟨by decide, by decide⟩ iz4
    refine cw_cv (b := z3) (t := 11) (n := 2) (rest := []) (As := [.int (rI 10), .int (rI z4)]) B mσ5 qσ5 ⟨by decide, by decide⟩ cgo_yX10_set cml_X2_76 cin_yX10_set cse_yX10_set (by decide +kernel) (by decide) rfl hl.1.1 (Nat.le_of_ble_eq_true rfl) dX2_needProduct_18 rfl hw (fun h0 H locs cells slots hw => ?_) (fun h0 H locs cells slots q ce hw h1 h2 h3 => ?_)
    · rcases hf with ⟨-, hf⟩ | ⟨hk, -⟩
      · skip
        obtain ⟨hy, hm⟩ := cc_x_s hf
        obtain ⟨hy1, hy2⟩ := Prod.mk.inj hy
        obtain ⟨hy2, hy3⟩ := Prod.mk.inj hy2
        subst hy2
        refine cw_throw (rest := []) B hnh htr hw (by decide) (by decide +kernel) cxc_X2_82 cxi_1 (cw_hat cxa_X2_84 (by decide +kernel) hts hK.1) (List.all_eq_true.mp cxg_X2_84) hd5 hm hy1 hl.1.1 (Nat.le_of_ble_eq_true rfl) dX2_needProduct_21 dX2_needProduct_24 dX2_needProduct_25 dX2_needProduct_28
      · exact absurd h0 hk
    · rcases hf with ⟨hk, -⟩ | ⟨-, hf⟩
      · exact absurd hk h0
      · cases hf
        exact cw_xout B hnh h0 hw h1 h2 h3

set_option maxHeartbeats 4000000 in
set_option maxRecDepth 100000 in
theorem pm_X2_needProduct {v : cwE} {bd : cBd} {l : Launch} {d : Nat} {rec : Nat → CS → List Int → CO} (hbd : bd = cw_bd v) (hR : cw_Rec l v d rec) (htr : l.stackTraces = false) (hd5 : 5 ≤ d) (σ σ' : CS) (x0 x1 x2 : Int) (kd : Nat) (r : Int) (ix0 : inR x0) (ix1 : inR x1) (ix2 : inR x2) (hf : pc_X2_needProduct_0 rec bd σ x0 x1 x2 = some (σ', kd, r)) : cw_Met l v yX2_needProduct cX2_needProduct 3 none (d + 1) [cR v x0, cR v x1, cR v x2] σ σ' kd none := by
  refine cw_ofW (by decide +kernel) ?_
  intro p e s m args below meth c s₁ B hml hv
  obtain ⟨rfl, hM, hK⟩ := hv
  have hts := atoms_spec (ws := Cond.code yX2_needProduct cX2_needProduct 3 none :: cw_bw) B.pre
  have hB : cw_B v RX2 p s m _ meth c cX2_needProduct 3 none := ⟨B.exec, B.bytes, B.returns, hml, findClass_of_methodNamed B.named, fun w h => hts w (List.mem_cons_of_mem _ h), B.notSynchronized, hK⟩
  have hnh := cc_nh B (hts _ List.mem_cons_self)
  rw [lg_entry_eq]
  obtain ⟨ls, hls, hl⟩ := cl_ent [cR v x0, cR v x1, cR v x2] 3 (cl_1r (cl_1r (cl_1r cl_10))) (Nat.le_of_ble_eq_true rfl)
  rw [hls]
  exact pw_X2_needProduct_0 hbd hR htr hd5 hB hnh σ x0 x1 x2 ix0 ix1 ix2 hf _ _ _ _ _ (cw_W0 hM) (cl_sub hl [0, 1, 2] rfl)

set_option maxHeartbeats 4000000 in
set_option maxRecDepth 100000 in
theorem pw_X2_neededRule_0 {v : cwE} {bd : cBd} {p : Program} {l : Launch} {e : Env} {s : State} {m : MethodId} {args : Array Value} {below : List Frame} {meth : Method} {c : Code} {d : Nat} {rec : Nat → CS → List Int → CO} {σ0 σ' : CS} {kd : Nat} {r : Int} (hbd : bd = cw_bd v) (hR : cw_Rec l v d rec) (htr : l.stackTraces = false) (hd5 : 5 ≤ d) (B : cw_B v RX2 p s m args meth c cX2_neededRule 5 (some .int)) (hnh : ∀ x ∈ c.exceptionTable.toList, False) : ∀ (σ : CS) (x0 x1 x2 x3 : Int), inR x0 → inR x1 → inR x2 → inR x3 → pc_X2_neededRule_0 rec bd σ x0 x1 x2 x3 = some (σ', kd, r) → ∀ (H : Heap) (locs : List Loc) (cells slots : Nat) (ls : Array Slot), cw_W v s σ0 σ H locs cells slots → cl_has ls 5 [(0, cR v x0), (1, .int (rI x1)), (2, .int (rI x2)), (3, cR v x3)] → W p l e (cw_rm v (d + 1) σ0) s m args below meth c H locs cells slots (cw_Z below v σ0 σ' kd (some (.int (rI r))) args s) (F0 m 0 ls []) := by
  subst hbd
  obtain ⟨hx, hb, hr, hml, hown, hts, hlk, hK⟩ := id B
  intro σ x0 x1 x2 x3 ix0 ix1 ix2 ix3 hf H locs cells slots ls hw hl
  unfold pc_X2_neededRule_0 at hf
  refine cl_aload_n hx hb dX2_neededRule_0 rfl (lv_at hl.1 0 rfl) ?_
  obtain ⟨z1, ez1, iz1, rz1, hf⟩ := cc_g_s hw hf
  refine cw_get (val := cR v z1) B hw rz1 ⟨by decide, by decide⟩ (by decide) cwi_3 cfl_X2_19 ez1 rfl dX2_neededRule_1 ?_
  refine lv_iload_n hx hb dX2_neededRule_4 rfl (lv_at hl.1 1 rfl) ?_
  refine lv_iload_n hx hb dX2_neededRule_5 rfl (lv_at hl.1 2 rfl) ?_
  obtain ⟨qσ2, hf⟩ := cc_t_s hf
  obtain ⟨σ2, kv3, z4, hσ2, hf⟩ := cc_cl_s hf
  obtain ⟨iz4, mσ2⟩ := hR 21 σ [z1, x1, x2] σ2 kv3 z4 hσ2
  have mσ2 : cw_Met l v yX0_ruleOf cX0_ruleOf 3 (some .int) d [cR v z1, .int (rI x1), .int (rI x2)] σ σ2 kv3 (some (.int (rI z4))) := mσ2 iz1 ix1 ix2
  refine cw_cv (b := z1) (t := 1) (n := 2) (rest := []) (As := [.int (rI x1), .int (rI x2)]) B mσ2 qσ2 ⟨by decide, by decide⟩ cgo_yX0_ruleOf cml_X2_183 cin_yX0_ruleOf cse_yX0_ruleOf (by decide +kernel) (by decide) rfl hl.1.1 (Nat.le_of_ble_eq_true rfl) dX2_neededRule_6 rfl hw (fun h0 H locs cells slots hw => ?_) (fun h0 H locs cells slots q ce hw h1 h2 h3 => ?_)
  · rcases hf with ⟨-, hf⟩ | ⟨hk, -⟩
    · skip
      refine cl_istore (lv' := [(4, .int (rI z4)), (0, cR v x0), (1, .int (rI x1)), (2, .int (rI x2)), (3, cR v x3)]) hx hb dX2_neededRule_9 hl (by decide) rfl (fun ls hl => ?_)
      refine lv_iload hx hb dX2_neededRule_11 (lv_at hl.1 0 rfl) ?_
      refine lv_iconst (v := rI (-1)) hx hb dX2_neededRule_13 rfl ?_
      refine rn_icmp_ne (a := z4) (b := (-1)) (tgt := 38) hx hb iz4 ⟨by decide, by decide⟩ dX2_neededRule_14 (by decide) (fun c5 => ?_) (fun c5 => ?_)
      · replace hf := cc_if_t hf c5
        refine lv_iload hx hb dX2_neededRule_38 (lv_at hl.1 0 rfl) ?_
        exact cw_reti B hf hw dX2_neededRule_40
      · replace hf := cc_if_f hf c5
        refine cl_aload_n hx hb dX2_neededRule_17 rfl (lv_at hl.1 1 rfl) ?_
        obtain ⟨z6, ez6, iz6, rz6, hf⟩ := cc_g_s hw hf
        refine cw_get (val := cR v z6) B hw rz6 ⟨by decide, by decide⟩ (by decide) cwi_3 cfl_X2_27 ez6 rfl dX2_neededRule_18 ?_
        refine lv_bipush (v := rI 9) hx hb dX2_neededRule_21 (by decide +kernel) ?_
        refine cl_aload_n hx hb dX2_neededRule_23 rfl (lv_at hl.1 4 rfl) ?_
        obtain ⟨z7, ez7, iz7, rz7, hf⟩ := cc_g_s hw hf
        refine cw_get (val := .int (rI z7)) B hw rz7 ⟨by decide, by decide⟩ (by decide) cwi_7 cfl_X2_160 ez7 rfl dX2_neededRule_24 ?_
        obtain ⟨qσ8, hf⟩ := cc_t_s hf
        obtain ⟨σ8, kv9, z10, hσ8, hf⟩ := cc_cl_s hf
        obtain ⟨iz10, mσ8⟩ := hR 30 σ2 [z6, 9, z7] σ8 kv9 z10 hσ8
        have mσ8 : cw_Met l v yX10_set cX10_set 3 none d [cR v z6, .int (rI 9), .int (rI z7)] σ2 σ8 kv9 none := mσ8 iz6 ⟨by decide, by decide⟩ iz7
        refine cw_cv (b := z6) (t := 11) (n := 2) (rest := []) (As := [.int (rI 9), .int (rI z7)]) B mσ8 qσ8 ⟨by decide, by decide⟩ cgo_yX10_set cml_X2_76 cin_yX10_set cse_yX10_set (by decide +kernel) (by decide) rfl hl.1.1 (Nat.le_of_ble_eq_true rfl) dX2_neededRule_27 rfl hw (fun h0 H locs cells slots hw => ?_) (fun h0 H locs cells slots q ce hw h1 h2 h3 => ?_)
        · rcases hf with ⟨-, hf⟩ | ⟨hk, -⟩
          · skip
            obtain ⟨hy, hm⟩ := cc_x_s hf
            obtain ⟨hy1, hy2⟩ := Prod.mk.inj hy
            obtain ⟨hy2, hy3⟩ := Prod.mk.inj hy2
            subst hy2
            refine cw_throw (rest := []) B hnh htr hw (by decide) (by decide +kernel) cxc_X2_82 cxi_1 (cw_hat cxa_X2_84 (by decide +kernel) hts hK.1) (List.all_eq_true.mp cxg_X2_84) hd5 hm hy1 hl.1.1 (Nat.le_of_ble_eq_true rfl) dX2_neededRule_30 dX2_neededRule_33 dX2_neededRule_34 dX2_neededRule_37
          · exact absurd h0 hk
        · rcases hf with ⟨hk, -⟩ | ⟨-, hf⟩
          · exact absurd hk h0
          · cases hf
            exact cw_xout B hnh h0 hw h1 h2 h3
    · exact absurd h0 hk
  · rcases hf with ⟨hk, -⟩ | ⟨-, hf⟩
    · exact absurd hk h0
    · cases hf
      exact cw_xout B hnh h0 hw h1 h2 h3

set_option maxHeartbeats 4000000 in
set_option maxRecDepth 100000 in
theorem pm_X2_neededRule {v : cwE} {bd : cBd} {l : Launch} {d : Nat} {rec : Nat → CS → List Int → CO} (hbd : bd = cw_bd v) (hR : cw_Rec l v d rec) (htr : l.stackTraces = false) (hd5 : 5 ≤ d) (σ σ' : CS) (x0 x1 x2 x3 : Int) (kd : Nat) (r : Int) (ix0 : inR x0) (ix1 : inR x1) (ix2 : inR x2) (ix3 : inR x3) (hf : pc_X2_neededRule_0 rec bd σ x0 x1 x2 x3 = some (σ', kd, r)) : cw_Met l v yX2_neededRule cX2_neededRule 5 (some .int) (d + 1) [cR v x0, .int (rI x1), .int (rI x2), cR v x3] σ σ' kd (some (.int (rI r))) := by
  refine cw_ofW (by decide +kernel) ?_
  intro p e s m args below meth c s₁ B hml hv
  obtain ⟨rfl, hM, hK⟩ := hv
  have hts := atoms_spec (ws := Cond.code yX2_neededRule cX2_neededRule 5 (some .int) :: cw_bw) B.pre
  have hB : cw_B v RX2 p s m _ meth c cX2_neededRule 5 (some .int) := ⟨B.exec, B.bytes, B.returns, hml, findClass_of_methodNamed B.named, fun w h => hts w (List.mem_cons_of_mem _ h), B.notSynchronized, hK⟩
  have hnh := cc_nh B (hts _ List.mem_cons_self)
  rw [lg_entry_eq]
  obtain ⟨ls, hls, hl⟩ := cl_ent [cR v x0, .int (rI x1), .int (rI x2), cR v x3] 5 (cl_1r (cl_1i (cl_1i (cl_1r cl_10)))) (Nat.le_of_ble_eq_true rfl)
  rw [hls]
  exact pw_X2_neededRule_0 hbd hR htr hd5 hB hnh σ x0 x1 x2 x3 ix0 ix1 ix2 ix3 hf _ _ _ _ _ (cw_W0 hM) (cl_sub hl [0, 1, 2, 3] rfl)

set_option maxHeartbeats 4000000 in
set_option maxRecDepth 100000 in
theorem pw_X2_neededSort_0 {v : cwE} {bd : cBd} {p : Program} {l : Launch} {e : Env} {s : State} {m : MethodId} {args : Array Value} {below : List Frame} {meth : Method} {c : Code} {d : Nat} {rec : Nat → CS → List Int → CO} {σ0 σ' : CS} {kd : Nat} {r : Int} (hbd : bd = cw_bd v) (hR : cw_Rec l v d rec) (htr : l.stackTraces = false) (hd5 : 5 ≤ d) (B : cw_B v RX2 p s m args meth c cX2_neededSort 3 (some .int)) (hnh : ∀ x ∈ c.exceptionTable.toList, False) : ∀ (σ : CS) (x0 x1 x2 : Int), inR x0 → inR x1 → inR x2 → pc_X2_neededSort_0 rec bd σ x0 x1 x2 = some (σ', kd, r) → ∀ (H : Heap) (locs : List Loc) (cells slots : Nat) (ls : Array Slot), cw_W v s σ0 σ H locs cells slots → cl_has ls 3 [(0, cR v x0), (1, cR v x1), (2, cR v x2)] → W p l e (cw_rm v (d + 1) σ0) s m args below meth c H locs cells slots (cw_Z below v σ0 σ' kd (some (.int (rI r))) args s) (F0 m 0 ls []) := by
  subst hbd
  obtain ⟨hx, hb, hr, hml, hown, hts, hlk, hK⟩ := id B
  intro σ x0 x1 x2 ix0 ix1 ix2 hf H locs cells slots ls hw hl
  unfold pc_X2_neededSort_0 at hf
  refine cl_aload_n hx hb dX2_neededSort_0 rfl (lv_at hl.1 1 rfl) ?_
  obtain ⟨z1, ez1, iz1, rz1, hf⟩ := cc_g_s hw hf
  refine cw_get (val := .int (rI z1)) B hw rz1 ⟨by decide, by decide⟩ (by decide) cwi_7 cfl_X2_48 ez1 rfl dX2_neededSort_1 ?_
  refine lv_iconst (v := rI 1) hx hb dX2_neededSort_4 rfl ?_
  refine rn_icmp_eq (a := z1) (b := 1) (tgt := 29) hx hb iz1 ⟨by decide, by decide⟩ dX2_neededSort_5 (by decide) (fun c2 => ?_) (fun c2 => ?_)
  · replace hf := cc_if_t hf c2
    refine cl_aload_n hx hb dX2_neededSort_29 rfl (lv_at hl.1 1 rfl) ?_
    obtain ⟨z3, ez3, iz3, rz3, hf⟩ := cc_g_s hw hf
    refine cw_get (val := .int (rI z3)) B hw rz3 ⟨by decide, by decide⟩ (by decide) cwi_7 cfl_X2_90 ez3 rfl dX2_neededSort_30 ?_
    exact cw_reti B hf hw dX2_neededSort_33
  · replace hf := cc_if_f hf c2
    refine cl_aload_n hx hb dX2_neededSort_8 rfl (lv_at hl.1 0 rfl) ?_
    obtain ⟨z4, ez4, iz4, rz4, hf⟩ := cc_g_s hw hf
    refine cw_get (val := cR v z4) B hw rz4 ⟨by decide, by decide⟩ (by decide) cwi_3 cfl_X2_27 ez4 rfl dX2_neededSort_9 ?_
    refine lv_bipush (v := rI 8) hx hb dX2_neededSort_12 (by decide +kernel) ?_
    refine cl_aload_n hx hb dX2_neededSort_14 rfl (lv_at hl.1 2 rfl) ?_
    obtain ⟨z5, ez5, iz5, rz5, hf⟩ := cc_g_s hw hf
    refine cw_get (val := .int (rI z5)) B hw rz5 ⟨by decide, by decide⟩ (by decide) cwi_7 cfl_X2_73 ez5 rfl dX2_neededSort_15 ?_
    obtain ⟨qσ6, hf⟩ := cc_t_s hf
    obtain ⟨σ6, kv7, z8, hσ6, hf⟩ := cc_cl_s hf
    obtain ⟨iz8, mσ6⟩ := hR 30 σ [z4, 8, z5] σ6 kv7 z8 hσ6
    have mσ6 : cw_Met l v yX10_set cX10_set 3 none d [cR v z4, .int (rI 8), .int (rI z5)] σ σ6 kv7 none := mσ6 iz4 ⟨by decide, by decide⟩ iz5
    refine cw_cv (b := z4) (t := 11) (n := 2) (rest := []) (As := [.int (rI 8), .int (rI z5)]) B mσ6 qσ6 ⟨by decide, by decide⟩ cgo_yX10_set cml_X2_76 cin_yX10_set cse_yX10_set (by decide +kernel) (by decide) rfl hl.1.1 (Nat.le_of_ble_eq_true rfl) dX2_neededSort_18 rfl hw (fun h0 H locs cells slots hw => ?_) (fun h0 H locs cells slots q ce hw h1 h2 h3 => ?_)
    · rcases hf with ⟨-, hf⟩ | ⟨hk, -⟩
      · skip
        obtain ⟨hy, hm⟩ := cc_x_s hf
        obtain ⟨hy1, hy2⟩ := Prod.mk.inj hy
        obtain ⟨hy2, hy3⟩ := Prod.mk.inj hy2
        subst hy2
        refine cw_throw (rest := []) B hnh htr hw (by decide) (by decide +kernel) cxc_X2_82 cxi_1 (cw_hat cxa_X2_84 (by decide +kernel) hts hK.1) (List.all_eq_true.mp cxg_X2_84) hd5 hm hy1 hl.1.1 (Nat.le_of_ble_eq_true rfl) dX2_neededSort_21 dX2_neededSort_24 dX2_neededSort_25 dX2_neededSort_28
      · exact absurd h0 hk
    · rcases hf with ⟨hk, -⟩ | ⟨-, hf⟩
      · exact absurd hk h0
      · cases hf
        exact cw_xout B hnh h0 hw h1 h2 h3

set_option maxHeartbeats 4000000 in
set_option maxRecDepth 100000 in
theorem pm_X2_neededSort {v : cwE} {bd : cBd} {l : Launch} {d : Nat} {rec : Nat → CS → List Int → CO} (hbd : bd = cw_bd v) (hR : cw_Rec l v d rec) (htr : l.stackTraces = false) (hd5 : 5 ≤ d) (σ σ' : CS) (x0 x1 x2 : Int) (kd : Nat) (r : Int) (ix0 : inR x0) (ix1 : inR x1) (ix2 : inR x2) (hf : pc_X2_neededSort_0 rec bd σ x0 x1 x2 = some (σ', kd, r)) : cw_Met l v yX2_neededSort cX2_neededSort 3 (some .int) (d + 1) [cR v x0, cR v x1, cR v x2] σ σ' kd (some (.int (rI r))) := by
  refine cw_ofW (by decide +kernel) ?_
  intro p e s m args below meth c s₁ B hml hv
  obtain ⟨rfl, hM, hK⟩ := hv
  have hts := atoms_spec (ws := Cond.code yX2_neededSort cX2_neededSort 3 (some .int) :: cw_bw) B.pre
  have hB : cw_B v RX2 p s m _ meth c cX2_neededSort 3 (some .int) := ⟨B.exec, B.bytes, B.returns, hml, findClass_of_methodNamed B.named, fun w h => hts w (List.mem_cons_of_mem _ h), B.notSynchronized, hK⟩
  have hnh := cc_nh B (hts _ List.mem_cons_self)
  rw [lg_entry_eq]
  obtain ⟨ls, hls, hl⟩ := cl_ent [cR v x0, cR v x1, cR v x2] 3 (cl_1r (cl_1r (cl_1r cl_10))) (Nat.le_of_ble_eq_true rfl)
  rw [hls]
  exact pw_X2_neededSort_0 hbd hR htr hd5 hB hnh σ x0 x1 x2 ix0 ix1 ix2 hf _ _ _ _ _ (cw_W0 hM) (cl_sub hl [0, 1, 2] rfl)

set_option maxHeartbeats 4000000 in
set_option maxRecDepth 100000 in
theorem pw_X2_resolve_0 {v : cwE} {bd : cBd} {p : Program} {l : Launch} {e : Env} {s : State} {m : MethodId} {args : Array Value} {below : List Frame} {meth : Method} {c : Code} {d : Nat} {rec : Nat → CS → List Int → CO} {σ0 σ' : CS} {kd : Nat} {r : Int} (hbd : bd = cw_bd v) (hR : cw_Rec l v d rec) (htr : l.stackTraces = false) (hd5 : 5 ≤ d) (B : cw_B v RX2 p s m args meth c cX2_resolve 5 none) (hnh : ∀ x ∈ c.exceptionTable.toList, False) : ∀ (σ : CS) (x0 x1 x2 x3 x4 : Int), inR x0 → inR x1 → inR x2 → inR x3 → inR x4 → pc_X2_resolve_0 rec bd σ x0 x1 x2 x3 x4 = some (σ', kd, r) → ∀ (H : Heap) (locs : List Loc) (cells slots : Nat) (ls : Array Slot), cw_W v s σ0 σ H locs cells slots → cl_has ls 5 [(0, cR v x0), (1, cR v x1), (2, .int (rI x2)), (3, .int (rI x3)), (4, .int (rI x4))] → W p l e (cw_rm v (d + 1) σ0) s m args below meth c H locs cells slots (cw_Z below v σ0 σ' kd none args s) (F0 m 0 ls []) := by
  subst hbd
  obtain ⟨hx, hb, hr, hml, hown, hts, hlk, hK⟩ := id B
  intro σ x0 x1 x2 x3 x4 ix0 ix1 ix2 ix3 ix4 hf H locs cells slots ls hw hl
  unfold pc_X2_resolve_0 at hf
  refine cl_aload_n hx hb dX2_resolve_0 rfl (lv_at hl.1 1 rfl) ?_
  refine lv_iload_n hx hb dX2_resolve_1 rfl (lv_at hl.1 2 rfl) ?_
  obtain ⟨σ1, eσ1, rσ1, hf⟩ := cc_p_s hf
  refine cw_put B hw rσ1 cwt_7 (by decide) rfl cfl_X2_48 ix2 eσ1 rfl (cw_fv_n rfl rfl) dX2_resolve_2 (fun H locs hw => ?_)
  refine cl_aload_n hx hb dX2_resolve_5 rfl (lv_at hl.1 1 rfl) ?_
  refine lv_iload_n hx hb dX2_resolve_6 rfl (lv_at hl.1 3 rfl) ?_
  obtain ⟨σ2, eσ2, rσ2, hf⟩ := cc_p_s hf
  refine cw_put B hw rσ2 cwt_7 (by decide) rfl cfl_X2_90 ix3 eσ2 rfl (cw_fv_n rfl rfl) dX2_resolve_7 (fun H locs hw => ?_)
  refine cl_aload_n hx hb dX2_resolve_10 rfl (lv_at hl.1 0 rfl) ?_
  refine lv_iload hx hb dX2_resolve_11 (lv_at hl.1 4 rfl) ?_
  obtain ⟨σ3, eσ3, rσ3, hf⟩ := cc_p_s hf
  refine cw_put B hw rσ3 cwt_3 (by decide) rfl cfl_X2_9 ix4 eσ3 rfl (cw_fv_n rfl rfl) dX2_resolve_13 (fun H locs hw => ?_)
  exact cw_retv B hf hw dX2_resolve_16

set_option maxHeartbeats 4000000 in
set_option maxRecDepth 100000 in
theorem pm_X2_resolve {v : cwE} {bd : cBd} {l : Launch} {d : Nat} {rec : Nat → CS → List Int → CO} (hbd : bd = cw_bd v) (hR : cw_Rec l v d rec) (htr : l.stackTraces = false) (hd5 : 5 ≤ d) (σ σ' : CS) (x0 x1 x2 x3 x4 : Int) (kd : Nat) (r : Int) (ix0 : inR x0) (ix1 : inR x1) (ix2 : inR x2) (ix3 : inR x3) (ix4 : inR x4) (hf : pc_X2_resolve_0 rec bd σ x0 x1 x2 x3 x4 = some (σ', kd, r)) : cw_Met l v yX2_resolve cX2_resolve 5 none (d + 1) [cR v x0, cR v x1, .int (rI x2), .int (rI x3), .int (rI x4)] σ σ' kd none := by
  refine cw_ofW (by decide +kernel) ?_
  intro p e s m args below meth c s₁ B hml hv
  obtain ⟨rfl, hM, hK⟩ := hv
  have hts := atoms_spec (ws := Cond.code yX2_resolve cX2_resolve 5 none :: cw_bw) B.pre
  have hB : cw_B v RX2 p s m _ meth c cX2_resolve 5 none := ⟨B.exec, B.bytes, B.returns, hml, findClass_of_methodNamed B.named, fun w h => hts w (List.mem_cons_of_mem _ h), B.notSynchronized, hK⟩
  have hnh := cc_nh B (hts _ List.mem_cons_self)
  rw [lg_entry_eq]
  obtain ⟨ls, hls, hl⟩ := cl_ent [cR v x0, cR v x1, .int (rI x2), .int (rI x3), .int (rI x4)] 5 (cl_1r (cl_1r (cl_1i (cl_1i (cl_1i cl_10))))) (Nat.le_of_ble_eq_true rfl)
  rw [hls]
  exact pw_X2_resolve_0 hbd hR htr hd5 hB hnh σ x0 x1 x2 x3 x4 ix0 ix1 ix2 ix3 ix4 hf _ _ _ _ _ (cw_W0 hM) (cl_sub hl [0, 1, 2, 3, 4] rfl)

set_option maxHeartbeats 4000000 in
set_option maxRecDepth 100000 in
theorem pw_X2_sortAsType_0 {v : cwE} {bd : cBd} {p : Program} {l : Launch} {e : Env} {s : State} {m : MethodId} {args : Array Value} {below : List Frame} {meth : Method} {c : Code} {d : Nat} {rec : Nat → CS → List Int → CO} {σ0 σ' : CS} {kd : Nat} {r : Int} (hbd : bd = cw_bd v) (hR : cw_Rec l v d rec) (htr : l.stackTraces = false) (hd5 : 5 ≤ d) (B : cw_B v RX2 p s m args meth c cX2_sortAsType 2 (some .int)) (hnh : ∀ x ∈ c.exceptionTable.toList, False) : ∀ (σ : CS) (x0 x1 : Int), inR x0 → inR x1 → pc_X2_sortAsType_0 rec bd σ x0 x1 = some (σ', kd, r) → ∀ (H : Heap) (locs : List Loc) (cells slots : Nat) (ls : Array Slot), cw_W v s σ0 σ H locs cells slots → cl_has ls 2 [(0, cR v x0), (1, cR v x1)] → W p l e (cw_rm v (d + 1) σ0) s m args below meth c H locs cells slots (cw_Z below v σ0 σ' kd (some (.int (rI r))) args s) (F0 m 0 ls []) := by
  subst hbd
  obtain ⟨hx, hb, hr, hml, hown, hts, hlk, hK⟩ := id B
  intro σ x0 x1 ix0 ix1 hf H locs cells slots ls hw hl
  unfold pc_X2_sortAsType_0 at hf
  refine cl_aload_n hx hb dX2_sortAsType_0 rfl (lv_at hl.1 0 rfl) ?_
  refine cl_aload_n hx hb dX2_sortAsType_1 rfl (lv_at hl.1 0 rfl) ?_
  refine cl_aload_n hx hb dX2_sortAsType_2 rfl (lv_at hl.1 1 rfl) ?_
  refine cl_null (v := v) hx hb dX2_sortAsType_3 ?_
  obtain ⟨qσ1, hf⟩ := cc_t_s hf
  obtain ⟨σ1, kv2, z3, hσ1, hf⟩ := cc_cl_s hf
  obtain ⟨iz3, mσ1⟩ := hR 66 σ [x0, x1, (-1)] σ1 kv2 z3 hσ1
  have mσ1 : cw_Met l v yX2_judge cX2_judge 8 (some (.object "PureHouse$Node")) d [cR v x0, cR v x1, cR v (-1)] σ σ1 kv2 (some (cR v z3)) := mσ1 ix0 ix1 ⟨by decide, by decide⟩
  refine cw_cv (b := x0) (t := 3) (n := 2) (rest := [cR v x0]) (As := [cR v x1, cR v (-1)]) B mσ1 qσ1 ⟨by decide, by decide⟩ cgo_yX2_judge cml_X2_31 cin_yX2_judge cse_yX2_judge (by decide +kernel) (by decide) rfl hl.1.1 (cl_cs (cl_1r cl_10) (Nat.le_of_ble_eq_true rfl)) dX2_sortAsType_4 rfl hw (fun h0 H locs cells slots hw => ?_) (fun h0 H locs cells slots q ce hw h1 h2 h3 => ?_)
  · rcases hf with ⟨-, hf⟩ | ⟨hk, -⟩
    · skip
      refine cl_aload_n hx hb dX2_sortAsType_7 rfl (lv_at hl.1 1 rfl) ?_
      obtain ⟨qσ4, hf⟩ := cc_t_s hf
      obtain ⟨σ4, kv5, z6, hσ4, hf⟩ := cc_cl_s hf
      obtain ⟨iz6, mσ4⟩ := hR 70 σ1 [x0, z3, x1] σ4 kv5 z6 hσ4
      have mσ4 : cw_Met l v yX2_neededSort cX2_neededSort 3 (some .int) d [cR v x0, cR v z3, cR v x1] σ1 σ4 kv5 (some (.int (rI z6))) := mσ4 ix0 iz3 ix1
      refine cw_cv (b := x0) (t := 3) (n := 2) (rest := []) (As := [cR v z3, cR v x1]) B mσ4 qσ4 ⟨by decide, by decide⟩ cgo_yX2_neededSort cml_X2_35 cin_yX2_neededSort cse_yX2_neededSort (by decide +kernel) (by decide) rfl hl.1.1 (Nat.le_of_ble_eq_true rfl) dX2_sortAsType_8 rfl hw (fun h0 H locs cells slots hw => ?_) (fun h0 H locs cells slots q ce hw h1 h2 h3 => ?_)
      · rcases hf with ⟨-, hf⟩ | ⟨hk, -⟩
        · skip
          exact cw_reti B hf hw dX2_sortAsType_11
        · exact absurd h0 hk
      · rcases hf with ⟨hk, -⟩ | ⟨-, hf⟩
        · exact absurd hk h0
        · cases hf
          exact cw_xout B hnh h0 hw h1 h2 h3
    · exact absurd h0 hk
  · rcases hf with ⟨hk, -⟩ | ⟨-, hf⟩
    · exact absurd hk h0
    · cases hf
      exact cw_xout B hnh h0 hw h1 h2 h3

set_option maxHeartbeats 4000000 in
set_option maxRecDepth 100000 in
theorem pm_X2_sortAsType {v : cwE} {bd : cBd} {l : Launch} {d : Nat} {rec : Nat → CS → List Int → CO} (hbd : bd = cw_bd v) (hR : cw_Rec l v d rec) (htr : l.stackTraces = false) (hd5 : 5 ≤ d) (σ σ' : CS) (x0 x1 : Int) (kd : Nat) (r : Int) (ix0 : inR x0) (ix1 : inR x1) (hf : pc_X2_sortAsType_0 rec bd σ x0 x1 = some (σ', kd, r)) : cw_Met l v yX2_sortAsType cX2_sortAsType 2 (some .int) (d + 1) [cR v x0, cR v x1] σ σ' kd (some (.int (rI r))) := by
  refine cw_ofW (by decide +kernel) ?_
  intro p e s m args below meth c s₁ B hml hv
  obtain ⟨rfl, hM, hK⟩ := hv
  have hts := atoms_spec (ws := Cond.code yX2_sortAsType cX2_sortAsType 2 (some .int) :: cw_bw) B.pre
  have hB : cw_B v RX2 p s m _ meth c cX2_sortAsType 2 (some .int) := ⟨B.exec, B.bytes, B.returns, hml, findClass_of_methodNamed B.named, fun w h => hts w (List.mem_cons_of_mem _ h), B.notSynchronized, hK⟩
  have hnh := cc_nh B (hts _ List.mem_cons_self)
  rw [lg_entry_eq]
  obtain ⟨ls, hls, hl⟩ := cl_ent [cR v x0, cR v x1] 2 (cl_1r (cl_1r cl_10)) (Nat.le_of_ble_eq_true rfl)
  rw [hls]
  exact pw_X2_sortAsType_0 hbd hR htr hd5 hB hnh σ x0 x1 ix0 ix1 hf _ _ _ _ _ (cw_W0 hM) (cl_sub hl [0, 1] rfl)

set_option maxHeartbeats 4000000 in
set_option maxRecDepth 100000 in
theorem pw_X2_typeOf_0 {v : cwE} {bd : cBd} {p : Program} {l : Launch} {e : Env} {s : State} {m : MethodId} {args : Array Value} {below : List Frame} {meth : Method} {c : Code} {d : Nat} {rec : Nat → CS → List Int → CO} {σ0 σ' : CS} {kd : Nat} {r : Int} (hbd : bd = cw_bd v) (hR : cw_Rec l v d rec) (htr : l.stackTraces = false) (hd5 : 5 ≤ d) (B : cw_B v RX2 p s m args meth c cX2_typeOf 2 (some (.object "PureHouse$Node"))) (hnh : ∀ x ∈ c.exceptionTable.toList, False) : ∀ (σ : CS) (x0 x1 : Int), inR x0 → inR x1 → pc_X2_typeOf_0 rec bd σ x0 x1 = some (σ', kd, r) → ∀ (H : Heap) (locs : List Loc) (cells slots : Nat) (ls : Array Slot), cw_W v s σ0 σ H locs cells slots → cl_has ls 2 [(0, cR v x0), (1, cR v x1)] → W p l e (cw_rm v (d + 1) σ0) s m args below meth c H locs cells slots (cw_Z below v σ0 σ' kd (some (cR v r)) args s) (F0 m 0 ls []) := by
  subst hbd
  obtain ⟨hx, hb, hr, hml, hown, hts, hlk, hK⟩ := id B
  intro σ x0 x1 ix0 ix1 hf H locs cells slots ls hw hl
  unfold pc_X2_typeOf_0 at hf
  refine cl_aload_n hx hb dX2_typeOf_0 rfl (lv_at hl.1 0 rfl) ?_
  refine cl_aload_n hx hb dX2_typeOf_1 rfl (lv_at hl.1 1 rfl) ?_
  refine cl_null (v := v) hx hb dX2_typeOf_2 ?_
  obtain ⟨qσ1, hf⟩ := cc_t_s hf
  obtain ⟨σ1, kv2, z3, hσ1, hf⟩ := cc_cl_s hf
  obtain ⟨iz3, mσ1⟩ := hR 66 σ [x0, x1, (-1)] σ1 kv2 z3 hσ1
  have mσ1 : cw_Met l v yX2_judge cX2_judge 8 (some (.object "PureHouse$Node")) d [cR v x0, cR v x1, cR v (-1)] σ σ1 kv2 (some (cR v z3)) := mσ1 ix0 ix1 ⟨by decide, by decide⟩
  refine cw_cv (b := x0) (t := 3) (n := 2) (rest := []) (As := [cR v x1, cR v (-1)]) B mσ1 qσ1 ⟨by decide, by decide⟩ cgo_yX2_judge cml_X2_31 cin_yX2_judge cse_yX2_judge (by decide +kernel) (by decide) rfl hl.1.1 (Nat.le_of_ble_eq_true rfl) dX2_typeOf_3 rfl hw (fun h0 H locs cells slots hw => ?_) (fun h0 H locs cells slots q ce hw h1 h2 h3 => ?_)
  · rcases hf with ⟨-, hf⟩ | ⟨hk, -⟩
    · skip
      exact cw_reta B hf hw dX2_typeOf_6
    · exact absurd h0 hk
  · rcases hf with ⟨hk, -⟩ | ⟨-, hf⟩
    · exact absurd hk h0
    · cases hf
      exact cw_xout B hnh h0 hw h1 h2 h3

set_option maxHeartbeats 4000000 in
set_option maxRecDepth 100000 in
theorem pm_X2_typeOf {v : cwE} {bd : cBd} {l : Launch} {d : Nat} {rec : Nat → CS → List Int → CO} (hbd : bd = cw_bd v) (hR : cw_Rec l v d rec) (htr : l.stackTraces = false) (hd5 : 5 ≤ d) (σ σ' : CS) (x0 x1 : Int) (kd : Nat) (r : Int) (ix0 : inR x0) (ix1 : inR x1) (hf : pc_X2_typeOf_0 rec bd σ x0 x1 = some (σ', kd, r)) : cw_Met l v yX2_typeOf cX2_typeOf 2 (some (.object "PureHouse$Node")) (d + 1) [cR v x0, cR v x1] σ σ' kd (some (cR v r)) := by
  refine cw_ofW (by decide +kernel) ?_
  intro p e s m args below meth c s₁ B hml hv
  obtain ⟨rfl, hM, hK⟩ := hv
  have hts := atoms_spec (ws := Cond.code yX2_typeOf cX2_typeOf 2 (some (.object "PureHouse$Node")) :: cw_bw) B.pre
  have hB : cw_B v RX2 p s m _ meth c cX2_typeOf 2 (some (.object "PureHouse$Node")) := ⟨B.exec, B.bytes, B.returns, hml, findClass_of_methodNamed B.named, fun w h => hts w (List.mem_cons_of_mem _ h), B.notSynchronized, hK⟩
  have hnh := cc_nh B (hts _ List.mem_cons_self)
  rw [lg_entry_eq]
  obtain ⟨ls, hls, hl⟩ := cl_ent [cR v x0, cR v x1] 2 (cl_1r (cl_1r cl_10)) (Nat.le_of_ble_eq_true rfl)
  rw [hls]
  exact pw_X2_typeOf_0 hbd hR htr hd5 hB hnh σ x0 x1 ix0 ix1 hf _ _ _ _ _ (cw_W0 hM) (cl_sub hl [0, 1] rfl)

set_option maxHeartbeats 4000000 in
set_option maxRecDepth 100000 in
theorem pw_X2_typeOfLambda_0 {v : cwE} {bd : cBd} {p : Program} {l : Launch} {e : Env} {s : State} {m : MethodId} {args : Array Value} {below : List Frame} {meth : Method} {c : Code} {d : Nat} {rec : Nat → CS → List Int → CO} {σ0 σ' : CS} {kd : Nat} {r : Int} (hbd : bd = cw_bd v) (hR : cw_Rec l v d rec) (htr : l.stackTraces = false) (hd5 : 5 ≤ d) (B : cw_B v RX2 p s m args meth c cX2_typeOfLambda 7 (some (.object "PureHouse$Node"))) (hnh : ∀ x ∈ c.exceptionTable.toList, False) : ∀ (σ : CS) (x0 x1 x2 x3 x4 : Int), inR x0 → inR x1 → inR x2 → inR x3 → inR x4 → pc_X2_typeOfLambda_0 rec bd σ x0 x1 x2 x3 x4 = some (σ', kd, r) → ∀ (H : Heap) (locs : List Loc) (cells slots : Nat) (ls : Array Slot), cw_W v s σ0 σ H locs cells slots → cl_has ls 7 [(0, cR v x0), (1, cR v x1), (2, cR v x2), (3, .int (rI x3)), (4, cR v x4)] → W p l e (cw_rm v (d + 1) σ0) s m args below meth c H locs cells slots (cw_Z below v σ0 σ' kd (some (cR v r)) args s) (F0 m 0 ls []) := by
  subst hbd
  obtain ⟨hx, hb, hr, hml, hown, hts, hlk, hK⟩ := id B
  intro σ x0 x1 x2 x3 x4 ix0 ix1 ix2 ix3 ix4 hf H locs cells slots ls hw hl
  unfold pc_X2_typeOfLambda_0 at hf
  refine cl_aload_n hx hb dX2_typeOfLambda_0 rfl (lv_at hl.1 0 rfl) ?_
  obtain ⟨z1, ez1, iz1, rz1, hf⟩ := cc_g_s hw hf
  refine cw_get (val := .int (rI z1)) B hw rz1 ⟨by decide, by decide⟩ (by decide) cwi_3 cfl_X2_9 ez1 rfl dX2_typeOfLambda_1 ?_
  refine cl_istore (lv' := [(5, .int (rI z1)), (0, cR v x0), (1, cR v x1), (2, cR v x2), (3, .int (rI x3)), (4, cR v x4)]) hx hb dX2_typeOfLambda_4 hl (by decide) rfl (fun ls hl => ?_)
  refine lv_iload hx hb dX2_typeOfLambda_6 (lv_at hl.1 0 rfl) ?_
  refine lv_iconst (v := rI (-1)) hx hb dX2_typeOfLambda_8 rfl ?_
  refine rn_icmp_ne (a := z1) (b := (-1)) (tgt := 33) hx hb iz1 ⟨by decide, by decide⟩ dX2_typeOfLambda_9 (by decide) (fun c2 => ?_) (fun c2 => ?_)
  · replace hf := cc_if_t hf c2
    refine cl_aload_n hx hb dX2_typeOfLambda_33 rfl (lv_at hl.1 1 rfl) ?_
    refine cl_aload_n hx hb dX2_typeOfLambda_34 rfl (lv_at hl.1 1 rfl) ?_
    refine lv_iload_n hx hb dX2_typeOfLambda_35 rfl (lv_at hl.1 4 rfl) ?_
    refine lv_iload hx hb dX2_typeOfLambda_36 (lv_at hl.1 0 rfl) ?_
    refine cl_aload_n hx hb dX2_typeOfLambda_38 rfl (lv_at hl.1 2 rfl) ?_
    obtain ⟨qσ3, hf⟩ := cc_t_s hf
    obtain ⟨σ3, kv4, z5, hσ3, hf⟩ := cc_cl_s hf
    obtain ⟨iz5, mσ3⟩ := hR 69 σ [x0, x3, z1, x1] σ3 kv4 z5 hσ3
    have mσ3 : cw_Met l v yX2_neededRule cX2_neededRule 5 (some .int) d [cR v x0, .int (rI x3), .int (rI z1), cR v x1] σ σ3 kv4 (some (.int (rI z5))) := mσ3 ix0 ix3 iz1 ix1
    refine cw_cv (b := x0) (t := 3) (n := 3) (rest := [cR v x0]) (As := [.int (rI x3), .int (rI z1), cR v x1]) B mσ3 qσ3 ⟨by decide, by decide⟩ cgo_yX2_neededRule cml_X2_173 cin_yX2_neededRule cse_yX2_neededRule (by decide +kernel) (by decide) rfl hl.1.1 (cl_cs (cl_1r cl_10) (Nat.le_of_ble_eq_true rfl)) dX2_typeOfLambda_39 rfl hw (fun h0 H locs cells slots hw => ?_) (fun h0 H locs cells slots q ce hw h1 h2 h3 => ?_)
    · rcases hf with ⟨-, hf⟩ | ⟨hk, -⟩
      · skip
        obtain ⟨σ6, eσ6, rσ6, hf⟩ := cc_p_s hf
        refine cw_put B hw rσ6 cwt_3 (by decide) rfl cfl_X2_9 iz5 eσ6 rfl (cw_fv_n rfl rfl) dX2_typeOfLambda_42 (fun H locs hw => ?_)
        refine lv_iconst (v := rI 5) hx hb dX2_typeOfLambda_45 rfl ?_
        refine cl_aload_n hx hb dX2_typeOfLambda_46 rfl (lv_at hl.1 2 rfl) ?_
        obtain ⟨z7, ez7, iz7, rz7, hf⟩ := cc_g_s hw hf
        refine cw_get (val := .int (rI z7)) B hw rz7 ⟨by decide, by decide⟩ (by decide) cwi_7 cfl_X2_90 ez7 rfl dX2_typeOfLambda_47 ?_
        refine cl_aload_n hx hb dX2_typeOfLambda_50 rfl (lv_at hl.1 3 rfl) ?_
        refine cl_aload hx hb dX2_typeOfLambda_51 (lv_at hl.1 5 rfl) ?_
        obtain ⟨σ8, kv9, z10, hσ8, hf⟩ := cc_cl_s hf
        obtain ⟨iz10, mσ8⟩ := hR 104 σ6 [5, z7, x2, x4] σ8 kv9 z10 hσ8
        have mσ8 : cw_Met l v yX6_binder cX6_binder 5 (some (.object "PureHouse$Node")) d [.int (rI 5), .int (rI z7), cR v x2, cR v x4] σ6 σ8 kv9 (some (cR v z10)) := mσ8 ⟨by decide, by decide⟩ iz7 ix2 ix4
        refine cw_cs (n := 4) (rest := []) (As := [.int (rI 5), .int (rI z7), cR v x2, cR v x4]) B mσ8 cgo_yX6_binder cml_X2_180 cst_yX6_binder (by decide +kernel) (by decide) rfl hl.1.1 (Nat.le_of_ble_eq_true rfl) dX2_typeOfLambda_53 rfl hw (fun h0 H locs cells slots hw => ?_) (fun h0 H locs cells slots q ce hw h1 h2 h3 => ?_)
        · rcases hf with ⟨-, hf⟩ | ⟨hk, -⟩
          · skip
            refine cl_astore (lv' := [(6, cR v z10), (5, .int (rI z1)), (0, cR v x0), (1, cR v x1), (2, cR v x2), (3, .int (rI x3)), (4, cR v x4)]) hx hb dX2_typeOfLambda_56 hl (by decide) rfl (fun ls hl => ?_)
            refine cl_aload hx hb dX2_typeOfLambda_58 (lv_at hl.1 0 rfl) ?_
            refine lv_iload_n hx hb dX2_typeOfLambda_60 rfl (lv_at hl.1 5 rfl) ?_
            refine lv_iload hx hb dX2_typeOfLambda_61 (lv_at hl.1 1 rfl) ?_
            obtain ⟨qσ11, hf⟩ := cc_t_s hf
            obtain ⟨σ11, kv12, z13, hσ11, hf⟩ := cc_cl_s hf
            obtain ⟨iz13, mσ11⟩ := hR 106 σ8 [z10, x3, z1] σ11 kv12 z13 hσ11
            have mσ11 : cw_Met l v yX6_keepSorts cX6_keepSorts 3 none d [cR v z10, .int (rI x3), .int (rI z1)] σ8 σ11 kv12 none := mσ11 iz10 ix3 iz1
            refine cw_cv (b := z10) (t := 7) (n := 2) (rest := []) (As := [.int (rI x3), .int (rI z1)]) B mσ11 qσ11 ⟨by decide, by decide⟩ cgo_yX6_keepSorts cml_X2_177 cin_yX6_keepSorts cse_yX6_keepSorts (by decide +kernel) (by decide) rfl hl.1.1 (Nat.le_of_ble_eq_true rfl) dX2_typeOfLambda_63 rfl hw (fun h0 H locs cells slots hw => ?_) (fun h0 H locs cells slots q ce hw h1 h2 h3 => ?_)
            · rcases hf with ⟨-, hf⟩ | ⟨hk, -⟩
              · skip
                refine cl_aload hx hb dX2_typeOfLambda_66 (lv_at hl.1 0 rfl) ?_
                exact cw_reta B hf hw dX2_typeOfLambda_68
              · exact absurd h0 hk
            · rcases hf with ⟨hk, -⟩ | ⟨-, hf⟩
              · exact absurd hk h0
              · cases hf
                exact cw_xout B hnh h0 hw h1 h2 h3
          · exact absurd h0 hk
        · rcases hf with ⟨hk, -⟩ | ⟨-, hf⟩
          · exact absurd hk h0
          · cases hf
            exact cw_xout B hnh h0 hw h1 h2 h3
      · exact absurd h0 hk
    · rcases hf with ⟨hk, -⟩ | ⟨-, hf⟩
      · exact absurd hk h0
      · cases hf
        exact cw_xout B hnh h0 hw h1 h2 h3
  · replace hf := cc_if_f hf c2
    refine cl_aload_n hx hb dX2_typeOfLambda_12 rfl (lv_at hl.1 1 rfl) ?_
    obtain ⟨z14, ez14, iz14, rz14, hf⟩ := cc_g_s hw hf
    refine cw_get (val := cR v z14) B hw rz14 ⟨by decide, by decide⟩ (by decide) cwi_3 cfl_X2_27 ez14 rfl dX2_typeOfLambda_13 ?_
    refine lv_bipush (v := rI 7) hx hb dX2_typeOfLambda_16 (by decide +kernel) ?_
    refine cl_aload_n hx hb dX2_typeOfLambda_18 rfl (lv_at hl.1 2 rfl) ?_
    obtain ⟨z15, ez15, iz15, rz15, hf⟩ := cc_g_s hw hf
    refine cw_get (val := .int (rI z15)) B hw rz15 ⟨by decide, by decide⟩ (by decide) cwi_7 cfl_X2_160 ez15 rfl dX2_typeOfLambda_19 ?_
    obtain ⟨qσ16, hf⟩ := cc_t_s hf
    obtain ⟨σ16, kv17, z18, hσ16, hf⟩ := cc_cl_s hf
    obtain ⟨iz18, mσ16⟩ := hR 30 σ [z14, 7, z15] σ16 kv17 z18 hσ16
    have mσ16 : cw_Met l v yX10_set cX10_set 3 none d [cR v z14, .int (rI 7), .int (rI z15)] σ σ16 kv17 none := mσ16 iz14 ⟨by decide, by decide⟩ iz15
    refine cw_cv (b := z14) (t := 11) (n := 2) (rest := []) (As := [.int (rI 7), .int (rI z15)]) B mσ16 qσ16 ⟨by decide, by decide⟩ cgo_yX10_set cml_X2_76 cin_yX10_set cse_yX10_set (by decide +kernel) (by decide) rfl hl.1.1 (Nat.le_of_ble_eq_true rfl) dX2_typeOfLambda_22 rfl hw (fun h0 H locs cells slots hw => ?_) (fun h0 H locs cells slots q ce hw h1 h2 h3 => ?_)
    · rcases hf with ⟨-, hf⟩ | ⟨hk, -⟩
      · skip
        obtain ⟨hy, hm⟩ := cc_x_s hf
        obtain ⟨hy1, hy2⟩ := Prod.mk.inj hy
        obtain ⟨hy2, hy3⟩ := Prod.mk.inj hy2
        subst hy2
        refine cw_throw (rest := []) B hnh htr hw (by decide) (by decide +kernel) cxc_X2_82 cxi_1 (cw_hat cxa_X2_84 (by decide +kernel) hts hK.1) (List.all_eq_true.mp cxg_X2_84) hd5 hm hy1 hl.1.1 (Nat.le_of_ble_eq_true rfl) dX2_typeOfLambda_25 dX2_typeOfLambda_28 dX2_typeOfLambda_29 dX2_typeOfLambda_32
      · exact absurd h0 hk
    · rcases hf with ⟨hk, -⟩ | ⟨-, hf⟩
      · exact absurd hk h0
      · cases hf
        exact cw_xout B hnh h0 hw h1 h2 h3

set_option maxHeartbeats 4000000 in
set_option maxRecDepth 100000 in
theorem pm_X2_typeOfLambda {v : cwE} {bd : cBd} {l : Launch} {d : Nat} {rec : Nat → CS → List Int → CO} (hbd : bd = cw_bd v) (hR : cw_Rec l v d rec) (htr : l.stackTraces = false) (hd5 : 5 ≤ d) (σ σ' : CS) (x0 x1 x2 x3 x4 : Int) (kd : Nat) (r : Int) (ix0 : inR x0) (ix1 : inR x1) (ix2 : inR x2) (ix3 : inR x3) (ix4 : inR x4) (hf : pc_X2_typeOfLambda_0 rec bd σ x0 x1 x2 x3 x4 = some (σ', kd, r)) : cw_Met l v yX2_typeOfLambda cX2_typeOfLambda 7 (some (.object "PureHouse$Node")) (d + 1) [cR v x0, cR v x1, cR v x2, .int (rI x3), cR v x4] σ σ' kd (some (cR v r)) := by
  refine cw_ofW (by decide +kernel) ?_
  intro p e s m args below meth c s₁ B hml hv
  obtain ⟨rfl, hM, hK⟩ := hv
  have hts := atoms_spec (ws := Cond.code yX2_typeOfLambda cX2_typeOfLambda 7 (some (.object "PureHouse$Node")) :: cw_bw) B.pre
  have hB : cw_B v RX2 p s m _ meth c cX2_typeOfLambda 7 (some (.object "PureHouse$Node")) := ⟨B.exec, B.bytes, B.returns, hml, findClass_of_methodNamed B.named, fun w h => hts w (List.mem_cons_of_mem _ h), B.notSynchronized, hK⟩
  have hnh := cc_nh B (hts _ List.mem_cons_self)
  rw [lg_entry_eq]
  obtain ⟨ls, hls, hl⟩ := cl_ent [cR v x0, cR v x1, cR v x2, .int (rI x3), cR v x4] 7 (cl_1r (cl_1r (cl_1r (cl_1i (cl_1r cl_10))))) (Nat.le_of_ble_eq_true rfl)
  rw [hls]
  exact pw_X2_typeOfLambda_0 hbd hR htr hd5 hB hnh σ x0 x1 x2 x3 x4 ix0 ix1 ix2 ix3 ix4 hf _ _ _ _ _ (cw_W0 hM) (cl_sub hl [0, 1, 2, 3, 4] rfl)

set_option maxHeartbeats 4000000 in
set_option maxRecDepth 100000 in
theorem pw_X2_typeOfProduct_0 {v : cwE} {bd : cBd} {p : Program} {l : Launch} {e : Env} {s : State} {m : MethodId} {args : Array Value} {below : List Frame} {meth : Method} {c : Code} {d : Nat} {rec : Nat → CS → List Int → CO} {σ0 σ' : CS} {kd : Nat} {r : Int} (hbd : bd = cw_bd v) (hR : cw_Rec l v d rec) (htr : l.stackTraces = false) (hd5 : 5 ≤ d) (B : cw_B v RX2 p s m args meth c cX2_typeOfProduct 5 (some (.object "PureHouse$Node"))) (hnh : ∀ x ∈ c.exceptionTable.toList, False) : ∀ (σ : CS) (x0 x1 x2 x3 : Int), inR x0 → inR x1 → inR x2 → inR x3 → pc_X2_typeOfProduct_0 rec bd σ x0 x1 x2 x3 = some (σ', kd, r) → ∀ (H : Heap) (locs : List Loc) (cells slots : Nat) (ls : Array Slot), cw_W v s σ0 σ H locs cells slots → cl_has ls 5 [(0, cR v x0), (1, cR v x1), (2, .int (rI x2)), (3, .int (rI x3))] → W p l e (cw_rm v (d + 1) σ0) s m args below meth c H locs cells slots (cw_Z below v σ0 σ' kd (some (cR v r)) args s) (F0 m 0 ls []) := by
  subst hbd
  obtain ⟨hx, hb, hr, hml, hown, hts, hlk, hK⟩ := id B
  intro σ x0 x1 x2 x3 ix0 ix1 ix2 ix3 hf H locs cells slots ls hw hl
  unfold pc_X2_typeOfProduct_0 at hf
  refine cl_aload_n hx hb dX2_typeOfProduct_0 rfl (lv_at hl.1 0 rfl) ?_
  refine lv_iload_n hx hb dX2_typeOfProduct_1 rfl (lv_at hl.1 2 rfl) ?_
  refine lv_iload_n hx hb dX2_typeOfProduct_2 rfl (lv_at hl.1 3 rfl) ?_
  refine cl_aload_n hx hb dX2_typeOfProduct_3 rfl (lv_at hl.1 1 rfl) ?_
  obtain ⟨qσ1, hf⟩ := cc_t_s hf
  obtain ⟨σ1, kv2, z3, hσ1, hf⟩ := cc_cl_s hf
  obtain ⟨iz3, mσ1⟩ := hR 69 σ [x0, x2, x3, x1] σ1 kv2 z3 hσ1
  have mσ1 : cw_Met l v yX2_neededRule cX2_neededRule 5 (some .int) d [cR v x0, .int (rI x2), .int (rI x3), cR v x1] σ σ1 kv2 (some (.int (rI z3))) := mσ1 ix0 ix2 ix3 ix1
  refine cw_cv (b := x0) (t := 3) (n := 3) (rest := []) (As := [.int (rI x2), .int (rI x3), cR v x1]) B mσ1 qσ1 ⟨by decide, by decide⟩ cgo_yX2_neededRule cml_X2_173 cin_yX2_neededRule cse_yX2_neededRule (by decide +kernel) (by decide) rfl hl.1.1 (Nat.le_of_ble_eq_true rfl) dX2_typeOfProduct_4 rfl hw (fun h0 H locs cells slots hw => ?_) (fun h0 H locs cells slots q ce hw h1 h2 h3 => ?_)
  · rcases hf with ⟨-, hf⟩ | ⟨hk, -⟩
    · skip
      refine cl_istore (lv' := [(4, .int (rI z3)), (0, cR v x0), (1, cR v x1), (2, .int (rI x2)), (3, .int (rI x3))]) hx hb dX2_typeOfProduct_7 hl (by decide) rfl (fun ls hl => ?_)
      refine cl_aload_n hx hb dX2_typeOfProduct_9 rfl (lv_at hl.1 2 rfl) ?_
      refine lv_iload_n hx hb dX2_typeOfProduct_10 rfl (lv_at hl.1 3 rfl) ?_
      refine lv_iload_n hx hb dX2_typeOfProduct_11 rfl (lv_at hl.1 4 rfl) ?_
      obtain ⟨qσ4, hf⟩ := cc_t_s hf
      obtain ⟨σ4, kv5, z6, hσ4, hf⟩ := cc_cl_s hf
      obtain ⟨iz6, mσ4⟩ := hR 106 σ1 [x1, x2, x3] σ4 kv5 z6 hσ4
      have mσ4 : cw_Met l v yX6_keepSorts cX6_keepSorts 3 none d [cR v x1, .int (rI x2), .int (rI x3)] σ1 σ4 kv5 none := mσ4 ix1 ix2 ix3
      refine cw_cv (b := x1) (t := 7) (n := 2) (rest := []) (As := [.int (rI x2), .int (rI x3)]) B mσ4 qσ4 ⟨by decide, by decide⟩ cgo_yX6_keepSorts cml_X2_177 cin_yX6_keepSorts cse_yX6_keepSorts (by decide +kernel) (by decide) rfl hl.1.1 (Nat.le_of_ble_eq_true rfl) dX2_typeOfProduct_12 rfl hw (fun h0 H locs cells slots hw => ?_) (fun h0 H locs cells slots q ce hw h1 h2 h3 => ?_)
      · rcases hf with ⟨-, hf⟩ | ⟨hk, -⟩
        · skip
          refine cl_aload_n hx hb dX2_typeOfProduct_15 rfl (lv_at hl.1 1 rfl) ?_
          refine cl_aload_n hx hb dX2_typeOfProduct_16 rfl (lv_at hl.1 1 rfl) ?_
          obtain ⟨z7, ez7, iz7, rz7, hf⟩ := cc_g_s hw hf
          refine cw_get (val := cR v z7) B hw rz7 ⟨by decide, by decide⟩ (by decide) cwi_3 cfl_X2_19 ez7 rfl dX2_typeOfProduct_17 ?_
          refine lv_iload hx hb dX2_typeOfProduct_20 (lv_at hl.1 0 rfl) ?_
          obtain ⟨qσ8, hf⟩ := cc_t_s hf
          obtain ⟨σ8, kv9, z10, hσ8, hf⟩ := cc_cl_s hf
          obtain ⟨iz10, mσ8⟩ := hR 17 σ4 [z7, z3] σ8 kv9 z10 hσ8
          have mσ8 : cw_Met l v yX0_axiomOf cX0_axiomOf 2 (some .int) d [cR v z7, .int (rI z3)] σ4 σ8 kv9 (some (.int (rI z10))) := mσ8 iz7 iz3
          refine cw_cv (b := z7) (t := 1) (n := 1) (rest := [cR v x0]) (As := [.int (rI z3)]) B mσ8 qσ8 ⟨by decide, by decide⟩ cgo_yX0_axiomOf cml_X2_163 cin_yX0_axiomOf cse_yX0_axiomOf (by decide +kernel) (by decide) rfl hl.1.1 (cl_cs (cl_1r cl_10) (Nat.le_of_ble_eq_true rfl)) dX2_typeOfProduct_22 rfl hw (fun h0 H locs cells slots hw => ?_) (fun h0 H locs cells slots q ce hw h1 h2 h3 => ?_)
          · rcases hf with ⟨-, hf⟩ | ⟨hk, -⟩
            · skip
              obtain ⟨σ11, eσ11, rσ11, hf⟩ := cc_p_s hf
              refine cw_put B hw rσ11 cwt_3 (by decide) rfl cfl_X2_9 iz10 eσ11 rfl (cw_fv_n rfl rfl) dX2_typeOfProduct_25 (fun H locs hw => ?_)
              obtain ⟨σ12, z13, eσ12, ez13, iz13, rσ12, hf⟩ := cc_n_s hf
              refine cw_new B hw cwt_7 rfl cwd_7 cnl_X2_40 cni_7 cnz_7 rσ12 eσ12 ez13 dX2_typeOfProduct_28 (fun H hw => ?_)
              refine lv_dup hx hb dX2_typeOfProduct_31 (cR_cat _) ?_
              refine lv_iconst (v := rI 1) hx hb dX2_typeOfProduct_32 rfl ?_
              refine lv_iload hx hb dX2_typeOfProduct_33 (lv_at hl.1 0 rfl) ?_
              obtain ⟨qσ14, hf⟩ := cc_t_s hf
              obtain ⟨σ14, z16, hσ14, hf⟩ := cc_ci_s hf
              obtain ⟨iz16, mσ14⟩ := hR 105 σ12 [z13, 1, z3] σ14 0 z16 hσ14
              have mσ14 : cw_Met l v yX6_init cX6_init 3 none d [cR v z13, .int (rI 1), .int (rI z3)] σ12 σ14 0 none := mσ14 iz13 ⟨by decide, by decide⟩ iz3
              refine cw_ci (b := z13) (n := 2) (rest := [cR v z13]) (As := [.int (rI 1), .int (rI z3)]) B mσ14 qσ14.1 rfl cgo_yX6_init cml_X2_167 cin_yX6_init (by decide +kernel) (by decide) rfl hl.1.1 (cl_cs (cl_1r cl_10) (Nat.le_of_ble_eq_true rfl)) dX2_typeOfProduct_35 rfl hw (fun H locs cells slots hw => ?_)
              exact cw_reta B hf hw dX2_typeOfProduct_38
            · exact absurd h0 hk
          · rcases hf with ⟨hk, -⟩ | ⟨-, hf⟩
            · exact absurd hk h0
            · cases hf
              exact cw_xout B hnh h0 hw h1 h2 h3
        · exact absurd h0 hk
      · rcases hf with ⟨hk, -⟩ | ⟨-, hf⟩
        · exact absurd hk h0
        · cases hf
          exact cw_xout B hnh h0 hw h1 h2 h3
    · exact absurd h0 hk
  · rcases hf with ⟨hk, -⟩ | ⟨-, hf⟩
    · exact absurd hk h0
    · cases hf
      exact cw_xout B hnh h0 hw h1 h2 h3

set_option maxHeartbeats 4000000 in
set_option maxRecDepth 100000 in
theorem pm_X2_typeOfProduct {v : cwE} {bd : cBd} {l : Launch} {d : Nat} {rec : Nat → CS → List Int → CO} (hbd : bd = cw_bd v) (hR : cw_Rec l v d rec) (htr : l.stackTraces = false) (hd5 : 5 ≤ d) (σ σ' : CS) (x0 x1 x2 x3 : Int) (kd : Nat) (r : Int) (ix0 : inR x0) (ix1 : inR x1) (ix2 : inR x2) (ix3 : inR x3) (hf : pc_X2_typeOfProduct_0 rec bd σ x0 x1 x2 x3 = some (σ', kd, r)) : cw_Met l v yX2_typeOfProduct cX2_typeOfProduct 5 (some (.object "PureHouse$Node")) (d + 1) [cR v x0, cR v x1, .int (rI x2), .int (rI x3)] σ σ' kd (some (cR v r)) := by
  refine cw_ofW (by decide +kernel) ?_
  intro p e s m args below meth c s₁ B hml hv
  obtain ⟨rfl, hM, hK⟩ := hv
  have hts := atoms_spec (ws := Cond.code yX2_typeOfProduct cX2_typeOfProduct 5 (some (.object "PureHouse$Node")) :: cw_bw) B.pre
  have hB : cw_B v RX2 p s m _ meth c cX2_typeOfProduct 5 (some (.object "PureHouse$Node")) := ⟨B.exec, B.bytes, B.returns, hml, findClass_of_methodNamed B.named, fun w h => hts w (List.mem_cons_of_mem _ h), B.notSynchronized, hK⟩
  have hnh := cc_nh B (hts _ List.mem_cons_self)
  rw [lg_entry_eq]
  obtain ⟨ls, hls, hl⟩ := cl_ent [cR v x0, cR v x1, .int (rI x2), .int (rI x3)] 5 (cl_1r (cl_1r (cl_1i (cl_1i cl_10)))) (Nat.le_of_ble_eq_true rfl)
  rw [hls]
  exact pw_X2_typeOfProduct_0 hbd hR htr hd5 hB hnh σ x0 x1 x2 x3 ix0 ix1 ix2 ix3 hf _ _ _ _ _ (cw_W0 hM) (cl_sub hl [0, 1, 2, 3] rfl)

set_option maxHeartbeats 4000000 in
set_option maxRecDepth 100000 in
theorem pw_X3_find_2 {v : cwE} {bd : cBd} {p : Program} {l : Launch} {e : Env} {s : State} {m : MethodId} {args : Array Value} {below : List Frame} {meth : Method} {c : Code} {d : Nat} {rec : Nat → CS → List Int → CO} {σ0 σ' : CS} {kd : Nat} {r : Int} (hbd : bd = cw_bd v) (hR : cw_Rec l v d rec) (htr : l.stackTraces = false) (hd5 : 5 ≤ d) (B : cw_B v RX3 p s m args meth c cX3_find 3 (some (.object "PureHouse$Link"))) (hnh : ∀ x ∈ c.exceptionTable.toList, False) : ∀ (n : Nat) (σ : CS) (x0 x2 : Int), inR x0 → inR x2 → pc_X3_find_2 rec bd n σ x0 x2 = some (σ', kd, r) → ∀ (H : Heap) (locs : List Loc) (cells slots : Nat) (ls : Array Slot), cw_W v s σ0 σ H locs cells slots → cl_has ls 3 [(0, .int (rI x0)), (2, cR v x2)] → W p l e (cw_rm v (d + 1) σ0) s m args below meth c H locs cells slots (cw_Z below v σ0 σ' kd (some (cR v r)) args s) (F0 m 2 ls []) := by
  subst hbd
  obtain ⟨hx, hb, hr, hml, hown, hts, hlk, hK⟩ := id B
  intro n
  induction n with
  | zero => intro σ x0 x2 ix0 ix2 hf; cases hf
  | succ n ih =>
    intro σ x0 x2 ix0 ix2 hf H locs cells slots ls hw hl
    unfold pc_X3_find_2 at hf
    refine cl_aload_n hx hb dX3_find_2 rfl (lv_at hl.1 1 rfl) ?_
    refine cl_ifnull (x := x2) (tgt := 24) hx hb dX3_find_3 (by decide) (fun c1 => ?_) (fun c1 => ?_)
    · replace hf := cc_if_t hf c1
      refine cl_null (v := v) hx hb dX3_find_24 ?_
      exact cw_reta B hf hw dX3_find_25
    · replace hf := cc_if_f hf c1
      refine cl_aload_n hx hb dX3_find_6 rfl (lv_at hl.1 1 rfl) ?_
      obtain ⟨z2, ez2, iz2, rz2, hf⟩ := cc_g_s hw hf
      refine cw_get (val := .int (rI z2)) B hw rz2 ⟨by decide, by decide⟩ (by decide) cwi_4 cfl_X3_7 ez2 rfl dX3_find_7 ?_
      refine lv_iload_n hx hb dX3_find_10 rfl (lv_at hl.1 0 rfl) ?_
      refine rn_icmp_ne (a := z2) (b := x0) (tgt := 16) hx hb iz2 ix0 dX3_find_11 (by decide) (fun c3 => ?_) (fun c3 => ?_)
      · replace hf := cc_if_t hf c3
        refine cl_aload_n hx hb dX3_find_16 rfl (lv_at hl.1 1 rfl) ?_
        obtain ⟨z4, ez4, iz4, rz4, hf⟩ := cc_g_s hw hf
        refine cw_get (val := cR v z4) B hw rz4 ⟨by decide, by decide⟩ (by decide) cwi_4 cfl_X3_24 ez4 rfl dX3_find_17 ?_
        refine cl_astore_n (lv' := [(2, cR v z4), (0, .int (rI x0))]) hx hb dX3_find_20 rfl hl (by decide) rfl (fun ls hl => ?_)
        refine lv_goto (tgt := 2) hx hb dX3_find_21 (by decide) ?_
        exact ih σ x0 z4 ix0 iz4 hf _ _ _ _ _ hw (cl_sub hl [1, 0] rfl)
      · replace hf := cc_if_f hf c3
        refine cl_aload_n hx hb dX3_find_14 rfl (lv_at hl.1 1 rfl) ?_
        exact cw_reta B hf hw dX3_find_15

set_option maxHeartbeats 4000000 in
set_option maxRecDepth 100000 in
theorem pw_X3_find_0 {v : cwE} {bd : cBd} {p : Program} {l : Launch} {e : Env} {s : State} {m : MethodId} {args : Array Value} {below : List Frame} {meth : Method} {c : Code} {d : Nat} {rec : Nat → CS → List Int → CO} {σ0 σ' : CS} {kd : Nat} {r : Int} (hbd : bd = cw_bd v) (hR : cw_Rec l v d rec) (htr : l.stackTraces = false) (hd5 : 5 ≤ d) (B : cw_B v RX3 p s m args meth c cX3_find 3 (some (.object "PureHouse$Link"))) (hnh : ∀ x ∈ c.exceptionTable.toList, False) : ∀ (σ : CS) (x0 x1 : Int), inR x0 → inR x1 → pc_X3_find_0 rec bd σ x0 x1 = some (σ', kd, r) → ∀ (H : Heap) (locs : List Loc) (cells slots : Nat) (ls : Array Slot), cw_W v s σ0 σ H locs cells slots → cl_has ls 3 [(0, .int (rI x0)), (1, cR v x1)] → W p l e (cw_rm v (d + 1) σ0) s m args below meth c H locs cells slots (cw_Z below v σ0 σ' kd (some (cR v r)) args s) (F0 m 0 ls []) := by
  subst hbd
  obtain ⟨hx, hb, hr, hml, hown, hts, hlk, hK⟩ := id B
  intro σ x0 x1 ix0 ix1 hf H locs cells slots ls hw hl
  unfold pc_X3_find_0 at hf
  refine cl_aload_n hx hb dX3_find_0 rfl (lv_at hl.1 1 rfl) ?_
  refine cl_astore_n (lv' := [(2, cR v x1), (0, .int (rI x0)), (1, cR v x1)]) hx hb dX3_find_1 rfl hl (by decide) rfl (fun ls hl => ?_)
  exact pw_X3_find_2 rfl hR htr hd5 B hnh 2000000 σ x0 x1 ix0 ix1 hf _ _ _ _ _ hw (cl_sub hl [1, 0] rfl)

set_option maxHeartbeats 4000000 in
set_option maxRecDepth 100000 in
theorem pm_X3_find {v : cwE} {bd : cBd} {l : Launch} {d : Nat} {rec : Nat → CS → List Int → CO} (hbd : bd = cw_bd v) (hR : cw_Rec l v d rec) (htr : l.stackTraces = false) (hd5 : 5 ≤ d) (σ σ' : CS) (x0 x1 : Int) (kd : Nat) (r : Int) (ix0 : inR x0) (ix1 : inR x1) (hf : pc_X3_find_0 rec bd σ x0 x1 = some (σ', kd, r)) : cw_Met l v yX3_find cX3_find 3 (some (.object "PureHouse$Link")) (d + 1) [.int (rI x0), cR v x1] σ σ' kd (some (cR v r)) := by
  refine cw_ofW (by decide +kernel) ?_
  intro p e s m args below meth c s₁ B hml hv
  obtain ⟨rfl, hM, hK⟩ := hv
  have hts := atoms_spec (ws := Cond.code yX3_find cX3_find 3 (some (.object "PureHouse$Link")) :: cw_bw) B.pre
  have hB : cw_B v RX3 p s m _ meth c cX3_find 3 (some (.object "PureHouse$Link")) := ⟨B.exec, B.bytes, B.returns, hml, findClass_of_methodNamed B.named, fun w h => hts w (List.mem_cons_of_mem _ h), B.notSynchronized, hK⟩
  have hnh := cc_nh B (hts _ List.mem_cons_self)
  rw [lg_entry_eq]
  obtain ⟨ls, hls, hl⟩ := cl_ent [.int (rI x0), cR v x1] 3 (cl_1i (cl_1r cl_10)) (Nat.le_of_ble_eq_true rfl)
  rw [hls]
  exact pw_X3_find_0 hbd hR htr hd5 hB hnh σ x0 x1 ix0 ix1 hf _ _ _ _ _ (cw_W0 hM) (cl_sub hl [0, 1] rfl)

set_option maxHeartbeats 4000000 in
set_option maxRecDepth 100000 in
theorem pw_X3_init_0 {v : cwE} {bd : cBd} {p : Program} {l : Launch} {e : Env} {s : State} {m : MethodId} {args : Array Value} {below : List Frame} {meth : Method} {c : Code} {d : Nat} {rec : Nat → CS → List Int → CO} {σ0 σ' : CS} {kd : Nat} {r : Int} (hbd : bd = cw_bd v) (hR : cw_Rec l v d rec) (htr : l.stackTraces = false) (hd5 : 5 ≤ d) (B : cw_B v RX3 p s m args meth c cX3_init 5 none) (hin : meth.name = "<init>") (hnh : ∀ x ∈ c.exceptionTable.toList, False) : ∀ (σ : CS) (x0 x1 x2 x3 x4 : Int), inR x0 → inR x1 → inR x2 → inR x3 → inR x4 → pc_X3_init_0 rec bd σ x0 x1 x2 x3 x4 = some (σ', kd, r) → ∀ (H : Heap) (locs : List Loc) (cells slots : Nat) (ls : Array Slot), cw_W v s σ0 σ H locs cells slots → cl_has ls 5 [(0, cR v x0), (1, .int (rI x1)), (2, cR v x2), (3, cR v x3), (4, cR v x4)] → W p l e (cw_rm v (d + 1) σ0) s m args below meth c H locs cells slots (cw_Z below v σ0 σ' kd none args s) (F0 m 0 ls []) := by
  subst hbd
  obtain ⟨hx, hb, hr, hml, hown, hts, hlk, hK⟩ := id B
  intro σ x0 x1 x2 x3 x4 ix0 ix1 ix2 ix3 ix4 hf H locs cells slots ls hw hl
  unfold pc_X3_init_0 at hf
  refine cl_aload_n hx hb dX3_init_0 rfl (lv_at hl.1 0 rfl) ?_
  obtain ⟨q0, hf⟩ := cc_t_s hf
  rw [cR_r q0.1]
  refine W.objInit hx hb hown (hts _ coi_X3_1) (hts _ coi2) (hts _ coi3) rfl (hl.1.1.trans hml.symm) rfl dX3_init_1 (by show 1 ≤ d + 1; omega) (by show _ + 12 ≤ 100 * (d + 1); simp [JFrame.monitorRoom]; omega) ?_
  refine cl_aload_n hx hb dX3_init_4 rfl (lv_at hl.1 0 rfl) ?_
  refine lv_iload_n hx hb dX3_init_5 rfl (lv_at hl.1 1 rfl) ?_
  obtain ⟨σ1, eσ1, rσ1, hf⟩ := cc_p_s hf
  refine cw_putF B hin hw rσ1 cwt_4 (by decide) rfl rfl rfl cfl_X3_7 ix1 eσ1 rfl (cw_fv_n rfl rfl) dX3_init_6 (fun H locs hw => ?_)
  refine cl_aload_n hx hb dX3_init_9 rfl (lv_at hl.1 0 rfl) ?_
  refine cl_aload_n hx hb dX3_init_10 rfl (lv_at hl.1 2 rfl) ?_
  obtain ⟨σ2, eσ2, rσ2, hf⟩ := cc_p_s hf
  refine cw_putF B hin hw rσ2 cwt_4 (by decide) rfl rfl rfl cfl_X3_13 ix2 eσ2 rfl (cw_fv_r rfl (Or.inl ⟨_, rfl⟩)) dX3_init_11 (fun H locs hw => ?_)
  refine cl_aload_n hx hb dX3_init_14 rfl (lv_at hl.1 0 rfl) ?_
  refine cl_aload_n hx hb dX3_init_15 rfl (lv_at hl.1 3 rfl) ?_
  obtain ⟨σ3, eσ3, rσ3, hf⟩ := cc_p_s hf
  refine cw_putF B hin hw rσ3 cwt_4 (by decide) rfl rfl rfl cfl_X3_17 ix3 eσ3 rfl (cw_fv_r rfl (Or.inl ⟨_, rfl⟩)) dX3_init_16 (fun H locs hw => ?_)
  refine cl_aload_n hx hb dX3_init_19 rfl (lv_at hl.1 0 rfl) ?_
  refine lv_iconst (v := rI 0) hx hb dX3_init_20 rfl ?_
  obtain ⟨σ4, eσ4, rσ4, hf⟩ := cc_p_s hf
  refine cw_putF B hin hw rσ4 cwt_4 (by decide) rfl rfl rfl cfl_X3_21 ⟨by decide, by decide⟩ eσ4 rfl (cw_fv_n rfl rfl) dX3_init_21 (fun H locs hw => ?_)
  refine cl_aload_n hx hb dX3_init_24 rfl (lv_at hl.1 0 rfl) ?_
  refine cl_aload hx hb dX3_init_25 (lv_at hl.1 4 rfl) ?_
  obtain ⟨σ5, eσ5, rσ5, hf⟩ := cc_p_s hf
  refine cw_putF B hin hw rσ5 cwt_4 (by decide) rfl rfl rfl cfl_X3_24 ix4 eσ5 rfl (cw_fv_r rfl (Or.inl ⟨_, rfl⟩)) dX3_init_27 (fun H locs hw => ?_)
  exact cw_retv B hf hw dX3_init_30

set_option maxHeartbeats 4000000 in
set_option maxRecDepth 100000 in
theorem pm_X3_init {v : cwE} {bd : cBd} {l : Launch} {d : Nat} {rec : Nat → CS → List Int → CO} (hbd : bd = cw_bd v) (hR : cw_Rec l v d rec) (htr : l.stackTraces = false) (hd5 : 5 ≤ d) (σ σ' : CS) (x0 x1 x2 x3 x4 : Int) (kd : Nat) (r : Int) (ix0 : inR x0) (ix1 : inR x1) (ix2 : inR x2) (ix3 : inR x3) (ix4 : inR x4) (hf : pc_X3_init_0 rec bd σ x0 x1 x2 x3 x4 = some (σ', kd, r)) : cw_Met l v yX3_init cX3_init 5 none (d + 1) [cR v x0, .int (rI x1), cR v x2, cR v x3, cR v x4] σ σ' kd none := by
  refine cw_ofW (by decide +kernel) ?_
  intro p e s m args below meth c s₁ B hml hv
  obtain ⟨rfl, hM, hK⟩ := hv
  have hts := atoms_spec (ws := Cond.code yX3_init cX3_init 5 none :: cw_bw) B.pre
  have hB : cw_B v RX3 p s m _ meth c cX3_init 5 none := ⟨B.exec, B.bytes, B.returns, hml, findClass_of_methodNamed B.named, fun w h => hts w (List.mem_cons_of_mem _ h), B.notSynchronized, hK⟩
  have hnh := cc_nh B (hts _ List.mem_cons_self)
  rw [lg_entry_eq]
  obtain ⟨ls, hls, hl⟩ := cl_ent [cR v x0, .int (rI x1), cR v x2, cR v x3, cR v x4] 5 (cl_1r (cl_1i (cl_1r (cl_1r (cl_1r cl_10))))) (Nat.le_of_ble_eq_true rfl)
  rw [hls]
  exact pw_X3_init_0 hbd hR htr hd5 hB (name_of_methodNamed B.named B.method).1 hnh σ x0 x1 x2 x3 x4 ix0 ix1 ix2 ix3 ix4 hf _ _ _ _ _ (cw_W0 hM) (cl_sub hl [0, 1, 2, 3, 4] rfl)

set_option maxHeartbeats 4000000 in
set_option maxRecDepth 100000 in
theorem pw_X3_init__0 {v : cwE} {bd : cBd} {p : Program} {l : Launch} {e : Env} {s : State} {m : MethodId} {args : Array Value} {below : List Frame} {meth : Method} {c : Code} {d : Nat} {rec : Nat → CS → List Int → CO} {σ0 σ' : CS} {kd : Nat} {r : Int} (hbd : bd = cw_bd v) (hR : cw_Rec l v d rec) (htr : l.stackTraces = false) (hd5 : 5 ≤ d) (B : cw_B v RX3 p s m args meth c cX3_init_ 4 none) (hin : meth.name = "<init>") (hnh : ∀ x ∈ c.exceptionTable.toList, False) : ∀ (σ : CS) (x0 x1 x2 x3 : Int), inR x0 → inR x1 → inR x2 → inR x3 → pc_X3_init__0 rec bd σ x0 x1 x2 x3 = some (σ', kd, r) → ∀ (H : Heap) (locs : List Loc) (cells slots : Nat) (ls : Array Slot), cw_W v s σ0 σ H locs cells slots → cl_has ls 4 [(0, cR v x0), (1, .int (rI x1)), (2, .int (rI x2)), (3, cR v x3)] → W p l e (cw_rm v (d + 1) σ0) s m args below meth c H locs cells slots (cw_Z below v σ0 σ' kd none args s) (F0 m 0 ls []) := by
  subst hbd
  obtain ⟨hx, hb, hr, hml, hown, hts, hlk, hK⟩ := id B
  intro σ x0 x1 x2 x3 ix0 ix1 ix2 ix3 hf H locs cells slots ls hw hl
  unfold pc_X3_init__0 at hf
  refine cl_aload_n hx hb dX3_init__0 rfl (lv_at hl.1 0 rfl) ?_
  obtain ⟨q0, hf⟩ := cc_t_s hf
  rw [cR_r q0.1]
  refine W.objInit hx hb hown (hts _ coi_X3_1) (hts _ coi2) (hts _ coi3) rfl (hl.1.1.trans hml.symm) rfl dX3_init__1 (by show 1 ≤ d + 1; omega) (by show _ + 12 ≤ 100 * (d + 1); simp [JFrame.monitorRoom]; omega) ?_
  refine cl_aload_n hx hb dX3_init__4 rfl (lv_at hl.1 0 rfl) ?_
  refine lv_iload_n hx hb dX3_init__5 rfl (lv_at hl.1 1 rfl) ?_
  obtain ⟨σ1, eσ1, rσ1, hf⟩ := cc_p_s hf
  refine cw_putF B hin hw rσ1 cwt_4 (by decide) rfl rfl rfl cfl_X3_7 ix1 eσ1 rfl (cw_fv_n rfl rfl) dX3_init__6 (fun H locs hw => ?_)
  refine cl_aload_n hx hb dX3_init__9 rfl (lv_at hl.1 0 rfl) ?_
  refine cl_null (v := v) hx hb dX3_init__10 ?_
  obtain ⟨σ2, eσ2, rσ2, hf⟩ := cc_p_s hf
  refine cw_putF B hin hw rσ2 cwt_4 (by decide) rfl rfl rfl cfl_X3_13 ⟨by decide, by decide⟩ eσ2 rfl (cw_fv_r rfl (Or.inl ⟨_, rfl⟩)) dX3_init__11 (fun H locs hw => ?_)
  refine cl_aload_n hx hb dX3_init__14 rfl (lv_at hl.1 0 rfl) ?_
  refine cl_null (v := v) hx hb dX3_init__15 ?_
  obtain ⟨σ3, eσ3, rσ3, hf⟩ := cc_p_s hf
  refine cw_putF B hin hw rσ3 cwt_4 (by decide) rfl rfl rfl cfl_X3_17 ⟨by decide, by decide⟩ eσ3 rfl (cw_fv_r rfl (Or.inl ⟨_, rfl⟩)) dX3_init__16 (fun H locs hw => ?_)
  refine cl_aload_n hx hb dX3_init__19 rfl (lv_at hl.1 0 rfl) ?_
  refine lv_iconst (v := rI (-1)) hx hb dX3_init__20 rfl ?_
  refine lv_iload_n hx hb dX3_init__21 rfl (lv_at hl.1 2 rfl) ?_
  obtain ⟨z4, ez4, iz4, hf⟩ := cc_ck_s hf
  refine rn_sub hx hb ez4 dX3_init__22 ?_
  obtain ⟨σ5, eσ5, rσ5, hf⟩ := cc_p_s hf
  refine cw_putF B hin hw rσ5 cwt_4 (by decide) rfl rfl rfl cfl_X3_21 iz4 eσ5 rfl (cw_fv_n rfl rfl) dX3_init__23 (fun H locs hw => ?_)
  refine cl_aload_n hx hb dX3_init__26 rfl (lv_at hl.1 0 rfl) ?_
  refine cl_aload_n hx hb dX3_init__27 rfl (lv_at hl.1 3 rfl) ?_
  obtain ⟨σ6, eσ6, rσ6, hf⟩ := cc_p_s hf
  refine cw_putF B hin hw rσ6 cwt_4 (by decide) rfl rfl rfl cfl_X3_24 ix3 eσ6 rfl (cw_fv_r rfl (Or.inl ⟨_, rfl⟩)) dX3_init__28 (fun H locs hw => ?_)
  exact cw_retv B hf hw dX3_init__31

set_option maxHeartbeats 4000000 in
set_option maxRecDepth 100000 in
theorem pm_X3_init_ {v : cwE} {bd : cBd} {l : Launch} {d : Nat} {rec : Nat → CS → List Int → CO} (hbd : bd = cw_bd v) (hR : cw_Rec l v d rec) (htr : l.stackTraces = false) (hd5 : 5 ≤ d) (σ σ' : CS) (x0 x1 x2 x3 : Int) (kd : Nat) (r : Int) (ix0 : inR x0) (ix1 : inR x1) (ix2 : inR x2) (ix3 : inR x3) (hf : pc_X3_init__0 rec bd σ x0 x1 x2 x3 = some (σ', kd, r)) : cw_Met l v yX3_init_ cX3_init_ 4 none (d + 1) [cR v x0, .int (rI x1), .int (rI x2), cR v x3] σ σ' kd none := by
  refine cw_ofW (by decide +kernel) ?_
  intro p e s m args below meth c s₁ B hml hv
  obtain ⟨rfl, hM, hK⟩ := hv
  have hts := atoms_spec (ws := Cond.code yX3_init_ cX3_init_ 4 none :: cw_bw) B.pre
  have hB : cw_B v RX3 p s m _ meth c cX3_init_ 4 none := ⟨B.exec, B.bytes, B.returns, hml, findClass_of_methodNamed B.named, fun w h => hts w (List.mem_cons_of_mem _ h), B.notSynchronized, hK⟩
  have hnh := cc_nh B (hts _ List.mem_cons_self)
  rw [lg_entry_eq]
  obtain ⟨ls, hls, hl⟩ := cl_ent [cR v x0, .int (rI x1), .int (rI x2), cR v x3] 4 (cl_1r (cl_1i (cl_1i (cl_1r cl_10)))) (Nat.le_of_ble_eq_true rfl)
  rw [hls]
  exact pw_X3_init__0 hbd hR htr hd5 hB (name_of_methodNamed B.named B.method).1 hnh σ x0 x1 x2 x3 ix0 ix1 ix2 ix3 hf _ _ _ _ _ (cw_W0 hM) (cl_sub hl [0, 1, 2, 3] rfl)

set_option maxHeartbeats 4000000 in
set_option maxRecDepth 100000 in
theorem pw_X3_lengthOf_4 {v : cwE} {bd : cBd} {p : Program} {l : Launch} {e : Env} {s : State} {m : MethodId} {args : Array Value} {below : List Frame} {meth : Method} {c : Code} {d : Nat} {rec : Nat → CS → List Int → CO} {σ0 σ' : CS} {kd : Nat} {r : Int} (hbd : bd = cw_bd v) (hR : cw_Rec l v d rec) (htr : l.stackTraces = false) (hd5 : 5 ≤ d) (B : cw_B v RX3 p s m args meth c cX3_lengthOf 3 (some .int)) (hnh : ∀ x ∈ c.exceptionTable.toList, False) : ∀ (n : Nat) (σ : CS) (x1 x2 : Int), inR x1 → inR x2 → pc_X3_lengthOf_4 rec bd n σ x1 x2 = some (σ', kd, r) → ∀ (H : Heap) (locs : List Loc) (cells slots : Nat) (ls : Array Slot), cw_W v s σ0 σ H locs cells slots → cl_has ls 3 [(1, .int (rI x1)), (2, cR v x2)] → W p l e (cw_rm v (d + 1) σ0) s m args below meth c H locs cells slots (cw_Z below v σ0 σ' kd (some (.int (rI r))) args s) (F0 m 4 ls []) := by
  subst hbd
  obtain ⟨hx, hb, hr, hml, hown, hts, hlk, hK⟩ := id B
  intro n
  induction n with
  | zero => intro σ x1 x2 ix1 ix2 hf; cases hf
  | succ n ih =>
    intro σ x1 x2 ix1 ix2 hf H locs cells slots ls hw hl
    unfold pc_X3_lengthOf_4 at hf
    refine cl_aload_n hx hb dX3_lengthOf_4 rfl (lv_at hl.1 1 rfl) ?_
    refine cl_ifnull (x := x2) (tgt := 19) hx hb dX3_lengthOf_5 (by decide) (fun c1 => ?_) (fun c1 => ?_)
    · replace hf := cc_if_t hf c1
      refine lv_iload_n hx hb dX3_lengthOf_19 rfl (lv_at hl.1 0 rfl) ?_
      exact cw_reti B hf hw dX3_lengthOf_20
    · replace hf := cc_if_f hf c1
      obtain ⟨z2, ez2, iz2, hf⟩ := cc_ck_s hf
      refine cl_iinc (v := rI z2) (lv' := [(1, .int (rI z2)), (2, cR v x2)]) hx hb dX3_lengthOf_8 hl (k := 0) rfl (by rw [ez2]; exact rI_add _ _) (by decide) rfl (fun ls hl => ?_)
      refine cl_aload_n hx hb dX3_lengthOf_11 rfl (lv_at hl.1 1 rfl) ?_
      obtain ⟨z3, ez3, iz3, rz3, hf⟩ := cc_g_s hw hf
      refine cw_get (val := cR v z3) B hw rz3 ⟨by decide, by decide⟩ (by decide) cwi_4 cfl_X3_24 ez3 rfl dX3_lengthOf_12 ?_
      refine cl_astore_n (lv' := [(2, cR v z3), (1, .int (rI z2))]) hx hb dX3_lengthOf_15 rfl hl (by decide) rfl (fun ls hl => ?_)
      refine lv_goto (tgt := 4) hx hb dX3_lengthOf_16 (by decide) ?_
      exact ih σ z2 z3 iz2 iz3 hf _ _ _ _ _ hw (cl_sub hl [1, 0] rfl)

set_option maxHeartbeats 4000000 in
set_option maxRecDepth 100000 in
theorem pw_X3_lengthOf_0 {v : cwE} {bd : cBd} {p : Program} {l : Launch} {e : Env} {s : State} {m : MethodId} {args : Array Value} {below : List Frame} {meth : Method} {c : Code} {d : Nat} {rec : Nat → CS → List Int → CO} {σ0 σ' : CS} {kd : Nat} {r : Int} (hbd : bd = cw_bd v) (hR : cw_Rec l v d rec) (htr : l.stackTraces = false) (hd5 : 5 ≤ d) (B : cw_B v RX3 p s m args meth c cX3_lengthOf 3 (some .int)) (hnh : ∀ x ∈ c.exceptionTable.toList, False) : ∀ (σ : CS) (x0 : Int), inR x0 → pc_X3_lengthOf_0 rec bd σ x0 = some (σ', kd, r) → ∀ (H : Heap) (locs : List Loc) (cells slots : Nat) (ls : Array Slot), cw_W v s σ0 σ H locs cells slots → cl_has ls 3 [(0, cR v x0)] → W p l e (cw_rm v (d + 1) σ0) s m args below meth c H locs cells slots (cw_Z below v σ0 σ' kd (some (.int (rI r))) args s) (F0 m 0 ls []) := by
  subst hbd
  obtain ⟨hx, hb, hr, hml, hown, hts, hlk, hK⟩ := id B
  intro σ x0 ix0 hf H locs cells slots ls hw hl
  unfold pc_X3_lengthOf_0 at hf
  refine lv_iconst (v := rI 0) hx hb dX3_lengthOf_0 rfl ?_
  refine cl_istore_n (lv' := [(1, .int (rI 0)), (0, cR v x0)]) hx hb dX3_lengthOf_1 rfl hl (by decide) rfl (fun ls hl => ?_)
  refine cl_aload_n hx hb dX3_lengthOf_2 rfl (lv_at hl.1 1 rfl) ?_
  refine cl_astore_n (lv' := [(2, cR v x0), (1, .int (rI 0)), (0, cR v x0)]) hx hb dX3_lengthOf_3 rfl hl (by decide) rfl (fun ls hl => ?_)
  exact pw_X3_lengthOf_4 rfl hR htr hd5 B hnh 2000000 σ 0 x0 ⟨by decide, by decide⟩ ix0 hf _ _ _ _ _ hw (cl_sub hl [1, 0] rfl)

