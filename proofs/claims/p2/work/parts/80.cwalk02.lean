set_option maxHeartbeats 4000000 in
set_option maxRecDepth 100000 in
theorem pm_X11_init {v : cwE} {bd : cBd} {l : Launch} {d : Nat} {rec : Nat → CS → List Int → CO} (hbd : bd = cw_bd v) (hR : cw_Rec l v d rec) (htr : l.stackTraces = false) (hd5 : 5 ≤ d) (σ σ' : CS) (x0 : Int) (kd : Nat) (r : Int) (ix0 : inR x0) (hf : pc_X11_init_0 rec bd σ x0 = some (σ', kd, r)) : cw_Met l v yX11_init cX11_init 1 none (d + 1) [cR v x0] σ σ' kd none := by
  refine cw_ofW (by decide +kernel) ?_
  intro p e s m args below meth c s₁ B hml hv
  obtain ⟨rfl, hM, hK⟩ := hv
  have hts := atoms_spec (ws := Cond.code yX11_init cX11_init 1 none :: cw_bw) B.pre
  have hB : cw_B v RX11 p s m _ meth c cX11_init 1 none := ⟨B.exec, B.bytes, B.returns, hml, findClass_of_methodNamed B.named, fun w h => hts w (List.mem_cons_of_mem _ h), B.notSynchronized, hK⟩
  have hnh := cc_nh B (hts _ List.mem_cons_self)
  rw [lg_entry_eq]
  obtain ⟨ls, hls, hl⟩ := cl_ent [cR v x0] 1 (cl_1r cl_10) (Nat.le_of_ble_eq_true rfl)
  rw [hls]
  exact pw_X11_init_0 hbd hR htr hd5 hB (name_of_methodNamed B.named B.method).1 hnh σ x0 ix0 hf _ _ _ _ _ (cw_W0 hM) (cl_sub hl [0] rfl)

set_option maxHeartbeats 4000000 in
set_option maxRecDepth 100000 in
theorem pw_X11_limit_12 {v : cwE} {bd : cBd} {p : Program} {l : Launch} {e : Env} {s : State} {m : MethodId} {args : Array Value} {below : List Frame} {meth : Method} {c : Code} {d : Nat} {rec : Nat → CS → List Int → CO} {σ0 σ' : CS} {kd : Nat} {r : Int} (hbd : bd = cw_bd v) (hR : cw_Rec l v d rec) (htr : l.stackTraces = false) (hd5 : 5 ≤ d) (B : cw_B v RX11 p s m args meth c cX11_limit 3 (some .int)) (hnh : ∀ x ∈ c.exceptionTable.toList, False) : ∀ (σ : CS), pc_X11_limit_12 rec bd σ = some (σ', kd, r) → ∀ (H : Heap) (locs : List Loc) (cells slots : Nat) (ls : Array Slot), cw_W v s σ0 σ H locs cells slots → cl_has ls 3 [] → W p l e (cw_rm v (d + 1) σ0) s m args below meth c H locs cells slots (cw_Z below v σ0 σ' kd (some (.int (rI r))) args s) (F0 m 12 ls []) := by
  subst hbd
  obtain ⟨hx, hb, hr, hml, hown, hts, hlk, hK⟩ := id B
  intro σ hf H locs cells slots ls hw hl
  unfold pc_X11_limit_12 at hf
  obtain ⟨hy, hm⟩ := cc_x_s hf
  obtain ⟨hy1, hy2⟩ := Prod.mk.inj hy
  obtain ⟨hy2, hy3⟩ := Prod.mk.inj hy2
  subst hy2
  refine cw_throw (rest := []) B hnh htr hw (by decide) (by decide +kernel) cxc_X11_74 cxi_2 (cw_hat cxa_X11_76 (by decide +kernel) hts hK.1) (List.all_eq_true.mp cxg_X11_76) hd5 hm hy1 hl.1.1 (Nat.le_of_ble_eq_true rfl) dX11_limit_12 dX11_limit_15 dX11_limit_16 dX11_limit_19

set_option maxHeartbeats 4000000 in
set_option maxRecDepth 100000 in
theorem pw_X11_limit_0 {v : cwE} {bd : cBd} {p : Program} {l : Launch} {e : Env} {s : State} {m : MethodId} {args : Array Value} {below : List Frame} {meth : Method} {c : Code} {d : Nat} {rec : Nat → CS → List Int → CO} {σ0 σ' : CS} {kd : Nat} {r : Int} (hbd : bd = cw_bd v) (hR : cw_Rec l v d rec) (htr : l.stackTraces = false) (hd5 : 5 ≤ d) (B : cw_B v RX11 p s m args meth c cX11_limit 3 (some .int)) (hnh : ∀ x ∈ c.exceptionTable.toList, False) : ∀ (σ : CS) (x0 x1 : Int), inR x0 → inR x1 → pc_X11_limit_0 rec bd σ x0 x1 = some (σ', kd, r) → ∀ (H : Heap) (locs : List Loc) (cells slots : Nat) (ls : Array Slot), cw_W v s σ0 σ H locs cells slots → cl_has ls 3 [(0, cR v x0), (1, .int (rI x1))] → W p l e (cw_rm v (d + 1) σ0) s m args below meth c H locs cells slots (cw_Z below v σ0 σ' kd (some (.int (rI r))) args s) (F0 m 0 ls []) := by
  subst hbd
  obtain ⟨hx, hb, hr, hml, hown, hts, hlk, hK⟩ := id B
  intro σ x0 x1 ix0 ix1 hf H locs cells slots ls hw hl
  unfold pc_X11_limit_0 at hf
  refine lv_iload_n hx hb dX11_limit_0 rfl (lv_at hl.1 1 rfl) ?_
  refine lv_iconst (v := rI 1) hx hb dX11_limit_1 rfl ?_
  refine rn_icmp_lt (a := x1) (b := 1) (tgt := 12) hx hb ix1 ⟨by decide, by decide⟩ dX11_limit_2 (by decide) (fun c1 => ?_) (fun c1 => ?_)
  · replace hf := cc_if_t hf c1
    exact pw_X11_limit_12 rfl hR htr hd5 B hnh σ hf _ _ _ _ _ hw (cl_sub hl [] rfl)
  · replace hf := cc_if_f hf c1
    refine lv_iload_n hx hb dX11_limit_5 rfl (lv_at hl.1 1 rfl) ?_
    refine lv_sipush (v := rI 20000) hx hb dX11_limit_6 (by decide +kernel) ?_
    refine rn_icmp_le (a := x1) (b := 20000) (tgt := 20) hx hb ix1 ⟨by decide, by decide⟩ dX11_limit_9 (by decide) (fun c2 => ?_) (fun c2 => ?_)
    · replace hf := cc_if_t hf c2
      refine cl_aload_n hx hb dX11_limit_20 rfl (lv_at hl.1 0 rfl) ?_
      obtain ⟨z3, ez3, iz3, rz3, hf⟩ := cc_g_s hw hf
      refine cw_get (val := cR v z3) B hw rz3 ⟨by decide, by decide⟩ (by decide) cwi_12 cfl_X11_32 ez3 rfl dX11_limit_21 ?_
      obtain ⟨z4, ez4, iz4, rz4, hf⟩ := cc_g_s hw hf
      refine cw_get (val := .int (rI z4)) B hw rz4 ⟨by decide, by decide⟩ (by decide) cwi_5 cfl_X11_93 ez4 rfl dX11_limit_24 ?_
      refine cl_istore_n (lv' := [(2, .int (rI z4)), (0, cR v x0), (1, .int (rI x1))]) hx hb dX11_limit_27 rfl hl (by decide) rfl (fun ls hl => ?_)
      refine cl_aload_n hx hb dX11_limit_28 rfl (lv_at hl.1 1 rfl) ?_
      obtain ⟨z5, ez5, iz5, rz5, hf⟩ := cc_g_s hw hf
      refine cw_get (val := cR v z5) B hw rz5 ⟨by decide, by decide⟩ (by decide) cwi_12 cfl_X11_32 ez5 rfl dX11_limit_29 ?_
      refine lv_iload_n hx hb dX11_limit_32 rfl (lv_at hl.1 2 rfl) ?_
      obtain ⟨σ6, eσ6, rσ6, hf⟩ := cc_p_s hf
      refine cw_put B hw rσ6 cwt_5 (by decide) rfl cfl_X11_93 ix1 eσ6 rfl (cw_fv_n rfl rfl) dX11_limit_33 (fun H locs hw => ?_)
      refine lv_iload_n hx hb dX11_limit_36 rfl (lv_at hl.1 0 rfl) ?_
      exact cw_reti B hf hw dX11_limit_37
    · replace hf := cc_if_f hf c2
      exact pw_X11_limit_12 rfl hR htr hd5 B hnh σ hf _ _ _ _ _ hw (cl_sub hl [] rfl)

set_option maxHeartbeats 4000000 in
set_option maxRecDepth 100000 in
theorem pm_X11_limit {v : cwE} {bd : cBd} {l : Launch} {d : Nat} {rec : Nat → CS → List Int → CO} (hbd : bd = cw_bd v) (hR : cw_Rec l v d rec) (htr : l.stackTraces = false) (hd5 : 5 ≤ d) (σ σ' : CS) (x0 x1 : Int) (kd : Nat) (r : Int) (ix0 : inR x0) (ix1 : inR x1) (hf : pc_X11_limit_0 rec bd σ x0 x1 = some (σ', kd, r)) : cw_Met l v yX11_limit cX11_limit 3 (some .int) (d + 1) [cR v x0, .int (rI x1)] σ σ' kd (some (.int (rI r))) := by
  refine cw_ofW (by decide +kernel) ?_
  intro p e s m args below meth c s₁ B hml hv
  obtain ⟨rfl, hM, hK⟩ := hv
  have hts := atoms_spec (ws := Cond.code yX11_limit cX11_limit 3 (some .int) :: cw_bw) B.pre
  have hB : cw_B v RX11 p s m _ meth c cX11_limit 3 (some .int) := ⟨B.exec, B.bytes, B.returns, hml, findClass_of_methodNamed B.named, fun w h => hts w (List.mem_cons_of_mem _ h), B.notSynchronized, hK⟩
  have hnh := cc_nh B (hts _ List.mem_cons_self)
  rw [lg_entry_eq]
  obtain ⟨ls, hls, hl⟩ := cl_ent [cR v x0, .int (rI x1)] 3 (cl_1r (cl_1i cl_10)) (Nat.le_of_ble_eq_true rfl)
  rw [hls]
  exact pw_X11_limit_0 hbd hR htr hd5 hB hnh σ x0 x1 ix0 ix1 hf _ _ _ _ _ (cw_W0 hM) (cl_sub hl [0, 1] rfl)

set_option maxHeartbeats 4000000 in
set_option maxRecDepth 100000 in
theorem pw_X11_mark_0 {v : cwE} {bd : cBd} {p : Program} {l : Launch} {e : Env} {s : State} {m : MethodId} {args : Array Value} {below : List Frame} {meth : Method} {c : Code} {d : Nat} {rec : Nat → CS → List Int → CO} {σ0 σ' : CS} {kd : Nat} {r : Int} (hbd : bd = cw_bd v) (hR : cw_Rec l v d rec) (htr : l.stackTraces = false) (hd5 : 5 ≤ d) (B : cw_B v RX11 p s m args meth c cX11_mark 1 (some .int)) (hnh : ∀ x ∈ c.exceptionTable.toList, False) : ∀ (σ : CS) (x0 : Int), inR x0 → pc_X11_mark_0 rec bd σ x0 = some (σ', kd, r) → ∀ (H : Heap) (locs : List Loc) (cells slots : Nat) (ls : Array Slot), cw_W v s σ0 σ H locs cells slots → cl_has ls 1 [(0, cR v x0)] → W p l e (cw_rm v (d + 1) σ0) s m args below meth c H locs cells slots (cw_Z below v σ0 σ' kd (some (.int (rI r))) args s) (F0 m 0 ls []) := by
  subst hbd
  obtain ⟨hx, hb, hr, hml, hown, hts, hlk, hK⟩ := id B
  intro σ x0 ix0 hf H locs cells slots ls hw hl
  unfold pc_X11_mark_0 at hf
  refine cl_aload_n hx hb dX11_mark_0 rfl (lv_at hl.1 0 rfl) ?_
  obtain ⟨z1, ez1, iz1, rz1, hf⟩ := cc_g_s hw hf
  refine cw_get (val := cR v z1) B hw rz1 ⟨by decide, by decide⟩ (by decide) cwi_12 cfl_X11_23 ez1 rfl dX11_mark_1 ?_
  obtain ⟨z2, ez2, iz2, rz2, hf⟩ := cc_g_s hw hf
  refine cw_get (val := .int (rI z2)) B hw rz2 ⟨by decide, by decide⟩ (by decide) cwi_1 cfl_X11_118 ez2 rfl dX11_mark_4 ?_
  refine cl_aload_n hx hb dX11_mark_7 rfl (lv_at hl.1 0 rfl) ?_
  obtain ⟨z3, ez3, iz3, rz3, hf⟩ := cc_g_s hw hf
  refine cw_get (val := cR v z3) B hw rz3 ⟨by decide, by decide⟩ (by decide) cwi_12 cfl_X11_23 ez3 rfl dX11_mark_8 ?_
  obtain ⟨z4, ez4, iz4, rz4, hf⟩ := cc_g_s hw hf
  refine cw_get (val := cR v z4) B hw rz4 ⟨by decide, by decide⟩ (by decide) cwi_1 cfl_X11_155 ez4 rfl dX11_mark_11 ?_
  obtain ⟨z5, ez5, iz5, rz5, hf⟩ := cc_l_s hf
  refine cw_len B hw rz5 (by decide) ez5 iz5 dX11_mark_14 ?_
  refine rn_icmp_lt (a := z2) (b := z5) (tgt := 26) hx hb iz2 iz5 dX11_mark_15 (by decide) (fun c6 => ?_) (fun c6 => ?_)
  · replace hf := cc_if_t hf c6
    refine cl_aload_n hx hb dX11_mark_26 rfl (lv_at hl.1 0 rfl) ?_
    obtain ⟨z7, ez7, iz7, rz7, hf⟩ := cc_g_s hw hf
    refine cw_get (val := cR v z7) B hw rz7 ⟨by decide, by decide⟩ (by decide) cwi_12 cfl_X11_23 ez7 rfl dX11_mark_27 ?_
    obtain ⟨z8, ez8, iz8, rz8, hf⟩ := cc_g_s hw hf
    refine cw_get (val := cR v z8) B hw rz8 ⟨by decide, by decide⟩ (by decide) cwi_1 cfl_X11_155 ez8 rfl dX11_mark_30 ?_
    refine cl_aload_n hx hb dX11_mark_33 rfl (lv_at hl.1 0 rfl) ?_
    obtain ⟨z9, ez9, iz9, rz9, hf⟩ := cc_g_s hw hf
    refine cw_get (val := cR v z9) B hw rz9 ⟨by decide, by decide⟩ (by decide) cwi_12 cfl_X11_23 ez9 rfl dX11_mark_34 ?_
    obtain ⟨z10, ez10, iz10, rz10, hf⟩ := cc_g_s hw hf
    refine cw_get (val := .int (rI z10)) B hw rz10 ⟨by decide, by decide⟩ (by decide) cwi_1 cfl_X11_118 ez10 rfl dX11_mark_37 ?_
    refine cl_aload_n hx hb dX11_mark_40 rfl (lv_at hl.1 0 rfl) ?_
    obtain ⟨z11, ez11, iz11, rz11, hf⟩ := cc_g_s hw hf
    refine cw_get (val := cR v z11) B hw rz11 ⟨by decide, by decide⟩ (by decide) cwi_12 cfl_X11_23 ez11 rfl dX11_mark_41 ?_
    obtain ⟨z12, ez12, iz12, rz12, hf⟩ := cc_g_s hw hf
    refine cw_get (val := cR v z12) B hw rz12 ⟨by decide, by decide⟩ (by decide) cwi_1 cfl_X11_84 ez12 rfl dX11_mark_44 ?_
    obtain ⟨z13, ez13, iz13, rz13, hf⟩ := cc_g_s hw hf
    refine cw_get (val := .int (rI z13)) B hw rz13 ⟨by decide, by decide⟩ (by decide) cwi_6 cfl_X11_88 ez13 rfl dX11_mark_47 ?_
    obtain ⟨σ14, eσ14, rσ14, bσ14, hf⟩ := cc_w_s hf
    refine cw_astI B hw rσ14 iz10 bσ14 iz13 eσ14 dX11_mark_50 (fun H locs hw => ?_)
    refine cl_aload_n hx hb dX11_mark_51 rfl (lv_at hl.1 0 rfl) ?_
    obtain ⟨z15, ez15, iz15, rz15, hf⟩ := cc_g_s hw hf
    refine cw_get (val := cR v z15) B hw rz15 ⟨by decide, by decide⟩ (by decide) cwi_12 cfl_X11_23 ez15 rfl dX11_mark_52 ?_
    refine lv_dup hx hb dX11_mark_55 (cR_cat _) ?_
    obtain ⟨z16, ez16, iz16, rz16, hf⟩ := cc_g_s hw hf
    refine cw_get (val := .int (rI z16)) B hw rz16 ⟨by decide, by decide⟩ (by decide) cwi_1 cfl_X11_118 ez16 rfl dX11_mark_56 ?_
    refine lv_iconst (v := rI 1) hx hb dX11_mark_59 rfl ?_
    obtain ⟨z17, ez17, iz17, hf⟩ := cc_ck_s hf
    refine rn_add hx hb ez17 dX11_mark_60 ?_
    obtain ⟨σ18, eσ18, rσ18, hf⟩ := cc_p_s hf
    refine cw_put B hw rσ18 cwt_1 (by decide) rfl cfl_X11_118 iz17 eσ18 rfl (cw_fv_n rfl rfl) dX11_mark_61 (fun H locs hw => ?_)
    refine cl_aload_n hx hb dX11_mark_64 rfl (lv_at hl.1 0 rfl) ?_
    obtain ⟨z19, ez19, iz19, rz19, hf⟩ := cc_g_s hw hf
    refine cw_get (val := cR v z19) B hw rz19 ⟨by decide, by decide⟩ (by decide) cwi_12 cfl_X11_23 ez19 rfl dX11_mark_65 ?_
    obtain ⟨z20, ez20, iz20, rz20, hf⟩ := cc_g_s hw hf
    refine cw_get (val := .int (rI z20)) B hw rz20 ⟨by decide, by decide⟩ (by decide) cwi_1 cfl_X11_118 ez20 rfl dX11_mark_68 ?_
    exact cw_reti B hf hw dX11_mark_71
  · replace hf := cc_if_f hf c6
    obtain ⟨hy, hm⟩ := cc_x_s hf
    obtain ⟨hy1, hy2⟩ := Prod.mk.inj hy
    obtain ⟨hy2, hy3⟩ := Prod.mk.inj hy2
    subst hy2
    refine cw_throw (rest := []) B hnh htr hw (by decide) (by decide +kernel) cxc_X11_158 cxi_1 (cw_hat cxa_X11_160 (by decide +kernel) hts hK.1) (List.all_eq_true.mp cxg_X11_160) hd5 hm hy1 hl.1.1 (Nat.le_of_ble_eq_true rfl) dX11_mark_18 dX11_mark_21 dX11_mark_22 dX11_mark_25

set_option maxHeartbeats 4000000 in
set_option maxRecDepth 100000 in
theorem pm_X11_mark {v : cwE} {bd : cBd} {l : Launch} {d : Nat} {rec : Nat → CS → List Int → CO} (hbd : bd = cw_bd v) (hR : cw_Rec l v d rec) (htr : l.stackTraces = false) (hd5 : 5 ≤ d) (σ σ' : CS) (x0 : Int) (kd : Nat) (r : Int) (ix0 : inR x0) (hf : pc_X11_mark_0 rec bd σ x0 = some (σ', kd, r)) : cw_Met l v yX11_mark cX11_mark 1 (some .int) (d + 1) [cR v x0] σ σ' kd (some (.int (rI r))) := by
  refine cw_ofW (by decide +kernel) ?_
  intro p e s m args below meth c s₁ B hml hv
  obtain ⟨rfl, hM, hK⟩ := hv
  have hts := atoms_spec (ws := Cond.code yX11_mark cX11_mark 1 (some .int) :: cw_bw) B.pre
  have hB : cw_B v RX11 p s m _ meth c cX11_mark 1 (some .int) := ⟨B.exec, B.bytes, B.returns, hml, findClass_of_methodNamed B.named, fun w h => hts w (List.mem_cons_of_mem _ h), B.notSynchronized, hK⟩
  have hnh := cc_nh B (hts _ List.mem_cons_self)
  rw [lg_entry_eq]
  obtain ⟨ls, hls, hl⟩ := cl_ent [cR v x0] 1 (cl_1r cl_10) (Nat.le_of_ble_eq_true rfl)
  rw [hls]
  exact pw_X11_mark_0 hbd hR htr hd5 hB hnh σ x0 ix0 hf _ _ _ _ _ (cw_W0 hM) (cl_sub hl [0] rfl)

set_option maxHeartbeats 4000000 in
set_option maxRecDepth 100000 in
theorem pw_X11_name_18 {v : cwE} {bd : cBd} {p : Program} {l : Launch} {e : Env} {s : State} {m : MethodId} {args : Array Value} {below : List Frame} {meth : Method} {c : Code} {d : Nat} {rec : Nat → CS → List Int → CO} {σ0 σ' : CS} {kd : Nat} {r : Int} (hbd : bd = cw_bd v) (hR : cw_Rec l v d rec) (htr : l.stackTraces = false) (hd5 : 5 ≤ d) (B : cw_B v RX11 p s m args meth c cX11_name 3 (some .int)) (hnh : ∀ x ∈ c.exceptionTable.toList, False) : ∀ (σ : CS), pc_X11_name_18 rec bd σ = some (σ', kd, r) → ∀ (H : Heap) (locs : List Loc) (cells slots : Nat) (ls : Array Slot), cw_W v s σ0 σ H locs cells slots → cl_has ls 3 [] → W p l e (cw_rm v (d + 1) σ0) s m args below meth c H locs cells slots (cw_Z below v σ0 σ' kd (some (.int (rI r))) args s) (F0 m 18 ls []) := by
  subst hbd
  obtain ⟨hx, hb, hr, hml, hown, hts, hlk, hK⟩ := id B
  intro σ hf H locs cells slots ls hw hl
  unfold pc_X11_name_18 at hf
  obtain ⟨hy, hm⟩ := cc_x_s hf
  obtain ⟨hy1, hy2⟩ := Prod.mk.inj hy
  obtain ⟨hy2, hy3⟩ := Prod.mk.inj hy2
  subst hy2
  refine cw_throw (rest := []) B hnh htr hw (by decide) (by decide +kernel) cxc_X11_81 cxi_3 (cw_hat cxa_X11_83 (by decide +kernel) hts hK.1) (List.all_eq_true.mp cxg_X11_83) hd5 hm hy1 hl.1.1 (Nat.le_of_ble_eq_true rfl) dX11_name_18 dX11_name_21 dX11_name_22 dX11_name_25

set_option maxHeartbeats 4000000 in
set_option maxRecDepth 100000 in
theorem pw_X11_name_0 {v : cwE} {bd : cBd} {p : Program} {l : Launch} {e : Env} {s : State} {m : MethodId} {args : Array Value} {below : List Frame} {meth : Method} {c : Code} {d : Nat} {rec : Nat → CS → List Int → CO} {σ0 σ' : CS} {kd : Nat} {r : Int} (hbd : bd = cw_bd v) (hR : cw_Rec l v d rec) (htr : l.stackTraces = false) (hd5 : 5 ≤ d) (B : cw_B v RX11 p s m args meth c cX11_name 3 (some .int)) (hnh : ∀ x ∈ c.exceptionTable.toList, False) : ∀ (σ : CS) (x0 x1 x2 : Int), inR x0 → inR x1 → inR x2 → pc_X11_name_0 rec bd σ x0 x1 x2 = some (σ', kd, r) → ∀ (H : Heap) (locs : List Loc) (cells slots : Nat) (ls : Array Slot), cw_W v s σ0 σ H locs cells slots → cl_has ls 3 [(0, cR v x0), (1, .int (rI x1)), (2, .int (rI x2))] → W p l e (cw_rm v (d + 1) σ0) s m args below meth c H locs cells slots (cw_Z below v σ0 σ' kd (some (.int (rI r))) args s) (F0 m 0 ls []) := by
  subst hbd
  obtain ⟨hx, hb, hr, hml, hown, hts, hlk, hK⟩ := id B
  intro σ x0 x1 x2 ix0 ix1 ix2 hf H locs cells slots ls hw hl
  unfold pc_X11_name_0 at hf
  refine cl_aload_n hx hb dX11_name_0 rfl (lv_at hl.1 0 rfl) ?_
  obtain ⟨z1, ez1, iz1, rz1, hf⟩ := cc_g_s hw hf
  refine cw_get (val := cR v z1) B hw rz1 ⟨by decide, by decide⟩ (by decide) cwi_12 cfl_X11_23 ez1 rfl dX11_name_1 ?_
  obtain ⟨z2, ez2, iz2, rz2, hf⟩ := cc_g_s hw hf
  refine cw_get (val := cR v z2) B hw rz2 ⟨by decide, by decide⟩ (by decide) cwi_1 cfl_X11_84 ez2 rfl dX11_name_4 ?_
  refine lv_iload_n hx hb dX11_name_7 rfl (lv_at hl.1 1 rfl) ?_
  obtain ⟨qσ3, hf⟩ := cc_t_s hf
  obtain ⟨σ3, kv4, z5, hσ3, hf⟩ := cc_cl_s hf
  obtain ⟨iz5, mσ3⟩ := hR 100 σ [z2, x1] σ3 kv4 z5 hσ3
  have mσ3 : cw_Met l v yX5_has cX5_has 2 (some .boolean) d [cR v z2, .int (rI x1)] σ σ3 kv4 (some (.int (rI z5))) := mσ3 iz2 ix1
  refine cw_cv (b := z2) (t := 6) (n := 1) (rest := []) (As := [.int (rI x1)]) B mσ3 qσ3 ⟨by decide, by decide⟩ cgo_yX5_has cml_X11_121 cin_yX5_has cse_yX5_has (by decide +kernel) (by decide) rfl hl.1.1 (Nat.le_of_ble_eq_true rfl) dX11_name_8 rfl hw (fun h0 H locs cells slots hw => ?_) (fun h0 H locs cells slots q ce hw h1 h2 h3 => ?_)
  · rcases hf with ⟨-, hf⟩ | ⟨hk, -⟩
    · skip
      refine rn_if_eq (a := z5) (tgt := 18) hx hb iz5 dX11_name_11 (by decide) (fun c6 => ?_) (fun c6 => ?_)
      · replace hf := cc_if_t hf c6
        exact pw_X11_name_18 rfl hR htr hd5 B hnh σ3 hf _ _ _ _ _ hw (cl_sub hl [] rfl)
      · replace hf := cc_if_f hf c6
        refine lv_iload_n hx hb dX11_name_14 rfl (lv_at hl.1 2 rfl) ?_
        refine rn_if_ge (a := x2) (tgt := 26) hx hb ix2 dX11_name_15 (by decide) (fun c7 => ?_) (fun c7 => ?_)
        · replace hf := cc_if_t hf c7
          refine lv_iload_n hx hb dX11_name_26 rfl (lv_at hl.1 2 rfl) ?_
          by_cases c8 : x2 = 0
          · replace hf := cc_if_t hf c8
            refine rn_tab (n := 0) (tgt := 52) hx hb ix2 c8 dX11_name_27 (by decide) (by decide) rfl (by decide) ?_
            refine cl_aload_n hx hb dX11_name_52 rfl (lv_at hl.1 0 rfl) ?_
            obtain ⟨z9, ez9, iz9, rz9, hf⟩ := cc_g_s hw hf
            refine cw_get (val := cR v z9) B hw rz9 ⟨by decide, by decide⟩ (by decide) cwi_12 cfl_X11_23 ez9 rfl dX11_name_53 ?_
            obtain ⟨z10, ez10, iz10, rz10, hf⟩ := cc_g_s hw hf
            refine cw_get (val := cR v z10) B hw rz10 ⟨by decide, by decide⟩ (by decide) cwi_1 cfl_X11_125 ez10 rfl dX11_name_56 ?_
            refine lv_iload_n hx hb dX11_name_59 rfl (lv_at hl.1 1 rfl) ?_
            obtain ⟨z11, ez11, iz11, rz11, bz11, hf⟩ := cc_r_s hw hf
            refine cw_aldR B hw rz11 ix1 bz11 ez11 dX11_name_60 ?_
            refine cl_ifnull (x := z11) (tgt := 68) hx hb dX11_name_61 (by decide) (fun c12 => ?_) (fun c12 => ?_)
            · replace hf := cc_if_t hf c12
              refine lv_iconst (v := rI 0) hx hb dX11_name_68 rfl ?_
              exact cw_reti B hf hw dX11_name_69
            · replace hf := cc_if_f hf c12
              refine lv_iconst (v := rI 1) hx hb dX11_name_64 rfl ?_
              refine lv_goto (tgt := 69) hx hb dX11_name_65 (by decide) ?_
              exact cw_reti B hf hw dX11_name_69
          · replace hf := cc_if_f hf c8
            by_cases c13 : x2 = 1
            · replace hf := cc_if_t hf c13
              refine rn_tab (n := 1) (tgt := 70) hx hb ix2 c13 dX11_name_27 (by decide) (by decide) rfl (by decide) ?_
              refine cl_aload_n hx hb dX11_name_70 rfl (lv_at hl.1 0 rfl) ?_
              obtain ⟨z14, ez14, iz14, rz14, hf⟩ := cc_g_s hw hf
              refine cw_get (val := cR v z14) B hw rz14 ⟨by decide, by decide⟩ (by decide) cwi_12 cfl_X11_23 ez14 rfl dX11_name_71 ?_
              obtain ⟨z15, ez15, iz15, rz15, hf⟩ := cc_g_s hw hf
              refine cw_get (val := cR v z15) B hw rz15 ⟨by decide, by decide⟩ (by decide) cwi_1 cfl_X11_129 ez15 rfl dX11_name_74 ?_
              refine lv_iload_n hx hb dX11_name_77 rfl (lv_at hl.1 1 rfl) ?_
              obtain ⟨z16, ez16, iz16, rz16, bz16, hf⟩ := cc_r_s hw hf
              refine cw_aldI B hw rz16 ix1 bz16 ez16 dX11_name_78 ?_
              exact cw_reti B hf hw dX11_name_79
            · replace hf := cc_if_f hf c13
              by_cases c17 : x2 = 2
              · replace hf := cc_if_t hf c17
                refine rn_tab (n := 2) (tgt := 80) hx hb ix2 c17 dX11_name_27 (by decide) (by decide) rfl (by decide) ?_
                refine cl_aload_n hx hb dX11_name_80 rfl (lv_at hl.1 0 rfl) ?_
                obtain ⟨z18, ez18, iz18, rz18, hf⟩ := cc_g_s hw hf
                refine cw_get (val := cR v z18) B hw rz18 ⟨by decide, by decide⟩ (by decide) cwi_12 cfl_X11_23 ez18 rfl dX11_name_81 ?_
                obtain ⟨z19, ez19, iz19, rz19, hf⟩ := cc_g_s hw hf
                refine cw_get (val := cR v z19) B hw rz19 ⟨by decide, by decide⟩ (by decide) cwi_1 cfl_X11_84 ez19 rfl dX11_name_84 ?_
                obtain ⟨z20, ez20, iz20, rz20, hf⟩ := cc_g_s hw hf
                refine cw_get (val := cR v z20) B hw rz20 ⟨by decide, by decide⟩ (by decide) cwi_6 cfl_X11_132 ez20 rfl dX11_name_87 ?_
                refine lv_iload_n hx hb dX11_name_90 rfl (lv_at hl.1 1 rfl) ?_
                obtain ⟨z21, ez21, iz21, rz21, bz21, hf⟩ := cc_r_s hw hf
                refine cw_aldI B hw rz21 ix1 bz21 ez21 dX11_name_91 ?_
                exact cw_reti B hf hw dX11_name_92
              · replace hf := cc_if_f hf c17
                refine rn_tabO (tgt := 93) hx hb ix2 dX11_name_27 (by omega) (by decide) ?_
                refine cl_aload_n hx hb dX11_name_93 rfl (lv_at hl.1 0 rfl) ?_
                obtain ⟨z22, ez22, iz22, rz22, hf⟩ := cc_g_s hw hf
                refine cw_get (val := cR v z22) B hw rz22 ⟨by decide, by decide⟩ (by decide) cwi_12 cfl_X11_23 ez22 rfl dX11_name_94 ?_
                obtain ⟨z23, ez23, iz23, rz23, hf⟩ := cc_g_s hw hf
                refine cw_get (val := cR v z23) B hw rz23 ⟨by decide, by decide⟩ (by decide) cwi_1 cfl_X11_84 ez23 rfl dX11_name_97 ?_
                refine lv_iload_n hx hb dX11_name_100 rfl (lv_at hl.1 1 rfl) ?_
                refine lv_iload_n hx hb dX11_name_101 rfl (lv_at hl.1 2 rfl) ?_
                refine lv_iconst (v := rI 3) hx hb dX11_name_102 rfl ?_
                obtain ⟨z24, ez24, iz24, hf⟩ := cc_ck_s hf
                refine rn_sub hx hb ez24 dX11_name_103 ?_
                obtain ⟨qσ25, hf⟩ := cc_t_s hf
                obtain ⟨σ25, kv26, z27, hσ25, hf⟩ := cc_cl_s hf
                obtain ⟨iz27, mσ25⟩ := hR 103 σ3 [z23, x1, z24] σ25 kv26 z27 hσ25
                have mσ25 : cw_Met l v yX5_signOf cX5_signOf 3 (some .int) d [cR v z23, .int (rI x1), .int (rI z24)] σ3 σ25 kv26 (some (.int (rI z27))) := mσ25 iz23 ix1 iz24
                refine cw_cv (b := z23) (t := 6) (n := 2) (rest := []) (As := [.int (rI x1), .int (rI z24)]) B mσ25 qσ25 ⟨by decide, by decide⟩ cgo_yX5_signOf cml_X11_135 cin_yX5_signOf cse_yX5_signOf (by decide +kernel) (by decide) rfl hl.1.1 (Nat.le_of_ble_eq_true rfl) dX11_name_104 rfl hw (fun h0 H locs cells slots hw => ?_) (fun h0 H locs cells slots q ce hw h1 h2 h3 => ?_)
                · rcases hf with ⟨-, hf⟩ | ⟨hk, -⟩
                  · skip
                    exact cw_reti B hf hw dX11_name_107
                  · exact absurd h0 hk
                · rcases hf with ⟨hk, -⟩ | ⟨-, hf⟩
                  · exact absurd hk h0
                  · cases hf
                    exact cw_xout B hnh h0 hw h1 h2 h3
        · replace hf := cc_if_f hf c7
          exact pw_X11_name_18 rfl hR htr hd5 B hnh σ3 hf _ _ _ _ _ hw (cl_sub hl [] rfl)
    · exact absurd h0 hk
  · rcases hf with ⟨hk, -⟩ | ⟨-, hf⟩
    · exact absurd hk h0
    · cases hf
      exact cw_xout B hnh h0 hw h1 h2 h3

set_option maxHeartbeats 4000000 in
set_option maxRecDepth 100000 in
theorem pm_X11_name {v : cwE} {bd : cBd} {l : Launch} {d : Nat} {rec : Nat → CS → List Int → CO} (hbd : bd = cw_bd v) (hR : cw_Rec l v d rec) (htr : l.stackTraces = false) (hd5 : 5 ≤ d) (σ σ' : CS) (x0 x1 x2 : Int) (kd : Nat) (r : Int) (ix0 : inR x0) (ix1 : inR x1) (ix2 : inR x2) (hf : pc_X11_name_0 rec bd σ x0 x1 x2 = some (σ', kd, r)) : cw_Met l v yX11_name cX11_name 3 (some .int) (d + 1) [cR v x0, .int (rI x1), .int (rI x2)] σ σ' kd (some (.int (rI r))) := by
  refine cw_ofW (by decide +kernel) ?_
  intro p e s m args below meth c s₁ B hml hv
  obtain ⟨rfl, hM, hK⟩ := hv
  have hts := atoms_spec (ws := Cond.code yX11_name cX11_name 3 (some .int) :: cw_bw) B.pre
  have hB : cw_B v RX11 p s m _ meth c cX11_name 3 (some .int) := ⟨B.exec, B.bytes, B.returns, hml, findClass_of_methodNamed B.named, fun w h => hts w (List.mem_cons_of_mem _ h), B.notSynchronized, hK⟩
  have hnh := cc_nh B (hts _ List.mem_cons_self)
  rw [lg_entry_eq]
  obtain ⟨ls, hls, hl⟩ := cl_ent [cR v x0, .int (rI x1), .int (rI x2)] 3 (cl_1r (cl_1i (cl_1i cl_10))) (Nat.le_of_ble_eq_true rfl)
  rw [hls]
  exact pw_X11_name_0 hbd hR htr hd5 hB hnh σ x0 x1 x2 ix0 ix1 ix2 hf _ _ _ _ _ (cw_W0 hM) (cl_sub hl [0, 1, 2] rfl)

set_option maxHeartbeats 4000000 in
set_option maxRecDepth 100000 in
theorem pw_X11_needNewName_37 {v : cwE} {bd : cBd} {p : Program} {l : Launch} {e : Env} {s : State} {m : MethodId} {args : Array Value} {below : List Frame} {meth : Method} {c : Code} {d : Nat} {rec : Nat → CS → List Int → CO} {σ0 σ' : CS} {kd : Nat} {r : Int} (hbd : bd = cw_bd v) (hR : cw_Rec l v d rec) (htr : l.stackTraces = false) (hd5 : 5 ≤ d) (B : cw_B v RX11 p s m args meth c cX11_needNewName 3 none) (hnh : ∀ x ∈ c.exceptionTable.toList, False) : ∀ (σ : CS) (x0 x1 : Int), inR x0 → inR x1 → pc_X11_needNewName_37 rec bd σ x0 x1 = some (σ', kd, r) → ∀ (H : Heap) (locs : List Loc) (cells slots : Nat) (ls : Array Slot), cw_W v s σ0 σ H locs cells slots → cl_has ls 3 [(0, cR v x0), (1, cR v x1)] → W p l e (cw_rm v (d + 1) σ0) s m args below meth c H locs cells slots (cw_Z below v σ0 σ' kd none args s) (F0 m 37 ls []) := by
  subst hbd
  obtain ⟨hx, hb, hr, hml, hown, hts, hlk, hK⟩ := id B
  intro σ x0 x1 ix0 ix1 hf H locs cells slots ls hw hl
  unfold pc_X11_needNewName_37 at hf
  refine cl_aload_n hx hb dX11_needNewName_37 rfl (lv_at hl.1 0 rfl) ?_
  obtain ⟨z1, ez1, iz1, rz1, hf⟩ := cc_g_s hw hf
  refine cw_get (val := cR v z1) B hw rz1 ⟨by decide, by decide⟩ (by decide) cwi_12 cfl_X11_16 ez1 rfl dX11_needNewName_38 ?_
  refine lv_iconst (v := rI 4) hx hb dX11_needNewName_41 rfl ?_
  refine cl_aload_n hx hb dX11_needNewName_42 rfl (lv_at hl.1 1 rfl) ?_
  obtain ⟨z2, ez2, iz2, rz2, hf⟩ := cc_g_s hw hf
  refine cw_get (val := .int (rI z2)) B hw rz2 ⟨by decide, by decide⟩ (by decide) cwi_7 cfl_X11_255 ez2 rfl dX11_needNewName_43 ?_
  obtain ⟨qσ3, hf⟩ := cc_t_s hf
  obtain ⟨σ3, kv4, z5, hσ3, hf⟩ := cc_cl_s hf
  obtain ⟨iz5, mσ3⟩ := hR 30 σ [z1, 4, z2] σ3 kv4 z5 hσ3
  have mσ3 : cw_Met l v yX10_set cX10_set 3 none d [cR v z1, .int (rI 4), .int (rI z2)] σ σ3 kv4 none := mσ3 iz1 ⟨by decide, by decide⟩ iz2
  refine cw_cv (b := z1) (t := 11) (n := 2) (rest := []) (As := [.int (rI 4), .int (rI z2)]) B mσ3 qσ3 ⟨by decide, by decide⟩ cgo_yX10_set cml_X11_256 cin_yX10_set cse_yX10_set (by decide +kernel) (by decide) rfl hl.1.1 (Nat.le_of_ble_eq_true rfl) dX11_needNewName_46 rfl hw (fun h0 H locs cells slots hw => ?_) (fun h0 H locs cells slots q ce hw h1 h2 h3 => ?_)
  · rcases hf with ⟨-, hf⟩ | ⟨hk, -⟩
    · skip
      obtain ⟨hy, hm⟩ := cc_x_s hf
      obtain ⟨hy1, hy2⟩ := Prod.mk.inj hy
      obtain ⟨hy2, hy3⟩ := Prod.mk.inj hy2
      subst hy2
      refine cw_throw (rest := []) B hnh htr hw (by decide) (by decide +kernel) cxc_X11_158 cxi_1 (cw_hat cxa_X11_160 (by decide +kernel) hts hK.1) (List.all_eq_true.mp cxg_X11_160) hd5 hm hy1 hl.1.1 (Nat.le_of_ble_eq_true rfl) dX11_needNewName_49 dX11_needNewName_52 dX11_needNewName_53 dX11_needNewName_56
    · exact absurd h0 hk
  · rcases hf with ⟨hk, -⟩ | ⟨-, hf⟩
    · exact absurd hk h0
    · cases hf
      exact cw_xout B hnh h0 hw h1 h2 h3

set_option maxHeartbeats 4000000 in
set_option maxRecDepth 100000 in
theorem pw_X11_needNewName_0 {v : cwE} {bd : cBd} {p : Program} {l : Launch} {e : Env} {s : State} {m : MethodId} {args : Array Value} {below : List Frame} {meth : Method} {c : Code} {d : Nat} {rec : Nat → CS → List Int → CO} {σ0 σ' : CS} {kd : Nat} {r : Int} (hbd : bd = cw_bd v) (hR : cw_Rec l v d rec) (htr : l.stackTraces = false) (hd5 : 5 ≤ d) (B : cw_B v RX11 p s m args meth c cX11_needNewName 3 none) (hnh : ∀ x ∈ c.exceptionTable.toList, False) : ∀ (σ : CS) (x0 x1 : Int), inR x0 → inR x1 → pc_X11_needNewName_0 rec bd σ x0 x1 = some (σ', kd, r) → ∀ (H : Heap) (locs : List Loc) (cells slots : Nat) (ls : Array Slot), cw_W v s σ0 σ H locs cells slots → cl_has ls 3 [(0, cR v x0), (1, cR v x1)] → W p l e (cw_rm v (d + 1) σ0) s m args below meth c H locs cells slots (cw_Z below v σ0 σ' kd none args s) (F0 m 0 ls []) := by
  subst hbd
  obtain ⟨hx, hb, hr, hml, hown, hts, hlk, hK⟩ := id B
  intro σ x0 x1 ix0 ix1 hf H locs cells slots ls hw hl
  unfold pc_X11_needNewName_0 at hf
  refine cl_aload_n hx hb dX11_needNewName_0 rfl (lv_at hl.1 0 rfl) ?_
  obtain ⟨z1, ez1, iz1, rz1, hf⟩ := cc_g_s hw hf
  refine cw_get (val := cR v z1) B hw rz1 ⟨by decide, by decide⟩ (by decide) cwi_12 cfl_X11_23 ez1 rfl dX11_needNewName_1 ?_
  obtain ⟨z2, ez2, iz2, rz2, hf⟩ := cc_g_s hw hf
  refine cw_get (val := cR v z2) B hw rz2 ⟨by decide, by decide⟩ (by decide) cwi_1 cfl_X11_84 ez2 rfl dX11_needNewName_4 ?_
  refine cl_aload_n hx hb dX11_needNewName_7 rfl (lv_at hl.1 0 rfl) ?_
  obtain ⟨z3, ez3, iz3, rz3, hf⟩ := cc_g_s hw hf
  refine cw_get (val := cR v z3) B hw rz3 ⟨by decide, by decide⟩ (by decide) cwi_12 cfl_X11_9 ez3 rfl dX11_needNewName_8 ?_
  refine cl_aload_n hx hb dX11_needNewName_11 rfl (lv_at hl.1 1 rfl) ?_
  obtain ⟨z4, ez4, iz4, rz4, hf⟩ := cc_g_s hw hf
  refine cw_get (val := .int (rI z4)) B hw rz4 ⟨by decide, by decide⟩ (by decide) cwi_7 cfl_X11_263 ez4 rfl dX11_needNewName_12 ?_
  refine cl_aload_n hx hb dX11_needNewName_15 rfl (lv_at hl.1 1 rfl) ?_
  obtain ⟨z5, ez5, iz5, rz5, hf⟩ := cc_g_s hw hf
  refine cw_get (val := .int (rI z5)) B hw rz5 ⟨by decide, by decide⟩ (by decide) cwi_7 cfl_X11_266 ez5 rfl dX11_needNewName_16 ?_
  obtain ⟨qσ6, hf⟩ := cc_t_s hf
  obtain ⟨σ6, kv7, z8, hσ6, hf⟩ := cc_cl_s hf
  obtain ⟨iz8, mσ6⟩ := hR 99 σ [z2, z3, z4, z5] σ6 kv7 z8 hσ6
  have mσ6 : cw_Met l v yX5_find cX5_find 5 (some .int) d [cR v z2, cR v z3, .int (rI z4), .int (rI z5)] σ σ6 kv7 (some (.int (rI z8))) := mσ6 iz2 iz3 iz4 iz5
  refine cw_cv (b := z2) (t := 6) (n := 3) (rest := []) (As := [cR v z3, .int (rI z4), .int (rI z5)]) B mσ6 qσ6 ⟨by decide, by decide⟩ cgo_yX5_find cml_X11_286 cin_yX5_find cse_yX5_find (by decide +kernel) (by decide) rfl hl.1.1 (Nat.le_of_ble_eq_true rfl) dX11_needNewName_19 rfl hw (fun h0 H locs cells slots hw => ?_) (fun h0 H locs cells slots q ce hw h1 h2 h3 => ?_)
  · rcases hf with ⟨-, hf⟩ | ⟨hk, -⟩
    · skip
      refine cl_istore_n (lv' := [(2, .int (rI z8)), (0, cR v x0), (1, cR v x1)]) hx hb dX11_needNewName_22 rfl hl (by decide) rfl (fun ls hl => ?_)
      refine lv_iload_n hx hb dX11_needNewName_23 rfl (lv_at hl.1 0 rfl) ?_
      refine lv_iconst (v := rI (-1)) hx hb dX11_needNewName_24 rfl ?_
      refine rn_icmp_ne (a := z8) (b := (-1)) (tgt := 37) hx hb iz8 ⟨by decide, by decide⟩ dX11_needNewName_25 (by decide) (fun c9 => ?_) (fun c9 => ?_)
      · replace hf := cc_if_t hf c9
        exact pw_X11_needNewName_37 rfl hR htr hd5 B hnh σ6 x0 x1 ix0 ix1 hf _ _ _ _ _ hw (cl_sub hl [1, 2] rfl)
      · replace hf := cc_if_f hf c9
        refine cl_aload_n hx hb dX11_needNewName_28 rfl (lv_at hl.1 1 rfl) ?_
        refine cl_aload_n hx hb dX11_needNewName_29 rfl (lv_at hl.1 2 rfl) ?_
        obtain ⟨qσ10, hf⟩ := cc_t_s hf
        obtain ⟨σ10, kv11, z12, hσ10, hf⟩ := cc_cl_s hf
        obtain ⟨iz12, mσ10⟩ := hR 60 σ6 [x0, x1] σ10 kv11 z12 hσ10
        have mσ10 : cw_Met l v yX11_sortNumber cX11_sortNumber 2 (some .int) d [cR v x0, cR v x1] σ6 σ10 kv11 (some (.int (rI z12))) := mσ10 ix0 ix1
        refine cw_cv (b := x0) (t := 12) (n := 1) (rest := []) (As := [cR v x1]) B mσ10 qσ10 ⟨by decide, by decide⟩ cgo_yX11_sortNumber cml_X11_252 cin_yX11_sortNumber cse_yX11_sortNumber (by decide +kernel) (by decide) rfl hl.1.1 (Nat.le_of_ble_eq_true rfl) dX11_needNewName_30 rfl hw (fun h0 H locs cells slots hw => ?_) (fun h0 H locs cells slots q ce hw h1 h2 h3 => ?_)
        · rcases hf with ⟨-, hf⟩ | ⟨hk, -⟩
          · skip
            refine lv_iconst (v := rI (-1)) hx hb dX11_needNewName_33 rfl ?_
            refine rn_icmp_eq (a := z12) (b := (-1)) (tgt := 57) hx hb iz12 ⟨by decide, by decide⟩ dX11_needNewName_34 (by decide) (fun c13 => ?_) (fun c13 => ?_)
            · replace hf := cc_if_t hf c13
              refine cl_aload_n hx hb dX11_needNewName_57 rfl (lv_at hl.1 1 rfl) ?_
              obtain ⟨z14, ez14, iz14, rz14, hf⟩ := cc_g_s hw hf
              refine cw_get (val := cR v z14) B hw rz14 ⟨by decide, by decide⟩ (by decide) cwi_12 cfl_X11_23 ez14 rfl dX11_needNewName_58 ?_
              obtain ⟨z15, ez15, iz15, rz15, hf⟩ := cc_g_s hw hf
              refine cw_get (val := cR v z15) B hw rz15 ⟨by decide, by decide⟩ (by decide) cwi_1 cfl_X11_84 ez15 rfl dX11_needNewName_61 ?_
              obtain ⟨qσ16, hf⟩ := cc_t_s hf
              obtain ⟨σ16, kv17, z18, hσ16, hf⟩ := cc_cl_s hf
              obtain ⟨iz18, mσ16⟩ := hR 102 σ10 [z15] σ16 kv17 z18 hσ16
              have mσ16 : cw_Met l v yX5_isFull cX5_isFull 1 (some .boolean) d [cR v z15] σ10 σ16 kv17 (some (.int (rI z18))) := mσ16 iz15
              refine cw_cv (b := z15) (t := 6) (n := 0) (rest := []) (As := []) B mσ16 qσ16 ⟨by decide, by decide⟩ cgo_yX5_isFull cml_X11_259 cin_yX5_isFull cse_yX5_isFull (by decide +kernel) (by decide) rfl hl.1.1 (Nat.le_of_ble_eq_true rfl) dX11_needNewName_64 rfl hw (fun h0 H locs cells slots hw => ?_) (fun h0 H locs cells slots q ce hw h1 h2 h3 => ?_)
              · rcases hf with ⟨-, hf⟩ | ⟨hk, -⟩
                · skip
                  refine rn_if_eq (a := z18) (tgt := 90) hx hb iz18 dX11_needNewName_67 (by decide) (fun c19 => ?_) (fun c19 => ?_)
                  · replace hf := cc_if_t hf c19
                    exact cw_retv B hf hw dX11_needNewName_90
                  · replace hf := cc_if_f hf c19
                    refine cl_aload_n hx hb dX11_needNewName_70 rfl (lv_at hl.1 1 rfl) ?_
                    obtain ⟨z20, ez20, iz20, rz20, hf⟩ := cc_g_s hw hf
                    refine cw_get (val := cR v z20) B hw rz20 ⟨by decide, by decide⟩ (by decide) cwi_12 cfl_X11_16 ez20 rfl dX11_needNewName_71 ?_
                    refine lv_iconst (v := rI 5) hx hb dX11_needNewName_74 rfl ?_
                    refine cl_aload_n hx hb dX11_needNewName_75 rfl (lv_at hl.1 2 rfl) ?_
                    obtain ⟨z21, ez21, iz21, rz21, hf⟩ := cc_g_s hw hf
                    refine cw_get (val := .int (rI z21)) B hw rz21 ⟨by decide, by decide⟩ (by decide) cwi_7 cfl_X11_255 ez21 rfl dX11_needNewName_76 ?_
                    obtain ⟨qσ22, hf⟩ := cc_t_s hf
                    obtain ⟨σ22, kv23, z24, hσ22, hf⟩ := cc_cl_s hf
                    obtain ⟨iz24, mσ22⟩ := hR 30 σ16 [z20, 5, z21] σ22 kv23 z24 hσ22
                    have mσ22 : cw_Met l v yX10_set cX10_set 3 none d [cR v z20, .int (rI 5), .int (rI z21)] σ16 σ22 kv23 none := mσ22 iz20 ⟨by decide, by decide⟩ iz21
                    refine cw_cv (b := z20) (t := 11) (n := 2) (rest := []) (As := [.int (rI 5), .int (rI z21)]) B mσ22 qσ22 ⟨by decide, by decide⟩ cgo_yX10_set cml_X11_256 cin_yX10_set cse_yX10_set (by decide +kernel) (by decide) rfl hl.1.1 (Nat.le_of_ble_eq_true rfl) dX11_needNewName_79 rfl hw (fun h0 H locs cells slots hw => ?_) (fun h0 H locs cells slots q ce hw h1 h2 h3 => ?_)
                    · rcases hf with ⟨-, hf⟩ | ⟨hk, -⟩
                      · skip
                        obtain ⟨hy, hm⟩ := cc_x_s hf
                        obtain ⟨hy1, hy2⟩ := Prod.mk.inj hy
                        obtain ⟨hy2, hy3⟩ := Prod.mk.inj hy2
                        subst hy2
                        refine cw_throw (rest := []) B hnh htr hw (by decide) (by decide +kernel) cxc_X11_158 cxi_1 (cw_hat cxa_X11_160 (by decide +kernel) hts hK.1) (List.all_eq_true.mp cxg_X11_160) hd5 hm hy1 hl.1.1 (Nat.le_of_ble_eq_true rfl) dX11_needNewName_82 dX11_needNewName_85 dX11_needNewName_86 dX11_needNewName_89
                      · exact absurd h0 hk
                    · rcases hf with ⟨hk, -⟩ | ⟨-, hf⟩
                      · exact absurd hk h0
                      · cases hf
                        exact cw_xout B hnh h0 hw h1 h2 h3
                · exact absurd h0 hk
              · rcases hf with ⟨hk, -⟩ | ⟨-, hf⟩
                · exact absurd hk h0
                · cases hf
                  exact cw_xout B hnh h0 hw h1 h2 h3
            · replace hf := cc_if_f hf c13
              exact pw_X11_needNewName_37 rfl hR htr hd5 B hnh σ10 x0 x1 ix0 ix1 hf _ _ _ _ _ hw (cl_sub hl [1, 2] rfl)
          · exact absurd h0 hk
        · rcases hf with ⟨hk, -⟩ | ⟨-, hf⟩
          · exact absurd hk h0
          · cases hf
            exact cw_xout B hnh h0 hw h1 h2 h3
    · exact absurd h0 hk
  · rcases hf with ⟨hk, -⟩ | ⟨-, hf⟩
    · exact absurd hk h0
    · cases hf
      exact cw_xout B hnh h0 hw h1 h2 h3

set_option maxHeartbeats 4000000 in
set_option maxRecDepth 100000 in
theorem pm_X11_needNewName {v : cwE} {bd : cBd} {l : Launch} {d : Nat} {rec : Nat → CS → List Int → CO} (hbd : bd = cw_bd v) (hR : cw_Rec l v d rec) (htr : l.stackTraces = false) (hd5 : 5 ≤ d) (σ σ' : CS) (x0 x1 : Int) (kd : Nat) (r : Int) (ix0 : inR x0) (ix1 : inR x1) (hf : pc_X11_needNewName_0 rec bd σ x0 x1 = some (σ', kd, r)) : cw_Met l v yX11_needNewName cX11_needNewName 3 none (d + 1) [cR v x0, cR v x1] σ σ' kd none := by
  refine cw_ofW (by decide +kernel) ?_
  intro p e s m args below meth c s₁ B hml hv
  obtain ⟨rfl, hM, hK⟩ := hv
  have hts := atoms_spec (ws := Cond.code yX11_needNewName cX11_needNewName 3 none :: cw_bw) B.pre
  have hB : cw_B v RX11 p s m _ meth c cX11_needNewName 3 none := ⟨B.exec, B.bytes, B.returns, hml, findClass_of_methodNamed B.named, fun w h => hts w (List.mem_cons_of_mem _ h), B.notSynchronized, hK⟩
  have hnh := cc_nh B (hts _ List.mem_cons_self)
  rw [lg_entry_eq]
  obtain ⟨ls, hls, hl⟩ := cl_ent [cR v x0, cR v x1] 3 (cl_1r (cl_1r cl_10)) (Nat.le_of_ble_eq_true rfl)
  rw [hls]
  exact pw_X11_needNewName_0 hbd hR htr hd5 hB hnh σ x0 x1 ix0 ix1 hf _ _ _ _ _ (cw_W0 hM) (cl_sub hl [0, 1] rfl)

set_option maxHeartbeats 4000000 in
set_option maxRecDepth 100000 in
theorem pw_X11_needSame_0 {v : cwE} {bd : cBd} {p : Program} {l : Launch} {e : Env} {s : State} {m : MethodId} {args : Array Value} {below : List Frame} {meth : Method} {c : Code} {d : Nat} {rec : Nat → CS → List Int → CO} {σ0 σ' : CS} {kd : Nat} {r : Int} (hbd : bd = cw_bd v) (hR : cw_Rec l v d rec) (htr : l.stackTraces = false) (hd5 : 5 ≤ d) (B : cw_B v RX11 p s m args meth c cX11_needSame 4 none) (hnh : ∀ x ∈ c.exceptionTable.toList, False) : ∀ (σ : CS) (x0 x1 x2 x3 : Int), inR x0 → inR x1 → inR x2 → inR x3 → pc_X11_needSame_0 rec bd σ x0 x1 x2 x3 = some (σ', kd, r) → ∀ (H : Heap) (locs : List Loc) (cells slots : Nat) (ls : Array Slot), cw_W v s σ0 σ H locs cells slots → cl_has ls 4 [(0, cR v x0), (1, cR v x1), (2, cR v x2), (3, cR v x3)] → W p l e (cw_rm v (d + 1) σ0) s m args below meth c H locs cells slots (cw_Z below v σ0 σ' kd none args s) (F0 m 0 ls []) := by
  subst hbd
  obtain ⟨hx, hb, hr, hml, hown, hts, hlk, hK⟩ := id B
  intro σ x0 x1 x2 x3 ix0 ix1 ix2 ix3 hf H locs cells slots ls hw hl
  unfold pc_X11_needSame_0 at hf
  refine cl_aload_n hx hb dX11_needSame_0 rfl (lv_at hl.1 0 rfl) ?_
  obtain ⟨z1, ez1, iz1, rz1, hf⟩ := cc_g_s hw hf
  refine cw_get (val := cR v z1) B hw rz1 ⟨by decide, by decide⟩ (by decide) cwi_12 cfl_X11_32 ez1 rfl dX11_needSame_1 ?_
  refine cl_aload_n hx hb dX11_needSame_4 rfl (lv_at hl.1 1 rfl) ?_
  refine cl_aload_n hx hb dX11_needSame_5 rfl (lv_at hl.1 2 rfl) ?_
  obtain ⟨qσ2, hf⟩ := cc_t_s hf
  obtain ⟨σ2, kv3, z4, hσ2, hf⟩ := cc_cl_s hf
  obtain ⟨iz4, mσ2⟩ := hR 80 σ [z1, x1, x2] σ2 kv3 z4 hσ2
  have mσ2 : cw_Met l v yX4_areSame cX4_areSame 3 (some .boolean) d [cR v z1, cR v x1, cR v x2] σ σ2 kv3 (some (.int (rI z4))) := mσ2 iz1 ix1 ix2
  refine cw_cv (b := z1) (t := 5) (n := 2) (rest := []) (As := [cR v x1, cR v x2]) B mσ2 qσ2 ⟨by decide, by decide⟩ cgo_yX4_areSame cml_X11_201 cin_yX4_areSame cse_yX4_areSame (by decide +kernel) (by decide) rfl hl.1.1 (Nat.le_of_ble_eq_true rfl) dX11_needSame_6 rfl hw (fun h0 H locs cells slots hw => ?_) (fun h0 H locs cells slots q ce hw h1 h2 h3 => ?_)
  · rcases hf with ⟨-, hf⟩ | ⟨hk, -⟩
    · skip
      refine rn_if_ne (a := z4) (tgt := 33) hx hb iz4 dX11_needSame_9 (by decide) (fun c5 => ?_) (fun c5 => ?_)
      · replace hf := cc_if_t hf c5
        exact cw_retv B hf hw dX11_needSame_33
      · replace hf := cc_if_f hf c5
        refine cl_aload_n hx hb dX11_needSame_12 rfl (lv_at hl.1 0 rfl) ?_
        obtain ⟨z6, ez6, iz6, rz6, hf⟩ := cc_g_s hw hf
        refine cw_get (val := cR v z6) B hw rz6 ⟨by decide, by decide⟩ (by decide) cwi_12 cfl_X11_16 ez6 rfl dX11_needSame_13 ?_
        refine lv_bipush (v := rI 11) hx hb dX11_needSame_16 (by decide +kernel) ?_
        refine cl_aload_n hx hb dX11_needSame_18 rfl (lv_at hl.1 3 rfl) ?_
        obtain ⟨z7, ez7, iz7, rz7, hf⟩ := cc_g_s hw hf
        refine cw_get (val := .int (rI z7)) B hw rz7 ⟨by decide, by decide⟩ (by decide) cwi_7 cfl_X11_315 ez7 rfl dX11_needSame_19 ?_
        obtain ⟨qσ8, hf⟩ := cc_t_s hf
        obtain ⟨σ8, kv9, z10, hσ8, hf⟩ := cc_cl_s hf
        obtain ⟨iz10, mσ8⟩ := hR 30 σ2 [z6, 11, z7] σ8 kv9 z10 hσ8
        have mσ8 : cw_Met l v yX10_set cX10_set 3 none d [cR v z6, .int (rI 11), .int (rI z7)] σ2 σ8 kv9 none := mσ8 iz6 ⟨by decide, by decide⟩ iz7
        refine cw_cv (b := z6) (t := 11) (n := 2) (rest := []) (As := [.int (rI 11), .int (rI z7)]) B mσ8 qσ8 ⟨by decide, by decide⟩ cgo_yX10_set cml_X11_256 cin_yX10_set cse_yX10_set (by decide +kernel) (by decide) rfl hl.1.1 (Nat.le_of_ble_eq_true rfl) dX11_needSame_22 rfl hw (fun h0 H locs cells slots hw => ?_) (fun h0 H locs cells slots q ce hw h1 h2 h3 => ?_)
        · rcases hf with ⟨-, hf⟩ | ⟨hk, -⟩
          · skip
            obtain ⟨hy, hm⟩ := cc_x_s hf
            obtain ⟨hy1, hy2⟩ := Prod.mk.inj hy
            obtain ⟨hy2, hy3⟩ := Prod.mk.inj hy2
            subst hy2
            refine cw_throw (rest := []) B hnh htr hw (by decide) (by decide +kernel) cxc_X11_158 cxi_1 (cw_hat cxa_X11_160 (by decide +kernel) hts hK.1) (List.all_eq_true.mp cxg_X11_160) hd5 hm hy1 hl.1.1 (Nat.le_of_ble_eq_true rfl) dX11_needSame_25 dX11_needSame_28 dX11_needSame_29 dX11_needSame_32
          · exact absurd h0 hk
        · rcases hf with ⟨hk, -⟩ | ⟨-, hf⟩
          · exact absurd hk h0
          · cases hf
            exact cw_xout B hnh h0 hw h1 h2 h3
    · exact absurd h0 hk
  · rcases hf with ⟨hk, -⟩ | ⟨-, hf⟩
    · exact absurd hk h0
    · cases hf
      exact cw_xout B hnh h0 hw h1 h2 h3

set_option maxHeartbeats 4000000 in
set_option maxRecDepth 100000 in
theorem pm_X11_needSame {v : cwE} {bd : cBd} {l : Launch} {d : Nat} {rec : Nat → CS → List Int → CO} (hbd : bd = cw_bd v) (hR : cw_Rec l v d rec) (htr : l.stackTraces = false) (hd5 : 5 ≤ d) (σ σ' : CS) (x0 x1 x2 x3 : Int) (kd : Nat) (r : Int) (ix0 : inR x0) (ix1 : inR x1) (ix2 : inR x2) (ix3 : inR x3) (hf : pc_X11_needSame_0 rec bd σ x0 x1 x2 x3 = some (σ', kd, r)) : cw_Met l v yX11_needSame cX11_needSame 4 none (d + 1) [cR v x0, cR v x1, cR v x2, cR v x3] σ σ' kd none := by
  refine cw_ofW (by decide +kernel) ?_
  intro p e s m args below meth c s₁ B hml hv
  obtain ⟨rfl, hM, hK⟩ := hv
  have hts := atoms_spec (ws := Cond.code yX11_needSame cX11_needSame 4 none :: cw_bw) B.pre
  have hB : cw_B v RX11 p s m _ meth c cX11_needSame 4 none := ⟨B.exec, B.bytes, B.returns, hml, findClass_of_methodNamed B.named, fun w h => hts w (List.mem_cons_of_mem _ h), B.notSynchronized, hK⟩
  have hnh := cc_nh B (hts _ List.mem_cons_self)
  rw [lg_entry_eq]
  obtain ⟨ls, hls, hl⟩ := cl_ent [cR v x0, cR v x1, cR v x2, cR v x3] 4 (cl_1r (cl_1r (cl_1r (cl_1r cl_10)))) (Nat.le_of_ble_eq_true rfl)
  rw [hls]
  exact pw_X11_needSame_0 hbd hR htr hd5 hB hnh σ x0 x1 x2 x3 ix0 ix1 ix2 ix3 hf _ _ _ _ _ (cw_W0 hM) (cl_sub hl [0, 1, 2, 3] rfl)

set_option maxHeartbeats 4000000 in
set_option maxRecDepth 100000 in
theorem pw_X11_neededSort_0 {v : cwE} {bd : cBd} {p : Program} {l : Launch} {e : Env} {s : State} {m : MethodId} {args : Array Value} {below : List Frame} {meth : Method} {c : Code} {d : Nat} {rec : Nat → CS → List Int → CO} {σ0 σ' : CS} {kd : Nat} {r : Int} (hbd : bd = cw_bd v) (hR : cw_Rec l v d rec) (htr : l.stackTraces = false) (hd5 : 5 ≤ d) (B : cw_B v RX11 p s m args meth c cX11_neededSort 3 (some .int)) (hnh : ∀ x ∈ c.exceptionTable.toList, False) : ∀ (σ : CS) (x0 x1 : Int), inR x0 → inR x1 → pc_X11_neededSort_0 rec bd σ x0 x1 = some (σ', kd, r) → ∀ (H : Heap) (locs : List Loc) (cells slots : Nat) (ls : Array Slot), cw_W v s σ0 σ H locs cells slots → cl_has ls 3 [(0, cR v x0), (1, cR v x1)] → W p l e (cw_rm v (d + 1) σ0) s m args below meth c H locs cells slots (cw_Z below v σ0 σ' kd (some (.int (rI r))) args s) (F0 m 0 ls []) := by
  subst hbd
  obtain ⟨hx, hb, hr, hml, hown, hts, hlk, hK⟩ := id B
  intro σ x0 x1 ix0 ix1 hf H locs cells slots ls hw hl
  unfold pc_X11_neededSort_0 at hf
  refine cl_aload_n hx hb dX11_neededSort_0 rfl (lv_at hl.1 0 rfl) ?_
  refine cl_aload_n hx hb dX11_neededSort_1 rfl (lv_at hl.1 1 rfl) ?_
  obtain ⟨qσ1, hf⟩ := cc_t_s hf
  obtain ⟨σ1, kv2, z3, hσ1, hf⟩ := cc_cl_s hf
  obtain ⟨iz3, mσ1⟩ := hR 60 σ [x0, x1] σ1 kv2 z3 hσ1
  have mσ1 : cw_Met l v yX11_sortNumber cX11_sortNumber 2 (some .int) d [cR v x0, cR v x1] σ σ1 kv2 (some (.int (rI z3))) := mσ1 ix0 ix1
  refine cw_cv (b := x0) (t := 12) (n := 1) (rest := []) (As := [cR v x1]) B mσ1 qσ1 ⟨by decide, by decide⟩ cgo_yX11_sortNumber cml_X11_252 cin_yX11_sortNumber cse_yX11_sortNumber (by decide +kernel) (by decide) rfl hl.1.1 (Nat.le_of_ble_eq_true rfl) dX11_neededSort_2 rfl hw (fun h0 H locs cells slots hw => ?_) (fun h0 H locs cells slots q ce hw h1 h2 h3 => ?_)
  · rcases hf with ⟨-, hf⟩ | ⟨hk, -⟩
    · skip
      refine cl_istore_n (lv' := [(2, .int (rI z3)), (0, cR v x0), (1, cR v x1)]) hx hb dX11_neededSort_5 rfl hl (by decide) rfl (fun ls hl => ?_)
      refine lv_iload_n hx hb dX11_neededSort_6 rfl (lv_at hl.1 0 rfl) ?_
      refine lv_iconst (v := rI (-1)) hx hb dX11_neededSort_7 rfl ?_
      refine rn_icmp_ne (a := z3) (b := (-1)) (tgt := 31) hx hb iz3 ⟨by decide, by decide⟩ dX11_neededSort_8 (by decide) (fun c4 => ?_) (fun c4 => ?_)
      · replace hf := cc_if_t hf c4
        refine lv_iload_n hx hb dX11_neededSort_31 rfl (lv_at hl.1 0 rfl) ?_
        exact cw_reti B hf hw dX11_neededSort_32
      · replace hf := cc_if_f hf c4
        refine cl_aload_n hx hb dX11_neededSort_11 rfl (lv_at hl.1 1 rfl) ?_
        obtain ⟨z5, ez5, iz5, rz5, hf⟩ := cc_g_s hw hf
        refine cw_get (val := cR v z5) B hw rz5 ⟨by decide, by decide⟩ (by decide) cwi_12 cfl_X11_16 ez5 rfl dX11_neededSort_12 ?_
        refine lv_iconst (v := rI 3) hx hb dX11_neededSort_15 rfl ?_
        refine cl_aload_n hx hb dX11_neededSort_16 rfl (lv_at hl.1 2 rfl) ?_
        obtain ⟨z6, ez6, iz6, rz6, hf⟩ := cc_g_s hw hf
        refine cw_get (val := .int (rI z6)) B hw rz6 ⟨by decide, by decide⟩ (by decide) cwi_7 cfl_X11_255 ez6 rfl dX11_neededSort_17 ?_
        obtain ⟨qσ7, hf⟩ := cc_t_s hf
        obtain ⟨σ7, kv8, z9, hσ7, hf⟩ := cc_cl_s hf
        obtain ⟨iz9, mσ7⟩ := hR 30 σ1 [z5, 3, z6] σ7 kv8 z9 hσ7
        have mσ7 : cw_Met l v yX10_set cX10_set 3 none d [cR v z5, .int (rI 3), .int (rI z6)] σ1 σ7 kv8 none := mσ7 iz5 ⟨by decide, by decide⟩ iz6
        refine cw_cv (b := z5) (t := 11) (n := 2) (rest := []) (As := [.int (rI 3), .int (rI z6)]) B mσ7 qσ7 ⟨by decide, by decide⟩ cgo_yX10_set cml_X11_256 cin_yX10_set cse_yX10_set (by decide +kernel) (by decide) rfl hl.1.1 (Nat.le_of_ble_eq_true rfl) dX11_neededSort_20 rfl hw (fun h0 H locs cells slots hw => ?_) (fun h0 H locs cells slots q ce hw h1 h2 h3 => ?_)
        · rcases hf with ⟨-, hf⟩ | ⟨hk, -⟩
          · skip
            obtain ⟨hy, hm⟩ := cc_x_s hf
            obtain ⟨hy1, hy2⟩ := Prod.mk.inj hy
            obtain ⟨hy2, hy3⟩ := Prod.mk.inj hy2
            subst hy2
            refine cw_throw (rest := []) B hnh htr hw (by decide) (by decide +kernel) cxc_X11_158 cxi_1 (cw_hat cxa_X11_160 (by decide +kernel) hts hK.1) (List.all_eq_true.mp cxg_X11_160) hd5 hm hy1 hl.1.1 (Nat.le_of_ble_eq_true rfl) dX11_neededSort_23 dX11_neededSort_26 dX11_neededSort_27 dX11_neededSort_30
          · exact absurd h0 hk
        · rcases hf with ⟨hk, -⟩ | ⟨-, hf⟩
          · exact absurd hk h0
          · cases hf
            exact cw_xout B hnh h0 hw h1 h2 h3
    · exact absurd h0 hk
  · rcases hf with ⟨hk, -⟩ | ⟨-, hf⟩
    · exact absurd hk h0
    · cases hf
      exact cw_xout B hnh h0 hw h1 h2 h3

set_option maxHeartbeats 4000000 in
set_option maxRecDepth 100000 in
theorem pm_X11_neededSort {v : cwE} {bd : cBd} {l : Launch} {d : Nat} {rec : Nat → CS → List Int → CO} (hbd : bd = cw_bd v) (hR : cw_Rec l v d rec) (htr : l.stackTraces = false) (hd5 : 5 ≤ d) (σ σ' : CS) (x0 x1 : Int) (kd : Nat) (r : Int) (ix0 : inR x0) (ix1 : inR x1) (hf : pc_X11_neededSort_0 rec bd σ x0 x1 = some (σ', kd, r)) : cw_Met l v yX11_neededSort cX11_neededSort 3 (some .int) (d + 1) [cR v x0, cR v x1] σ σ' kd (some (.int (rI r))) := by
  refine cw_ofW (by decide +kernel) ?_
  intro p e s m args below meth c s₁ B hml hv
  obtain ⟨rfl, hM, hK⟩ := hv
  have hts := atoms_spec (ws := Cond.code yX11_neededSort cX11_neededSort 3 (some .int) :: cw_bw) B.pre
  have hB : cw_B v RX11 p s m _ meth c cX11_neededSort 3 (some .int) := ⟨B.exec, B.bytes, B.returns, hml, findClass_of_methodNamed B.named, fun w h => hts w (List.mem_cons_of_mem _ h), B.notSynchronized, hK⟩
  have hnh := cc_nh B (hts _ List.mem_cons_self)
  rw [lg_entry_eq]
  obtain ⟨ls, hls, hl⟩ := cl_ent [cR v x0, cR v x1] 3 (cl_1r (cl_1r cl_10)) (Nat.le_of_ble_eq_true rfl)
  rw [hls]
  exact pw_X11_neededSort_0 hbd hR htr hd5 hB hnh σ x0 x1 ix0 ix1 hf _ _ _ _ _ (cw_W0 hM) (cl_sub hl [0, 1] rfl)

set_option maxHeartbeats 4000000 in
set_option maxRecDepth 100000 in
theorem pw_X11_out_27 {v : cwE} {bd : cBd} {p : Program} {l : Launch} {e : Env} {s : State} {m : MethodId} {args : Array Value} {below : List Frame} {meth : Method} {c : Code} {d : Nat} {rec : Nat → CS → List Int → CO} {σ0 σ' : CS} {kd : Nat} {r : Int} (hbd : bd = cw_bd v) (hR : cw_Rec l v d rec) (htr : l.stackTraces = false) (hd5 : 5 ≤ d) (B : cw_B v RX11 p s m args meth c cX11_out 2 (some .int)) (hnh : ∀ x ∈ c.exceptionTable.toList, False) : ∀ (σ : CS), pc_X11_out_27 rec bd σ = some (σ', kd, r) → ∀ (H : Heap) (locs : List Loc) (cells slots : Nat) (ls : Array Slot), cw_W v s σ0 σ H locs cells slots → cl_has ls 2 [] → W p l e (cw_rm v (d + 1) σ0) s m args below meth c H locs cells slots (cw_Z below v σ0 σ' kd (some (.int (rI r))) args s) (F0 m 27 ls []) := by
  subst hbd
  obtain ⟨hx, hb, hr, hml, hown, hts, hlk, hK⟩ := id B
  intro σ hf H locs cells slots ls hw hl
  unfold pc_X11_out_27 at hf
  obtain ⟨hy, hm⟩ := cc_x_s hf
  obtain ⟨hy1, hy2⟩ := Prod.mk.inj hy
  obtain ⟨hy2, hy3⟩ := Prod.mk.inj hy2
  subst hy2
  refine cw_throw (rest := []) B hnh htr hw (by decide) (by decide +kernel) cxc_X11_81 cxi_3 (cw_hat cxa_X11_83 (by decide +kernel) hts hK.1) (List.all_eq_true.mp cxg_X11_83) hd5 hm hy1 hl.1.1 (Nat.le_of_ble_eq_true rfl) dX11_out_27 dX11_out_30 dX11_out_31 dX11_out_34

set_option maxHeartbeats 4000000 in
set_option maxRecDepth 100000 in
theorem pw_X11_out_0 {v : cwE} {bd : cBd} {p : Program} {l : Launch} {e : Env} {s : State} {m : MethodId} {args : Array Value} {below : List Frame} {meth : Method} {c : Code} {d : Nat} {rec : Nat → CS → List Int → CO} {σ0 σ' : CS} {kd : Nat} {r : Int} (hbd : bd = cw_bd v) (hR : cw_Rec l v d rec) (htr : l.stackTraces = false) (hd5 : 5 ≤ d) (B : cw_B v RX11 p s m args meth c cX11_out 2 (some .int)) (hnh : ∀ x ∈ c.exceptionTable.toList, False) : ∀ (σ : CS) (x0 x1 : Int), inR x0 → inR x1 → pc_X11_out_0 rec bd σ x0 x1 = some (σ', kd, r) → ∀ (H : Heap) (locs : List Loc) (cells slots : Nat) (ls : Array Slot), cw_W v s σ0 σ H locs cells slots → cl_has ls 2 [(0, cR v x0), (1, .int (rI x1))] → W p l e (cw_rm v (d + 1) σ0) s m args below meth c H locs cells slots (cw_Z below v σ0 σ' kd (some (.int (rI r))) args s) (F0 m 0 ls []) := by
  subst hbd
  obtain ⟨hx, hb, hr, hml, hown, hts, hlk, hK⟩ := id B
  intro σ x0 x1 ix0 ix1 hf H locs cells slots ls hw hl
  unfold pc_X11_out_0 at hf
  refine lv_iload_n hx hb dX11_out_0 rfl (lv_at hl.1 1 rfl) ?_
  refine rn_if_lt (a := x1) (tgt := 27) hx hb ix1 dX11_out_1 (by decide) (fun c1 => ?_) (fun c1 => ?_)
  · replace hf := cc_if_t hf c1
    exact pw_X11_out_27 rfl hR htr hd5 B hnh σ hf _ _ _ _ _ hw (cl_sub hl [] rfl)
  · replace hf := cc_if_f hf c1
    refine lv_iload_n hx hb dX11_out_4 rfl (lv_at hl.1 1 rfl) ?_
    refine cl_aload_n hx hb dX11_out_5 rfl (lv_at hl.1 0 rfl) ?_
    obtain ⟨z2, ez2, iz2, rz2, hf⟩ := cc_g_s hw hf
    refine cw_get (val := cR v z2) B hw rz2 ⟨by decide, by decide⟩ (by decide) cwi_12 cfl_X11_32 ez2 rfl dX11_out_6 ?_
    obtain ⟨z3, ez3, iz3, rz3, hf⟩ := cc_g_s hw hf
    refine cw_get (val := .int (rI z3)) B hw rz3 ⟨by decide, by decide⟩ (by decide) cwi_5 cfl_X11_96 ez3 rfl dX11_out_9 ?_
    refine rn_icmp_ge (a := x1) (b := z3) (tgt := 27) hx hb ix1 iz3 dX11_out_12 (by decide) (fun c4 => ?_) (fun c4 => ?_)
    · replace hf := cc_if_t hf c4
      exact pw_X11_out_27 rfl hR htr hd5 B hnh σ hf _ _ _ _ _ hw (cl_sub hl [] rfl)
    · replace hf := cc_if_f hf c4
      refine lv_iload_n hx hb dX11_out_15 rfl (lv_at hl.1 1 rfl) ?_
      refine cl_aload_n hx hb dX11_out_16 rfl (lv_at hl.1 0 rfl) ?_
      obtain ⟨z5, ez5, iz5, rz5, hf⟩ := cc_g_s hw hf
      refine cw_get (val := cR v z5) B hw rz5 ⟨by decide, by decide⟩ (by decide) cwi_12 cfl_X11_32 ez5 rfl dX11_out_17 ?_
      obtain ⟨z6, ez6, iz6, rz6, hf⟩ := cc_g_s hw hf
      refine cw_get (val := cR v z6) B hw rz6 ⟨by decide, by decide⟩ (by decide) cwi_5 cfl_X11_99 ez6 rfl dX11_out_20 ?_
      obtain ⟨z7, ez7, iz7, rz7, hf⟩ := cc_l_s hf
      refine cw_len B hw rz7 (by decide) ez7 iz7 dX11_out_23 ?_
      refine rn_icmp_lt (a := x1) (b := z7) (tgt := 35) hx hb ix1 iz7 dX11_out_24 (by decide) (fun c8 => ?_) (fun c8 => ?_)
      · replace hf := cc_if_t hf c8
        refine cl_aload_n hx hb dX11_out_35 rfl (lv_at hl.1 0 rfl) ?_
        obtain ⟨z9, ez9, iz9, rz9, hf⟩ := cc_g_s hw hf
        refine cw_get (val := cR v z9) B hw rz9 ⟨by decide, by decide⟩ (by decide) cwi_12 cfl_X11_32 ez9 rfl dX11_out_36 ?_
        obtain ⟨z10, ez10, iz10, rz10, hf⟩ := cc_g_s hw hf
        refine cw_get (val := cR v z10) B hw rz10 ⟨by decide, by decide⟩ (by decide) cwi_5 cfl_X11_99 ez10 rfl dX11_out_39 ?_
        refine lv_iload_n hx hb dX11_out_42 rfl (lv_at hl.1 1 rfl) ?_
        obtain ⟨z11, ez11, iz11, rz11, bz11, hf⟩ := cc_r_s hw hf
        refine cw_aldB B hw rz11 ix1 bz11 ez11 dX11_out_43 ?_
        exact cw_reti B hf hw dX11_out_44
      · replace hf := cc_if_f hf c8
        exact pw_X11_out_27 rfl hR htr hd5 B hnh σ hf _ _ _ _ _ hw (cl_sub hl [] rfl)

set_option maxHeartbeats 4000000 in
set_option maxRecDepth 100000 in
theorem pm_X11_out {v : cwE} {bd : cBd} {l : Launch} {d : Nat} {rec : Nat → CS → List Int → CO} (hbd : bd = cw_bd v) (hR : cw_Rec l v d rec) (htr : l.stackTraces = false) (hd5 : 5 ≤ d) (σ σ' : CS) (x0 x1 : Int) (kd : Nat) (r : Int) (ix0 : inR x0) (ix1 : inR x1) (hf : pc_X11_out_0 rec bd σ x0 x1 = some (σ', kd, r)) : cw_Met l v yX11_out cX11_out 2 (some .int) (d + 1) [cR v x0, .int (rI x1)] σ σ' kd (some (.int (rI r))) := by
  refine cw_ofW (by decide +kernel) ?_
  intro p e s m args below meth c s₁ B hml hv
  obtain ⟨rfl, hM, hK⟩ := hv
  have hts := atoms_spec (ws := Cond.code yX11_out cX11_out 2 (some .int) :: cw_bw) B.pre
  have hB : cw_B v RX11 p s m _ meth c cX11_out 2 (some .int) := ⟨B.exec, B.bytes, B.returns, hml, findClass_of_methodNamed B.named, fun w h => hts w (List.mem_cons_of_mem _ h), B.notSynchronized, hK⟩
  have hnh := cc_nh B (hts _ List.mem_cons_self)
  rw [lg_entry_eq]
  obtain ⟨ls, hls, hl⟩ := cl_ent [cR v x0, .int (rI x1)] 2 (cl_1r (cl_1i cl_10)) (Nat.le_of_ble_eq_true rfl)
  rw [hls]
  exact pw_X11_out_0 hbd hR htr hd5 hB hnh σ x0 x1 ix0 ix1 hf _ _ _ _ _ (cw_W0 hM) (cl_sub hl [0, 1] rfl)

set_option maxHeartbeats 4000000 in
set_option maxRecDepth 100000 in
theorem pw_X11_outs_0 {v : cwE} {bd : cBd} {p : Program} {l : Launch} {e : Env} {s : State} {m : MethodId} {args : Array Value} {below : List Frame} {meth : Method} {c : Code} {d : Nat} {rec : Nat → CS → List Int → CO} {σ0 σ' : CS} {kd : Nat} {r : Int} (hbd : bd = cw_bd v) (hR : cw_Rec l v d rec) (htr : l.stackTraces = false) (hd5 : 5 ≤ d) (B : cw_B v RX11 p s m args meth c cX11_outs 1 (some .int)) (hnh : ∀ x ∈ c.exceptionTable.toList, False) : ∀ (σ : CS) (x0 : Int), inR x0 → pc_X11_outs_0 rec bd σ x0 = some (σ', kd, r) → ∀ (H : Heap) (locs : List Loc) (cells slots : Nat) (ls : Array Slot), cw_W v s σ0 σ H locs cells slots → cl_has ls 1 [(0, cR v x0)] → W p l e (cw_rm v (d + 1) σ0) s m args below meth c H locs cells slots (cw_Z below v σ0 σ' kd (some (.int (rI r))) args s) (F0 m 0 ls []) := by
  subst hbd
  obtain ⟨hx, hb, hr, hml, hown, hts, hlk, hK⟩ := id B
  intro σ x0 ix0 hf H locs cells slots ls hw hl
  unfold pc_X11_outs_0 at hf
  refine cl_aload_n hx hb dX11_outs_0 rfl (lv_at hl.1 0 rfl) ?_
  obtain ⟨z1, ez1, iz1, rz1, hf⟩ := cc_g_s hw hf
  refine cw_get (val := cR v z1) B hw rz1 ⟨by decide, by decide⟩ (by decide) cwi_12 cfl_X11_32 ez1 rfl dX11_outs_1 ?_
  obtain ⟨z2, ez2, iz2, rz2, hf⟩ := cc_g_s hw hf
  refine cw_get (val := .int (rI z2)) B hw rz2 ⟨by decide, by decide⟩ (by decide) cwi_5 cfl_X11_96 ez2 rfl dX11_outs_4 ?_
  exact cw_reti B hf hw dX11_outs_7

set_option maxHeartbeats 4000000 in
set_option maxRecDepth 100000 in
theorem pm_X11_outs {v : cwE} {bd : cBd} {l : Launch} {d : Nat} {rec : Nat → CS → List Int → CO} (hbd : bd = cw_bd v) (hR : cw_Rec l v d rec) (htr : l.stackTraces = false) (hd5 : 5 ≤ d) (σ σ' : CS) (x0 : Int) (kd : Nat) (r : Int) (ix0 : inR x0) (hf : pc_X11_outs_0 rec bd σ x0 = some (σ', kd, r)) : cw_Met l v yX11_outs cX11_outs 1 (some .int) (d + 1) [cR v x0] σ σ' kd (some (.int (rI r))) := by
  refine cw_ofW (by decide +kernel) ?_
  intro p e s m args below meth c s₁ B hml hv
  obtain ⟨rfl, hM, hK⟩ := hv
  have hts := atoms_spec (ws := Cond.code yX11_outs cX11_outs 1 (some .int) :: cw_bw) B.pre
  have hB : cw_B v RX11 p s m _ meth c cX11_outs 1 (some .int) := ⟨B.exec, B.bytes, B.returns, hml, findClass_of_methodNamed B.named, fun w h => hts w (List.mem_cons_of_mem _ h), B.notSynchronized, hK⟩
  have hnh := cc_nh B (hts _ List.mem_cons_self)
  rw [lg_entry_eq]
  obtain ⟨ls, hls, hl⟩ := cl_ent [cR v x0] 1 (cl_1r cl_10) (Nat.le_of_ble_eq_true rfl)
  rw [hls]
  exact pw_X11_outs_0 hbd hR htr hd5 hB hnh σ x0 ix0 hf _ _ _ _ _ (cw_W0 hM) (cl_sub hl [0] rfl)

set_option maxHeartbeats 4000000 in
set_option maxRecDepth 100000 in
theorem pw_X11_perform_182 {v : cwE} {bd : cBd} {p : Program} {l : Launch} {e : Env} {s : State} {m : MethodId} {args : Array Value} {below : List Frame} {meth : Method} {c : Code} {d : Nat} {rec : Nat → CS → List Int → CO} {σ0 σ' : CS} {kd : Nat} {r : Int} (hbd : bd = cw_bd v) (hR : cw_Rec l v d rec) (htr : l.stackTraces = false) (hd5 : 5 ≤ d) (B : cw_B v RX11 p s m args meth c cX11_perform 2 none) (hnh : ∀ x ∈ c.exceptionTable.toList, False) : ∀ (σ : CS) (x0 x1 : Int), inR x0 → inR x1 → pc_X11_perform_182 rec bd σ x0 x1 = some (σ', kd, r) → ∀ (H : Heap) (locs : List Loc) (cells slots : Nat) (ls : Array Slot), cw_W v s σ0 σ H locs cells slots → cl_has ls 2 [(0, cR v x0), (1, cR v x1)] → W p l e (cw_rm v (d + 1) σ0) s m args below meth c H locs cells slots (cw_Z below v σ0 σ' kd none args s) (F0 m 182 ls []) := by
  subst hbd
  obtain ⟨hx, hb, hr, hml, hown, hts, hlk, hK⟩ := id B
  intro σ x0 x1 ix0 ix1 hf H locs cells slots ls hw hl
  unfold pc_X11_perform_182 at hf
  refine cl_aload_n hx hb dX11_perform_182 rfl (lv_at hl.1 0 rfl) ?_
  refine cl_aload_n hx hb dX11_perform_183 rfl (lv_at hl.1 1 rfl) ?_
  obtain ⟨qσ1, hf⟩ := cc_t_s hf
  obtain ⟨σ1, kv2, z3, hσ1, hf⟩ := cc_cl_s hf
  obtain ⟨iz3, mσ1⟩ := hR 34 σ [x0, x1] σ1 kv2 z3 hσ1
  have mσ1 : cw_Met l v yX11_answerSame cX11_answerSame 2 none d [cR v x0, cR v x1] σ σ1 kv2 none := mσ1 ix0 ix1
  refine cw_cv (b := x0) (t := 12) (n := 1) (rest := []) (As := [cR v x1]) B mσ1 qσ1 ⟨by decide, by decide⟩ cgo_yX11_answerSame cml_X11_243 cin_yX11_answerSame cse_yX11_answerSame (by decide +kernel) (by decide) rfl hl.1.1 (Nat.le_of_ble_eq_true rfl) dX11_perform_184 rfl hw (fun h0 H locs cells slots hw => ?_) (fun h0 H locs cells slots q ce hw h1 h2 h3 => ?_)
  · rcases hf with ⟨-, hf⟩ | ⟨hk, -⟩
    · skip
      exact cw_retv B hf hw dX11_perform_187
    · exact absurd h0 hk
  · rcases hf with ⟨hk, -⟩ | ⟨-, hf⟩
    · exact absurd hk h0
    · cases hf
      exact cw_xout B hnh h0 hw h1 h2 h3

set_option maxHeartbeats 4000000 in
set_option maxRecDepth 100000 in
theorem pw_X11_perform_0 {v : cwE} {bd : cBd} {p : Program} {l : Launch} {e : Env} {s : State} {m : MethodId} {args : Array Value} {below : List Frame} {meth : Method} {c : Code} {d : Nat} {rec : Nat → CS → List Int → CO} {σ0 σ' : CS} {kd : Nat} {r : Int} (hbd : bd = cw_bd v) (hR : cw_Rec l v d rec) (htr : l.stackTraces = false) (hd5 : 5 ≤ d) (B : cw_B v RX11 p s m args meth c cX11_perform 2 none) (hnh : ∀ x ∈ c.exceptionTable.toList, False) : ∀ (σ : CS) (x0 x1 : Int), inR x0 → inR x1 → pc_X11_perform_0 rec bd σ x0 x1 = some (σ', kd, r) → ∀ (H : Heap) (locs : List Loc) (cells slots : Nat) (ls : Array Slot), cw_W v s σ0 σ H locs cells slots → cl_has ls 2 [(0, cR v x0), (1, cR v x1)] → W p l e (cw_rm v (d + 1) σ0) s m args below meth c H locs cells slots (cw_Z below v σ0 σ' kd none args s) (F0 m 0 ls []) := by
  subst hbd
  obtain ⟨hx, hb, hr, hml, hown, hts, hlk, hK⟩ := id B
  intro σ x0 x1 ix0 ix1 hf H locs cells slots ls hw hl
  unfold pc_X11_perform_0 at hf
  refine cl_aload_n hx hb dX11_perform_0 rfl (lv_at hl.1 0 rfl) ?_
  obtain ⟨z1, ez1, iz1, rz1, hf⟩ := cc_g_s hw hf
  refine cw_get (val := cR v z1) B hw rz1 ⟨by decide, by decide⟩ (by decide) cwi_12 cfl_X11_32 ez1 rfl dX11_perform_1 ?_
  refine cl_aload_n hx hb dX11_perform_4 rfl (lv_at hl.1 1 rfl) ?_
  obtain ⟨z2, ez2, iz2, rz2, hf⟩ := cc_g_s hw hf
  refine cw_get (val := .int (rI z2)) B hw rz2 ⟨by decide, by decide⟩ (by decide) cwi_10 cfl_X11_205 ez2 rfl dX11_perform_5 ?_
  obtain ⟨qσ3, hf⟩ := cc_t_s hf
  obtain ⟨σ3, kv4, z5, hσ3, hf⟩ := cc_cl_s hf
  obtain ⟨iz5, mσ3⟩ := hR 81 σ [z1, z2] σ3 kv4 z5 hσ3
  have mσ3 : cw_Met l v yX4_begin cX4_begin 3 none d [cR v z1, .int (rI z2)] σ σ3 kv4 none := mσ3 iz1 iz2
  refine cw_cv (b := z1) (t := 5) (n := 1) (rest := []) (As := [.int (rI z2)]) B mσ3 qσ3 ⟨by decide, by decide⟩ cgo_yX4_begin cml_X11_189 cin_yX4_begin cse_yX4_begin (by decide +kernel) (by decide) rfl hl.1.1 (Nat.le_of_ble_eq_true rfl) dX11_perform_8 rfl hw (fun h0 H locs cells slots hw => ?_) (fun h0 H locs cells slots q ce hw h1 h2 h3 => ?_)
  · rcases hf with ⟨-, hf⟩ | ⟨hk, -⟩
    · skip
      refine cl_aload_n hx hb dX11_perform_11 rfl (lv_at hl.1 1 rfl) ?_
      obtain ⟨z6, ez6, iz6, rz6, hf⟩ := cc_g_s hw hf
      refine cw_get (val := .int (rI z6)) B hw rz6 ⟨by decide, by decide⟩ (by decide) cwi_10 cfl_X11_208 ez6 rfl dX11_perform_12 ?_
      by_cases c7 : z6 = 0
      · replace hf := cc_if_t hf c7
        refine rn_tab (n := 0) (tgt := 64) hx hb iz6 c7 dX11_perform_15 (by decide) (by decide) rfl (by decide) ?_
        refine cl_aload_n hx hb dX11_perform_64 rfl (lv_at hl.1 0 rfl) ?_
        refine cl_aload_n hx hb dX11_perform_65 rfl (lv_at hl.1 1 rfl) ?_
        obtain ⟨qσ8, hf⟩ := cc_t_s hf
        obtain ⟨σ8, kv9, z10, hσ8, hf⟩ := cc_cl_s hf
        obtain ⟨iz10, mσ8⟩ := hR 33 σ3 [x0, x1] σ8 kv9 z10 hσ8
        have mσ8 : cw_Met l v yX11_addSort cX11_addSort 2 none d [cR v x0, cR v x1] σ3 σ8 kv9 none := mσ8 ix0 ix1
        refine cw_cv (b := x0) (t := 12) (n := 1) (rest := []) (As := [cR v x1]) B mσ8 qσ8 ⟨by decide, by decide⟩ cgo_yX11_addSort cml_X11_211 cin_yX11_addSort cse_yX11_addSort (by decide +kernel) (by decide) rfl hl.1.1 (Nat.le_of_ble_eq_true rfl) dX11_perform_66 rfl hw (fun h0 H locs cells slots hw => ?_) (fun h0 H locs cells slots q ce hw h1 h2 h3 => ?_)
        · rcases hf with ⟨-, hf⟩ | ⟨hk, -⟩
          · skip
            refine lv_goto (tgt := 187) hx hb dX11_perform_69 (by decide) ?_
            exact cw_retv B hf hw dX11_perform_187
          · exact absurd h0 hk
        · rcases hf with ⟨hk, -⟩ | ⟨-, hf⟩
          · exact absurd hk h0
          · cases hf
            exact cw_xout B hnh h0 hw h1 h2 h3
      · replace hf := cc_if_f hf c7
        by_cases c11 : z6 = 1
        · replace hf := cc_if_t hf c11
          refine rn_tab (n := 1) (tgt := 72) hx hb iz6 c11 dX11_perform_15 (by decide) (by decide) rfl (by decide) ?_
          refine cl_aload_n hx hb dX11_perform_72 rfl (lv_at hl.1 0 rfl) ?_
          refine cl_aload_n hx hb dX11_perform_73 rfl (lv_at hl.1 1 rfl) ?_
          obtain ⟨qσ12, hf⟩ := cc_t_s hf
          obtain ⟨σ12, kv13, z14, hσ12, hf⟩ := cc_cl_s hf
          obtain ⟨iz14, mσ12⟩ := hR 31 σ3 [x0, x1] σ12 kv13 z14 hσ12
          have mσ12 : cw_Met l v yX11_addAxiom cX11_addAxiom 4 none d [cR v x0, cR v x1] σ3 σ12 kv13 none := mσ12 ix0 ix1
          refine cw_cv (b := x0) (t := 12) (n := 1) (rest := []) (As := [cR v x1]) B mσ12 qσ12 ⟨by decide, by decide⟩ cgo_yX11_addAxiom cml_X11_214 cin_yX11_addAxiom cse_yX11_addAxiom (by decide +kernel) (by decide) rfl hl.1.1 (Nat.le_of_ble_eq_true rfl) dX11_perform_74 rfl hw (fun h0 H locs cells slots hw => ?_) (fun h0 H locs cells slots q ce hw h1 h2 h3 => ?_)
          · rcases hf with ⟨-, hf⟩ | ⟨hk, -⟩
            · skip
              refine lv_goto (tgt := 187) hx hb dX11_perform_77 (by decide) ?_
              exact cw_retv B hf hw dX11_perform_187
            · exact absurd h0 hk
          · rcases hf with ⟨hk, -⟩ | ⟨-, hf⟩
            · exact absurd hk h0
            · cases hf
              exact cw_xout B hnh h0 hw h1 h2 h3
        · replace hf := cc_if_f hf c11
          by_cases c15 : z6 = 2
          · replace hf := cc_if_t hf c15
            refine rn_tab (n := 2) (tgt := 80) hx hb iz6 c15 dX11_perform_15 (by decide) (by decide) rfl (by decide) ?_
            refine cl_aload_n hx hb dX11_perform_80 rfl (lv_at hl.1 0 rfl) ?_
            refine cl_aload_n hx hb dX11_perform_81 rfl (lv_at hl.1 1 rfl) ?_
            obtain ⟨qσ16, hf⟩ := cc_t_s hf
            obtain ⟨σ16, kv17, z18, hσ16, hf⟩ := cc_cl_s hf
            obtain ⟨iz18, mσ16⟩ := hR 32 σ3 [x0, x1] σ16 kv17 z18 hσ16
            have mσ16 : cw_Met l v yX11_addRule cX11_addRule 5 none d [cR v x0, cR v x1] σ3 σ16 kv17 none := mσ16 ix0 ix1
            refine cw_cv (b := x0) (t := 12) (n := 1) (rest := []) (As := [cR v x1]) B mσ16 qσ16 ⟨by decide, by decide⟩ cgo_yX11_addRule cml_X11_217 cin_yX11_addRule cse_yX11_addRule (by decide +kernel) (by decide) rfl hl.1.1 (Nat.le_of_ble_eq_true rfl) dX11_perform_82 rfl hw (fun h0 H locs cells slots hw => ?_) (fun h0 H locs cells slots q ce hw h1 h2 h3 => ?_)
            · rcases hf with ⟨-, hf⟩ | ⟨hk, -⟩
              · skip
                refine lv_goto (tgt := 187) hx hb dX11_perform_85 (by decide) ?_
                exact cw_retv B hf hw dX11_perform_187
              · exact absurd h0 hk
            · rcases hf with ⟨hk, -⟩ | ⟨-, hf⟩
              · exact absurd hk h0
              · cases hf
                exact cw_xout B hnh h0 hw h1 h2 h3
          · replace hf := cc_if_f hf c15
            by_cases c19 : z6 = 3
            · replace hf := cc_if_t hf c19
              refine rn_tab (n := 3) (tgt := 104) hx hb iz6 c19 dX11_perform_15 (by decide) (by decide) rfl (by decide) ?_
              refine cl_aload_n hx hb dX11_perform_104 rfl (lv_at hl.1 0 rfl) ?_
              refine cl_aload_n hx hb dX11_perform_105 rfl (lv_at hl.1 1 rfl) ?_
              obtain ⟨qσ20, hf⟩ := cc_t_s hf
              obtain ⟨σ20, kv21, z22, hσ20, hf⟩ := cc_cl_s hf
              obtain ⟨iz22, mσ20⟩ := hR 37 σ3 [x0, x1] σ20 kv21 z22 hσ20
              have mσ20 : cw_Met l v yX11_check cX11_check 3 none d [cR v x0, cR v x1] σ3 σ20 kv21 none := mσ20 ix0 ix1
              refine cw_cv (b := x0) (t := 12) (n := 1) (rest := []) (As := [cR v x1]) B mσ20 qσ20 ⟨by decide, by decide⟩ cgo_yX11_check cml_X11_226 cin_yX11_check cse_yX11_check (by decide +kernel) (by decide) rfl hl.1.1 (Nat.le_of_ble_eq_true rfl) dX11_perform_106 rfl hw (fun h0 H locs cells slots hw => ?_) (fun h0 H locs cells slots q ce hw h1 h2 h3 => ?_)
              · rcases hf with ⟨-, hf⟩ | ⟨hk, -⟩
                · skip
                  refine lv_goto (tgt := 187) hx hb dX11_perform_109 (by decide) ?_
                  exact cw_retv B hf hw dX11_perform_187
                · exact absurd h0 hk
              · rcases hf with ⟨hk, -⟩ | ⟨-, hf⟩
                · exact absurd hk h0
                · cases hf
                  exact cw_xout B hnh h0 hw h1 h2 h3
            · replace hf := cc_if_f hf c19
              by_cases c23 : z6 = 4
              · replace hf := cc_if_t hf c23
                refine rn_tab (n := 4) (tgt := 112) hx hb iz6 c23 dX11_perform_15 (by decide) (by decide) rfl (by decide) ?_
                refine cl_aload_n hx hb dX11_perform_112 rfl (lv_at hl.1 0 rfl) ?_
                obtain ⟨z24, ez24, iz24, rz24, hf⟩ := cc_g_s hw hf
                refine cw_get (val := cR v z24) B hw rz24 ⟨by decide, by decide⟩ (by decide) cwi_12 cfl_X11_50 ez24 rfl dX11_perform_113 ?_
                refine cl_aload_n hx hb dX11_perform_116 rfl (lv_at hl.1 1 rfl) ?_
                obtain ⟨z25, ez25, iz25, rz25, hf⟩ := cc_g_s hw hf
                refine cw_get (val := cR v z25) B hw rz25 ⟨by decide, by decide⟩ (by decide) cwi_10 cfl_X11_229 ez25 rfl dX11_perform_117 ?_
                obtain ⟨qσ26, hf⟩ := cc_t_s hf
                obtain ⟨σ26, kv27, z28, hσ26, hf⟩ := cc_cl_s hf
                obtain ⟨iz28, mσ26⟩ := hR 73 σ3 [z24, z25] σ26 kv27 z28 hσ26
                have mσ26 : cw_Met l v yX2_typeOf cX2_typeOf 2 (some (.object "PureHouse$Node")) d [cR v z24, cR v z25] σ3 σ26 kv27 (some (cR v z28)) := mσ26 iz24 iz25
                refine cw_cv (b := z24) (t := 3) (n := 1) (rest := []) (As := [cR v z25]) B mσ26 qσ26 ⟨by decide, by decide⟩ cgo_yX2_typeOf cml_X11_233 cin_yX2_typeOf cse_yX2_typeOf (by decide +kernel) (by decide) rfl hl.1.1 (Nat.le_of_ble_eq_true rfl) dX11_perform_120 rfl hw (fun h0 H locs cells slots hw => ?_) (fun h0 H locs cells slots q ce hw h1 h2 h3 => ?_)
                · rcases hf with ⟨-, hf⟩ | ⟨hk, -⟩
                  · skip
                    refine lv_pop hx hb dX11_perform_123 (cR_cat _) ?_
                    refine cl_aload_n hx hb dX11_perform_124 rfl (lv_at hl.1 0 rfl) ?_
                    obtain ⟨z29, ez29, iz29, rz29, hf⟩ := cc_g_s hw hf
                    refine cw_get (val := cR v z29) B hw rz29 ⟨by decide, by decide⟩ (by decide) cwi_12 cfl_X11_32 ez29 rfl dX11_perform_125 ?_
                    refine cl_aload_n hx hb dX11_perform_128 rfl (lv_at hl.1 1 rfl) ?_
                    obtain ⟨z30, ez30, iz30, rz30, hf⟩ := cc_g_s hw hf
                    refine cw_get (val := cR v z30) B hw rz30 ⟨by decide, by decide⟩ (by decide) cwi_10 cfl_X11_229 ez30 rfl dX11_perform_129 ?_
                    obtain ⟨qσ31, hf⟩ := cc_t_s hf
                    obtain ⟨σ31, kv32, z33, hσ31, hf⟩ := cc_cl_s hf
                    obtain ⟨iz33, mσ31⟩ := hR 96 σ26 [z29, z30] σ31 kv32 z33 hσ31
                    have mσ31 : cw_Met l v yX4_tellWhole cX4_tellWhole 2 none d [cR v z29, cR v z30] σ26 σ31 kv32 none := mσ31 iz29 iz30
                    refine cw_cv (b := z29) (t := 5) (n := 1) (rest := []) (As := [cR v z30]) B mσ31 qσ31 ⟨by decide, by decide⟩ cgo_yX4_tellWhole cml_X11_192 cin_yX4_tellWhole cse_yX4_tellWhole (by decide +kernel) (by decide) rfl hl.1.1 (Nat.le_of_ble_eq_true rfl) dX11_perform_132 rfl hw (fun h0 H locs cells slots hw => ?_) (fun h0 H locs cells slots q ce hw h1 h2 h3 => ?_)
                    · rcases hf with ⟨-, hf⟩ | ⟨hk, -⟩
                      · skip
                        refine cl_aload_n hx hb dX11_perform_135 rfl (lv_at hl.1 0 rfl) ?_
                        obtain ⟨z34, ez34, iz34, rz34, hf⟩ := cc_g_s hw hf
                        refine cw_get (val := cR v z34) B hw rz34 ⟨by decide, by decide⟩ (by decide) cwi_12 cfl_X11_32 ez34 rfl dX11_perform_136 ?_
                        refine lv_bipush (v := rI 10) hx hb dX11_perform_139 (by decide +kernel) ?_
                        obtain ⟨qσ35, hf⟩ := cc_t_s hf
                        obtain ⟨σ35, kv36, z37, hσ35, hf⟩ := cc_cl_s hf
                        obtain ⟨iz37, mσ35⟩ := hR 88 σ31 [z34, 10] σ35 kv36 z37 hσ35
                        have mσ35 : cw_Met l v yX4_put cX4_put 2 none d [cR v z34, .int (rI 10)] σ31 σ35 kv36 none := mσ35 iz34 ⟨by decide, by decide⟩
                        refine cw_cv (b := z34) (t := 5) (n := 1) (rest := []) (As := [.int (rI 10)]) B mσ35 qσ35 ⟨by decide, by decide⟩ cgo_yX4_put cml_X11_237 cin_yX4_put cse_yX4_put (by decide +kernel) (by decide) rfl hl.1.1 (Nat.le_of_ble_eq_true rfl) dX11_perform_141 rfl hw (fun h0 H locs cells slots hw => ?_) (fun h0 H locs cells slots q ce hw h1 h2 h3 => ?_)
                        · rcases hf with ⟨-, hf⟩ | ⟨hk, -⟩
                          · skip
                            refine lv_goto (tgt := 187) hx hb dX11_perform_144 (by decide) ?_
                            exact cw_retv B hf hw dX11_perform_187
                          · exact absurd h0 hk
                        · rcases hf with ⟨hk, -⟩ | ⟨-, hf⟩
                          · exact absurd hk h0
                          · cases hf
                            exact cw_xout B hnh h0 hw h1 h2 h3
                      · exact absurd h0 hk
                    · rcases hf with ⟨hk, -⟩ | ⟨-, hf⟩
                      · exact absurd hk h0
                      · cases hf
                        exact cw_xout B hnh h0 hw h1 h2 h3
                  · exact absurd h0 hk
                · rcases hf with ⟨hk, -⟩ | ⟨-, hf⟩
                  · exact absurd hk h0
                  · cases hf
                    exact cw_xout B hnh h0 hw h1 h2 h3
              · replace hf := cc_if_f hf c23
                by_cases c38 : z6 = 5
                · replace hf := cc_if_t hf c38
                  refine rn_tab (n := 5) (tgt := 182) hx hb iz6 c38 dX11_perform_15 (by decide) (by decide) rfl (by decide) ?_
                  exact pw_X11_perform_182 rfl hR htr hd5 B hnh σ3 x0 x1 ix0 ix1 hf _ _ _ _ _ hw (cl_sub hl [0, 1] rfl)
                · replace hf := cc_if_f hf c38
                  by_cases c39 : z6 = 6
                  · replace hf := cc_if_t hf c39
                    refine rn_tab (n := 6) (tgt := 147) hx hb iz6 c39 dX11_perform_15 (by decide) (by decide) rfl (by decide) ?_
                    refine cl_aload_n hx hb dX11_perform_147 rfl (lv_at hl.1 0 rfl) ?_
                    obtain ⟨z40, ez40, iz40, rz40, hf⟩ := cc_g_s hw hf
                    refine cw_get (val := cR v z40) B hw rz40 ⟨by decide, by decide⟩ (by decide) cwi_12 cfl_X11_50 ez40 rfl dX11_perform_148 ?_
                    refine cl_aload_n hx hb dX11_perform_151 rfl (lv_at hl.1 1 rfl) ?_
                    obtain ⟨z41, ez41, iz41, rz41, hf⟩ := cc_g_s hw hf
                    refine cw_get (val := cR v z41) B hw rz41 ⟨by decide, by decide⟩ (by decide) cwi_10 cfl_X11_229 ez41 rfl dX11_perform_152 ?_
                    obtain ⟨qσ42, hf⟩ := cc_t_s hf
                    obtain ⟨σ42, kv43, z44, hσ42, hf⟩ := cc_cl_s hf
                    obtain ⟨iz44, mσ42⟩ := hR 73 σ3 [z40, z41] σ42 kv43 z44 hσ42
                    have mσ42 : cw_Met l v yX2_typeOf cX2_typeOf 2 (some (.object "PureHouse$Node")) d [cR v z40, cR v z41] σ3 σ42 kv43 (some (cR v z44)) := mσ42 iz40 iz41
                    refine cw_cv (b := z40) (t := 3) (n := 1) (rest := []) (As := [cR v z41]) B mσ42 qσ42 ⟨by decide, by decide⟩ cgo_yX2_typeOf cml_X11_233 cin_yX2_typeOf cse_yX2_typeOf (by decide +kernel) (by decide) rfl hl.1.1 (Nat.le_of_ble_eq_true rfl) dX11_perform_155 rfl hw (fun h0 H locs cells slots hw => ?_) (fun h0 H locs cells slots q ce hw h1 h2 h3 => ?_)
                    · rcases hf with ⟨-, hf⟩ | ⟨hk, -⟩
                      · skip
                        refine lv_pop hx hb dX11_perform_158 (cR_cat _) ?_
                        refine cl_aload_n hx hb dX11_perform_159 rfl (lv_at hl.1 0 rfl) ?_
                        obtain ⟨z45, ez45, iz45, rz45, hf⟩ := cc_g_s hw hf
                        refine cw_get (val := cR v z45) B hw rz45 ⟨by decide, by decide⟩ (by decide) cwi_12 cfl_X11_32 ez45 rfl dX11_perform_160 ?_
                        refine cl_aload_n hx hb dX11_perform_163 rfl (lv_at hl.1 1 rfl) ?_
                        obtain ⟨z46, ez46, iz46, rz46, hf⟩ := cc_g_s hw hf
                        refine cw_get (val := cR v z46) B hw rz46 ⟨by decide, by decide⟩ (by decide) cwi_10 cfl_X11_229 ez46 rfl dX11_perform_164 ?_
                        obtain ⟨qσ47, hf⟩ := cc_t_s hf
                        obtain ⟨σ47, kv48, z49, hσ47, hf⟩ := cc_cl_s hf
                        obtain ⟨iz49, mσ47⟩ := hR 95 σ42 [z45, z46] σ47 kv48 z49 hσ47
                        have mσ47 : cw_Met l v yX4_tellHead cX4_tellHead 3 none d [cR v z45, cR v z46] σ42 σ47 kv48 none := mσ47 iz45 iz46
                        refine cw_cv (b := z45) (t := 5) (n := 1) (rest := []) (As := [cR v z46]) B mσ47 qσ47 ⟨by decide, by decide⟩ cgo_yX4_tellHead cml_X11_240 cin_yX4_tellHead cse_yX4_tellHead (by decide +kernel) (by decide) rfl hl.1.1 (Nat.le_of_ble_eq_true rfl) dX11_perform_167 rfl hw (fun h0 H locs cells slots hw => ?_) (fun h0 H locs cells slots q ce hw h1 h2 h3 => ?_)
                        · rcases hf with ⟨-, hf⟩ | ⟨hk, -⟩
                          · skip
                            refine cl_aload_n hx hb dX11_perform_170 rfl (lv_at hl.1 0 rfl) ?_
                            obtain ⟨z50, ez50, iz50, rz50, hf⟩ := cc_g_s hw hf
                            refine cw_get (val := cR v z50) B hw rz50 ⟨by decide, by decide⟩ (by decide) cwi_12 cfl_X11_32 ez50 rfl dX11_perform_171 ?_
                            refine lv_bipush (v := rI 10) hx hb dX11_perform_174 (by decide +kernel) ?_
                            obtain ⟨qσ51, hf⟩ := cc_t_s hf
                            obtain ⟨σ51, kv52, z53, hσ51, hf⟩ := cc_cl_s hf
                            obtain ⟨iz53, mσ51⟩ := hR 88 σ47 [z50, 10] σ51 kv52 z53 hσ51
                            have mσ51 : cw_Met l v yX4_put cX4_put 2 none d [cR v z50, .int (rI 10)] σ47 σ51 kv52 none := mσ51 iz50 ⟨by decide, by decide⟩
                            refine cw_cv (b := z50) (t := 5) (n := 1) (rest := []) (As := [.int (rI 10)]) B mσ51 qσ51 ⟨by decide, by decide⟩ cgo_yX4_put cml_X11_237 cin_yX4_put cse_yX4_put (by decide +kernel) (by decide) rfl hl.1.1 (Nat.le_of_ble_eq_true rfl) dX11_perform_176 rfl hw (fun h0 H locs cells slots hw => ?_) (fun h0 H locs cells slots q ce hw h1 h2 h3 => ?_)
                            · rcases hf with ⟨-, hf⟩ | ⟨hk, -⟩
                              · skip
                                refine lv_goto (tgt := 187) hx hb dX11_perform_179 (by decide) ?_
                                exact cw_retv B hf hw dX11_perform_187
                              · exact absurd h0 hk
                            · rcases hf with ⟨hk, -⟩ | ⟨-, hf⟩
                              · exact absurd hk h0
                              · cases hf
                                exact cw_xout B hnh h0 hw h1 h2 h3
                          · exact absurd h0 hk
                        · rcases hf with ⟨hk, -⟩ | ⟨-, hf⟩
                          · exact absurd hk h0
                          · cases hf
                            exact cw_xout B hnh h0 hw h1 h2 h3
                      · exact absurd h0 hk
                    · rcases hf with ⟨hk, -⟩ | ⟨-, hf⟩
                      · exact absurd hk h0
                      · cases hf
                        exact cw_xout B hnh h0 hw h1 h2 h3
                  · replace hf := cc_if_f hf c39
                    by_cases c54 : z6 = 7
                    · replace hf := cc_if_t hf c54
                      refine rn_tab (n := 7) (tgt := 88) hx hb iz6 c54 dX11_perform_15 (by decide) (by decide) rfl (by decide) ?_
                      refine cl_aload_n hx hb dX11_perform_88 rfl (lv_at hl.1 0 rfl) ?_
                      refine cl_aload_n hx hb dX11_perform_89 rfl (lv_at hl.1 1 rfl) ?_
                      obtain ⟨qσ55, hf⟩ := cc_t_s hf
                      obtain ⟨σ55, kv56, z57, hσ55, hf⟩ := cc_cl_s hf
                      obtain ⟨iz57, mσ55⟩ := hR 35 σ3 [x0, x1] σ55 kv56 z57 hσ55
                      have mσ55 : cw_Met l v yX11_assume cX11_assume 4 none d [cR v x0, cR v x1] σ3 σ55 kv56 none := mσ55 ix0 ix1
                      refine cw_cv (b := x0) (t := 12) (n := 1) (rest := []) (As := [cR v x1]) B mσ55 qσ55 ⟨by decide, by decide⟩ cgo_yX11_assume cml_X11_220 cin_yX11_assume cse_yX11_assume (by decide +kernel) (by decide) rfl hl.1.1 (Nat.le_of_ble_eq_true rfl) dX11_perform_90 rfl hw (fun h0 H locs cells slots hw => ?_) (fun h0 H locs cells slots q ce hw h1 h2 h3 => ?_)
                      · rcases hf with ⟨-, hf⟩ | ⟨hk, -⟩
                        · skip
                          refine lv_goto (tgt := 187) hx hb dX11_perform_93 (by decide) ?_
                          exact cw_retv B hf hw dX11_perform_187
                        · exact absurd h0 hk
                      · rcases hf with ⟨hk, -⟩ | ⟨-, hf⟩
                        · exact absurd hk h0
                        · cases hf
                          exact cw_xout B hnh h0 hw h1 h2 h3
                    · replace hf := cc_if_f hf c54
                      by_cases c58 : z6 = 8
                      · replace hf := cc_if_t hf c58
                        refine rn_tab (n := 8) (tgt := 96) hx hb iz6 c58 dX11_perform_15 (by decide) (by decide) rfl (by decide) ?_
                        refine cl_aload_n hx hb dX11_perform_96 rfl (lv_at hl.1 0 rfl) ?_
                        refine cl_aload_n hx hb dX11_perform_97 rfl (lv_at hl.1 1 rfl) ?_
                        obtain ⟨qσ59, hf⟩ := cc_t_s hf
                        obtain ⟨σ59, kv60, z61, hσ59, hf⟩ := cc_cl_s hf
                        obtain ⟨iz61, mσ59⟩ := hR 41 σ3 [x0, x1] σ59 kv60 z61 hσ59
                        have mσ59 : cw_Met l v yX11_define cX11_define 3 none d [cR v x0, cR v x1] σ3 σ59 kv60 none := mσ59 ix0 ix1
                        refine cw_cv (b := x0) (t := 12) (n := 1) (rest := []) (As := [cR v x1]) B mσ59 qσ59 ⟨by decide, by decide⟩ cgo_yX11_define cml_X11_223 cin_yX11_define cse_yX11_define (by decide +kernel) (by decide) rfl hl.1.1 (Nat.le_of_ble_eq_true rfl) dX11_perform_98 rfl hw (fun h0 H locs cells slots hw => ?_) (fun h0 H locs cells slots q ce hw h1 h2 h3 => ?_)
                        · rcases hf with ⟨-, hf⟩ | ⟨hk, -⟩
                          · skip
                            refine lv_goto (tgt := 187) hx hb dX11_perform_101 (by decide) ?_
                            exact cw_retv B hf hw dX11_perform_187
                          · exact absurd h0 hk
                        · rcases hf with ⟨hk, -⟩ | ⟨-, hf⟩
                          · exact absurd hk h0
                          · cases hf
                            exact cw_xout B hnh h0 hw h1 h2 h3
                      · replace hf := cc_if_f hf c58
                        refine rn_tabO (tgt := 182) hx hb iz6 dX11_perform_15 (by omega) (by decide) ?_
                        exact pw_X11_perform_182 rfl hR htr hd5 B hnh σ3 x0 x1 ix0 ix1 hf _ _ _ _ _ hw (cl_sub hl [0, 1] rfl)
    · exact absurd h0 hk
  · rcases hf with ⟨hk, -⟩ | ⟨-, hf⟩
    · exact absurd hk h0
    · cases hf
      exact cw_xout B hnh h0 hw h1 h2 h3

set_option maxHeartbeats 4000000 in
set_option maxRecDepth 100000 in
theorem pm_X11_perform {v : cwE} {bd : cBd} {l : Launch} {d : Nat} {rec : Nat → CS → List Int → CO} (hbd : bd = cw_bd v) (hR : cw_Rec l v d rec) (htr : l.stackTraces = false) (hd5 : 5 ≤ d) (σ σ' : CS) (x0 x1 : Int) (kd : Nat) (r : Int) (ix0 : inR x0) (ix1 : inR x1) (hf : pc_X11_perform_0 rec bd σ x0 x1 = some (σ', kd, r)) : cw_Met l v yX11_perform cX11_perform 2 none (d + 1) [cR v x0, cR v x1] σ σ' kd none := by
  refine cw_ofW (by decide +kernel) ?_
  intro p e s m args below meth c s₁ B hml hv
  obtain ⟨rfl, hM, hK⟩ := hv
  have hts := atoms_spec (ws := Cond.code yX11_perform cX11_perform 2 none :: cw_bw) B.pre
  have hB : cw_B v RX11 p s m _ meth c cX11_perform 2 none := ⟨B.exec, B.bytes, B.returns, hml, findClass_of_methodNamed B.named, fun w h => hts w (List.mem_cons_of_mem _ h), B.notSynchronized, hK⟩
  have hnh := cc_nh B (hts _ List.mem_cons_self)
  rw [lg_entry_eq]
  obtain ⟨ls, hls, hl⟩ := cl_ent [cR v x0, cR v x1] 2 (cl_1r (cl_1r cl_10)) (Nat.le_of_ble_eq_true rfl)
  rw [hls]
  exact pw_X11_perform_0 hbd hR htr hd5 hB hnh σ x0 x1 ix0 ix1 hf _ _ _ _ _ (cw_W0 hM) (cl_sub hl [0, 1] rfl)

set_option maxHeartbeats 4000000 in
set_option maxRecDepth 100000 in
theorem pw_X11_refuseBesideNames_0 {v : cwE} {bd : cBd} {p : Program} {l : Launch} {e : Env} {s : State} {m : MethodId} {args : Array Value} {below : List Frame} {meth : Method} {c : Code} {d : Nat} {rec : Nat → CS → List Int → CO} {σ0 σ' : CS} {kd : Nat} {r : Int} (hbd : bd = cw_bd v) (hR : cw_Rec l v d rec) (htr : l.stackTraces = false) (hd5 : 5 ≤ d) (B : cw_B v RX11 p s m args meth c cX11_refuseBesideNames 2 none) (hnh : ∀ x ∈ c.exceptionTable.toList, False) : ∀ (σ : CS) (x0 x1 : Int), inR x0 → inR x1 → pc_X11_refuseBesideNames_0 rec bd σ x0 x1 = some (σ', kd, r) → ∀ (H : Heap) (locs : List Loc) (cells slots : Nat) (ls : Array Slot), cw_W v s σ0 σ H locs cells slots → cl_has ls 2 [(0, cR v x0), (1, cR v x1)] → W p l e (cw_rm v (d + 1) σ0) s m args below meth c H locs cells slots (cw_Z below v σ0 σ' kd none args s) (F0 m 0 ls []) := by
  subst hbd
  obtain ⟨hx, hb, hr, hml, hown, hts, hlk, hK⟩ := id B
  intro σ x0 x1 ix0 ix1 hf H locs cells slots ls hw hl
  unfold pc_X11_refuseBesideNames_0 at hf
  refine cl_aload_n hx hb dX11_refuseBesideNames_0 rfl (lv_at hl.1 0 rfl) ?_
  obtain ⟨z1, ez1, iz1, rz1, hf⟩ := cc_g_s hw hf
  refine cw_get (val := cR v z1) B hw rz1 ⟨by decide, by decide⟩ (by decide) cwi_12 cfl_X11_23 ez1 rfl dX11_refuseBesideNames_1 ?_
  obtain ⟨z2, ez2, iz2, rz2, hf⟩ := cc_g_s hw hf
  refine cw_get (val := cR v z2) B hw rz2 ⟨by decide, by decide⟩ (by decide) cwi_1 cfl_X11_84 ez2 rfl dX11_refuseBesideNames_4 ?_
  obtain ⟨z3, ez3, iz3, rz3, hf⟩ := cc_g_s hw hf
  refine cw_get (val := .int (rI z3)) B hw rz3 ⟨by decide, by decide⟩ (by decide) cwi_6 cfl_X11_88 ez3 rfl dX11_refuseBesideNames_7 ?_
  refine rn_if_le (a := z3) (tgt := 34) hx hb iz3 dX11_refuseBesideNames_10 (by decide) (fun c4 => ?_) (fun c4 => ?_)
  · replace hf := cc_if_t hf c4
    exact cw_retv B hf hw dX11_refuseBesideNames_34
  · replace hf := cc_if_f hf c4
    refine cl_aload_n hx hb dX11_refuseBesideNames_13 rfl (lv_at hl.1 0 rfl) ?_
    obtain ⟨z5, ez5, iz5, rz5, hf⟩ := cc_g_s hw hf
    refine cw_get (val := cR v z5) B hw rz5 ⟨by decide, by decide⟩ (by decide) cwi_12 cfl_X11_16 ez5 rfl dX11_refuseBesideNames_14 ?_
    refine lv_bipush (v := rI 6) hx hb dX11_refuseBesideNames_17 (by decide +kernel) ?_
    refine cl_aload_n hx hb dX11_refuseBesideNames_19 rfl (lv_at hl.1 1 rfl) ?_
    obtain ⟨z6, ez6, iz6, rz6, hf⟩ := cc_g_s hw hf
    refine cw_get (val := .int (rI z6)) B hw rz6 ⟨by decide, by decide⟩ (by decide) cwi_10 cfl_X11_205 ez6 rfl dX11_refuseBesideNames_20 ?_
    obtain ⟨qσ7, hf⟩ := cc_t_s hf
    obtain ⟨σ7, kv8, z9, hσ7, hf⟩ := cc_cl_s hf
    obtain ⟨iz9, mσ7⟩ := hR 30 σ [z5, 6, z6] σ7 kv8 z9 hσ7
    have mσ7 : cw_Met l v yX10_set cX10_set 3 none d [cR v z5, .int (rI 6), .int (rI z6)] σ σ7 kv8 none := mσ7 iz5 ⟨by decide, by decide⟩ iz6
    refine cw_cv (b := z5) (t := 11) (n := 2) (rest := []) (As := [.int (rI 6), .int (rI z6)]) B mσ7 qσ7 ⟨by decide, by decide⟩ cgo_yX10_set cml_X11_256 cin_yX10_set cse_yX10_set (by decide +kernel) (by decide) rfl hl.1.1 (Nat.le_of_ble_eq_true rfl) dX11_refuseBesideNames_23 rfl hw (fun h0 H locs cells slots hw => ?_) (fun h0 H locs cells slots q ce hw h1 h2 h3 => ?_)
    · rcases hf with ⟨-, hf⟩ | ⟨hk, -⟩
      · skip
        obtain ⟨hy, hm⟩ := cc_x_s hf
        obtain ⟨hy1, hy2⟩ := Prod.mk.inj hy
        obtain ⟨hy2, hy3⟩ := Prod.mk.inj hy2
        subst hy2
        refine cw_throw (rest := []) B hnh htr hw (by decide) (by decide +kernel) cxc_X11_158 cxi_1 (cw_hat cxa_X11_160 (by decide +kernel) hts hK.1) (List.all_eq_true.mp cxg_X11_160) hd5 hm hy1 hl.1.1 (Nat.le_of_ble_eq_true rfl) dX11_refuseBesideNames_26 dX11_refuseBesideNames_29 dX11_refuseBesideNames_30 dX11_refuseBesideNames_33
      · exact absurd h0 hk
    · rcases hf with ⟨hk, -⟩ | ⟨-, hf⟩
      · exact absurd hk h0
      · cases hf
        exact cw_xout B hnh h0 hw h1 h2 h3

set_option maxHeartbeats 4000000 in
set_option maxRecDepth 100000 in
theorem pm_X11_refuseBesideNames {v : cwE} {bd : cBd} {l : Launch} {d : Nat} {rec : Nat → CS → List Int → CO} (hbd : bd = cw_bd v) (hR : cw_Rec l v d rec) (htr : l.stackTraces = false) (hd5 : 5 ≤ d) (σ σ' : CS) (x0 x1 : Int) (kd : Nat) (r : Int) (ix0 : inR x0) (ix1 : inR x1) (hf : pc_X11_refuseBesideNames_0 rec bd σ x0 x1 = some (σ', kd, r)) : cw_Met l v yX11_refuseBesideNames cX11_refuseBesideNames 2 none (d + 1) [cR v x0, cR v x1] σ σ' kd none := by
  refine cw_ofW (by decide +kernel) ?_
  intro p e s m args below meth c s₁ B hml hv
  obtain ⟨rfl, hM, hK⟩ := hv
  have hts := atoms_spec (ws := Cond.code yX11_refuseBesideNames cX11_refuseBesideNames 2 none :: cw_bw) B.pre
  have hB : cw_B v RX11 p s m _ meth c cX11_refuseBesideNames 2 none := ⟨B.exec, B.bytes, B.returns, hml, findClass_of_methodNamed B.named, fun w h => hts w (List.mem_cons_of_mem _ h), B.notSynchronized, hK⟩
  have hnh := cc_nh B (hts _ List.mem_cons_self)
  rw [lg_entry_eq]
  obtain ⟨ls, hls, hl⟩ := cl_ent [cR v x0, cR v x1] 2 (cl_1r (cl_1r cl_10)) (Nat.le_of_ble_eq_true rfl)
  rw [hls]
  exact pw_X11_refuseBesideNames_0 hbd hR htr hd5 hB hnh σ x0 x1 ix0 ix1 hf _ _ _ _ _ (cw_W0 hM) (cl_sub hl [0, 1] rfl)

set_option maxHeartbeats 4000000 in
set_option maxRecDepth 100000 in
theorem pw_X11_rule_28 {v : cwE} {bd : cBd} {p : Program} {l : Launch} {e : Env} {s : State} {m : MethodId} {args : Array Value} {below : List Frame} {meth : Method} {c : Code} {d : Nat} {rec : Nat → CS → List Int → CO} {σ0 σ' : CS} {kd : Nat} {r : Int} (hbd : bd = cw_bd v) (hR : cw_Rec l v d rec) (htr : l.stackTraces = false) (hd5 : 5 ≤ d) (B : cw_B v RX11 p s m args meth c cX11_rule 3 (some .int)) (hnh : ∀ x ∈ c.exceptionTable.toList, False) : ∀ (σ : CS), pc_X11_rule_28 rec bd σ = some (σ', kd, r) → ∀ (H : Heap) (locs : List Loc) (cells slots : Nat) (ls : Array Slot), cw_W v s σ0 σ H locs cells slots → cl_has ls 3 [] → W p l e (cw_rm v (d + 1) σ0) s m args below meth c H locs cells slots (cw_Z below v σ0 σ' kd (some (.int (rI r))) args s) (F0 m 28 ls []) := by
  subst hbd
  obtain ⟨hx, hb, hr, hml, hown, hts, hlk, hK⟩ := id B
  intro σ hf H locs cells slots ls hw hl
  unfold pc_X11_rule_28 at hf
  obtain ⟨hy, hm⟩ := cc_x_s hf
  obtain ⟨hy1, hy2⟩ := Prod.mk.inj hy
  obtain ⟨hy2, hy3⟩ := Prod.mk.inj hy2
  subst hy2
  refine cw_throw (rest := []) B hnh htr hw (by decide) (by decide +kernel) cxc_X11_81 cxi_3 (cw_hat cxa_X11_83 (by decide +kernel) hts hK.1) (List.all_eq_true.mp cxg_X11_83) hd5 hm hy1 hl.1.1 (Nat.le_of_ble_eq_true rfl) dX11_rule_28 dX11_rule_31 dX11_rule_32 dX11_rule_35

set_option maxHeartbeats 4000000 in
set_option maxRecDepth 100000 in
theorem pw_X11_rule_0 {v : cwE} {bd : cBd} {p : Program} {l : Launch} {e : Env} {s : State} {m : MethodId} {args : Array Value} {below : List Frame} {meth : Method} {c : Code} {d : Nat} {rec : Nat → CS → List Int → CO} {σ0 σ' : CS} {kd : Nat} {r : Int} (hbd : bd = cw_bd v) (hR : cw_Rec l v d rec) (htr : l.stackTraces = false) (hd5 : 5 ≤ d) (B : cw_B v RX11 p s m args meth c cX11_rule 3 (some .int)) (hnh : ∀ x ∈ c.exceptionTable.toList, False) : ∀ (σ : CS) (x0 x1 x2 : Int), inR x0 → inR x1 → inR x2 → pc_X11_rule_0 rec bd σ x0 x1 x2 = some (σ', kd, r) → ∀ (H : Heap) (locs : List Loc) (cells slots : Nat) (ls : Array Slot), cw_W v s σ0 σ H locs cells slots → cl_has ls 3 [(0, cR v x0), (1, .int (rI x1)), (2, .int (rI x2))] → W p l e (cw_rm v (d + 1) σ0) s m args below meth c H locs cells slots (cw_Z below v σ0 σ' kd (some (.int (rI r))) args s) (F0 m 0 ls []) := by
  subst hbd
  obtain ⟨hx, hb, hr, hml, hown, hts, hlk, hK⟩ := id B
  intro σ x0 x1 x2 ix0 ix1 ix2 hf H locs cells slots ls hw hl
  unfold pc_X11_rule_0 at hf
  refine cl_aload_n hx hb dX11_rule_0 rfl (lv_at hl.1 0 rfl) ?_
  obtain ⟨z1, ez1, iz1, rz1, hf⟩ := cc_g_s hw hf
  refine cw_get (val := cR v z1) B hw rz1 ⟨by decide, by decide⟩ (by decide) cwi_12 cfl_X11_23 ez1 rfl dX11_rule_1 ?_
  obtain ⟨z2, ez2, iz2, rz2, hf⟩ := cc_g_s hw hf
  refine cw_get (val := cR v z2) B hw rz2 ⟨by decide, by decide⟩ (by decide) cwi_1 cfl_X11_109 ez2 rfl dX11_rule_4 ?_
  refine lv_iload_n hx hb dX11_rule_7 rfl (lv_at hl.1 1 rfl) ?_
  obtain ⟨qσ3, hf⟩ := cc_t_s hf
  obtain ⟨σ3, kv4, z5, hσ3, hf⟩ := cc_cl_s hf
  obtain ⟨iz5, mσ3⟩ := hR 100 σ [z2, x1] σ3 kv4 z5 hσ3
  have mσ3 : cw_Met l v yX5_has cX5_has 2 (some .boolean) d [cR v z2, .int (rI x1)] σ σ3 kv4 (some (.int (rI z5))) := mσ3 iz2 ix1
  refine cw_cv (b := z2) (t := 6) (n := 1) (rest := []) (As := [.int (rI x1)]) B mσ3 qσ3 ⟨by decide, by decide⟩ cgo_yX5_has cml_X11_121 cin_yX5_has cse_yX5_has (by decide +kernel) (by decide) rfl hl.1.1 (Nat.le_of_ble_eq_true rfl) dX11_rule_8 rfl hw (fun h0 H locs cells slots hw => ?_) (fun h0 H locs cells slots q ce hw h1 h2 h3 => ?_)
  · rcases hf with ⟨-, hf⟩ | ⟨hk, -⟩
    · skip
      refine rn_if_eq (a := z5) (tgt := 28) hx hb iz5 dX11_rule_11 (by decide) (fun c6 => ?_) (fun c6 => ?_)
      · replace hf := cc_if_t hf c6
        exact pw_X11_rule_28 rfl hR htr hd5 B hnh σ3 hf _ _ _ _ _ hw (cl_sub hl [] rfl)
      · replace hf := cc_if_f hf c6
        refine cl_aload_n hx hb dX11_rule_14 rfl (lv_at hl.1 0 rfl) ?_
        obtain ⟨z7, ez7, iz7, rz7, hf⟩ := cc_g_s hw hf
        refine cw_get (val := cR v z7) B hw rz7 ⟨by decide, by decide⟩ (by decide) cwi_12 cfl_X11_23 ez7 rfl dX11_rule_15 ?_
        obtain ⟨z8, ez8, iz8, rz8, hf⟩ := cc_g_s hw hf
        refine cw_get (val := cR v z8) B hw rz8 ⟨by decide, by decide⟩ (by decide) cwi_1 cfl_X11_109 ez8 rfl dX11_rule_18 ?_
        refine lv_iload_n hx hb dX11_rule_21 rfl (lv_at hl.1 2 rfl) ?_
        obtain ⟨qσ9, hf⟩ := cc_t_s hf
        obtain ⟨σ9, kv10, z11, hσ9, hf⟩ := cc_cl_s hf
        obtain ⟨iz11, mσ9⟩ := hR 100 σ3 [z8, x2] σ9 kv10 z11 hσ9
        have mσ9 : cw_Met l v yX5_has cX5_has 2 (some .boolean) d [cR v z8, .int (rI x2)] σ3 σ9 kv10 (some (.int (rI z11))) := mσ9 iz8 ix2
        refine cw_cv (b := z8) (t := 6) (n := 1) (rest := []) (As := [.int (rI x2)]) B mσ9 qσ9 ⟨by decide, by decide⟩ cgo_yX5_has cml_X11_121 cin_yX5_has cse_yX5_has (by decide +kernel) (by decide) rfl hl.1.1 (Nat.le_of_ble_eq_true rfl) dX11_rule_22 rfl hw (fun h0 H locs cells slots hw => ?_) (fun h0 H locs cells slots q ce hw h1 h2 h3 => ?_)
        · rcases hf with ⟨-, hf⟩ | ⟨hk, -⟩
          · skip
            refine rn_if_ne (a := z11) (tgt := 36) hx hb iz11 dX11_rule_25 (by decide) (fun c12 => ?_) (fun c12 => ?_)
            · replace hf := cc_if_t hf c12
              refine cl_aload_n hx hb dX11_rule_36 rfl (lv_at hl.1 0 rfl) ?_
              obtain ⟨z13, ez13, iz13, rz13, hf⟩ := cc_g_s hw hf
              refine cw_get (val := cR v z13) B hw rz13 ⟨by decide, by decide⟩ (by decide) cwi_12 cfl_X11_23 ez13 rfl dX11_rule_37 ?_
              refine lv_iload_n hx hb dX11_rule_40 rfl (lv_at hl.1 1 rfl) ?_
              refine lv_iload_n hx hb dX11_rule_41 rfl (lv_at hl.1 2 rfl) ?_
              obtain ⟨qσ14, hf⟩ := cc_t_s hf
              obtain ⟨σ14, kv15, z16, hσ14, hf⟩ := cc_cl_s hf
              obtain ⟨iz16, mσ14⟩ := hR 21 σ9 [z13, x1, x2] σ14 kv15 z16 hσ14
              have mσ14 : cw_Met l v yX0_ruleOf cX0_ruleOf 3 (some .int) d [cR v z13, .int (rI x1), .int (rI x2)] σ9 σ14 kv15 (some (.int (rI z16))) := mσ14 iz13 ix1 ix2
              refine cw_cv (b := z13) (t := 1) (n := 2) (rest := []) (As := [.int (rI x1), .int (rI x2)]) B mσ14 qσ14 ⟨by decide, by decide⟩ cgo_yX0_ruleOf cml_X11_142 cin_yX0_ruleOf cse_yX0_ruleOf (by decide +kernel) (by decide) rfl hl.1.1 (Nat.le_of_ble_eq_true rfl) dX11_rule_42 rfl hw (fun h0 H locs cells slots hw => ?_) (fun h0 H locs cells slots q ce hw h1 h2 h3 => ?_)
              · rcases hf with ⟨-, hf⟩ | ⟨hk, -⟩
                · skip
                  exact cw_reti B hf hw dX11_rule_45
                · exact absurd h0 hk
              · rcases hf with ⟨hk, -⟩ | ⟨-, hf⟩
                · exact absurd hk h0
                · cases hf
                  exact cw_xout B hnh h0 hw h1 h2 h3
            · replace hf := cc_if_f hf c12
              exact pw_X11_rule_28 rfl hR htr hd5 B hnh σ9 hf _ _ _ _ _ hw (cl_sub hl [] rfl)
          · exact absurd h0 hk
        · rcases hf with ⟨hk, -⟩ | ⟨-, hf⟩
          · exact absurd hk h0
          · cases hf
            exact cw_xout B hnh h0 hw h1 h2 h3
    · exact absurd h0 hk
  · rcases hf with ⟨hk, -⟩ | ⟨-, hf⟩
    · exact absurd hk h0
    · cases hf
      exact cw_xout B hnh h0 hw h1 h2 h3

set_option maxHeartbeats 4000000 in
set_option maxRecDepth 100000 in
theorem pm_X11_rule {v : cwE} {bd : cBd} {l : Launch} {d : Nat} {rec : Nat → CS → List Int → CO} (hbd : bd = cw_bd v) (hR : cw_Rec l v d rec) (htr : l.stackTraces = false) (hd5 : 5 ≤ d) (σ σ' : CS) (x0 x1 x2 : Int) (kd : Nat) (r : Int) (ix0 : inR x0) (ix1 : inR x1) (ix2 : inR x2) (hf : pc_X11_rule_0 rec bd σ x0 x1 x2 = some (σ', kd, r)) : cw_Met l v yX11_rule cX11_rule 3 (some .int) (d + 1) [cR v x0, .int (rI x1), .int (rI x2)] σ σ' kd (some (.int (rI r))) := by
  refine cw_ofW (by decide +kernel) ?_
  intro p e s m args below meth c s₁ B hml hv
  obtain ⟨rfl, hM, hK⟩ := hv
  have hts := atoms_spec (ws := Cond.code yX11_rule cX11_rule 3 (some .int) :: cw_bw) B.pre
  have hB : cw_B v RX11 p s m _ meth c cX11_rule 3 (some .int) := ⟨B.exec, B.bytes, B.returns, hml, findClass_of_methodNamed B.named, fun w h => hts w (List.mem_cons_of_mem _ h), B.notSynchronized, hK⟩
  have hnh := cc_nh B (hts _ List.mem_cons_self)
  rw [lg_entry_eq]
  obtain ⟨ls, hls, hl⟩ := cl_ent [cR v x0, .int (rI x1), .int (rI x2)] 3 (cl_1r (cl_1i (cl_1i cl_10))) (Nat.le_of_ble_eq_true rfl)
  rw [hls]
  exact pw_X11_rule_0 hbd hR htr hd5 hB hnh σ x0 x1 x2 ix0 ix1 ix2 hf _ _ _ _ _ (cw_W0 hM) (cl_sub hl [0, 1, 2] rfl)

set_option maxHeartbeats 4000000 in
set_option maxRecDepth 100000 in
theorem pw_X11_runText_75 {v : cwE} {bd : cBd} {p : Program} {l : Launch} {e : Env} {s : State} {m : MethodId} {args : Array Value} {below : List Frame} {meth : Method} {c : Code} {d : Nat} {rec : Nat → CS → List Int → CO} {σ0 σ' : CS} {kd : Nat} {r : Int} (hbd : bd = cw_bd v) (hR : cw_Rec l v d rec) (htr : l.stackTraces = false) (hd5 : 5 ≤ d) (B : cw_B v RX11 p s m args meth c cX11_runText 4 (some .int)) (hnh : c.exceptionTable.toList = tableOf [(20, 71, 74, 158)]) : ∀ (σ : CS) (x0 : Int), inR x0 → pc_X11_runText_75 rec bd σ x0 = some (σ', kd, r) → ∀ (H : Heap) (locs : List Loc) (cells slots : Nat) (ls : Array Slot), cw_W v s σ0 σ H locs cells slots → cl_has ls 4 [(0, cR v x0)] → W p l e (cw_rm v (d + 1) σ0) s m args below meth c H locs cells slots (cw_Z below v σ0 σ' kd (some (.int (rI r))) args s) (F0 m 75 ls []) := by
  subst hbd
  obtain ⟨hx, hb, hr, hml, hown, hts, hlk, hK⟩ := id B
  intro σ x0 ix0 hf H locs cells slots ls hw hl
  unfold pc_X11_runText_75 at hf
  refine cl_aload_n hx hb dX11_runText_75 rfl (lv_at hl.1 0 rfl) ?_
  refine cl_aload_n hx hb dX11_runText_76 rfl (lv_at hl.1 0 rfl) ?_
  obtain ⟨z1, ez1, iz1, rz1, hf⟩ := cc_g_s hw hf
  refine cw_get (val := cR v z1) B hw rz1 ⟨by decide, by decide⟩ (by decide) cwi_12 cfl_X11_16 ez1 rfl dX11_runText_77 ?_
  obtain ⟨z2, ez2, iz2, rz2, hf⟩ := cc_g_s hw hf
  refine cw_get (val := .int (rI z2)) B hw rz2 ⟨by decide, by decide⟩ (by decide) cwi_11 cfl_X11_183 ez2 rfl dX11_runText_80 ?_
  obtain ⟨σ3, eσ3, rσ3, hf⟩ := cc_p_s hf
  refine cw_put B hw rσ3 cwt_12 (by decide) rfl cfl_X11_58 iz2 eσ3 rfl (cw_fv_n rfl rfl) dX11_runText_83 (fun H locs hw => ?_)
  refine cl_aload_n hx hb dX11_runText_86 rfl (lv_at hl.1 0 rfl) ?_
  refine cl_aload_n hx hb dX11_runText_87 rfl (lv_at hl.1 0 rfl) ?_
  obtain ⟨z4, ez4, iz4, rz4, hf⟩ := cc_g_s hw hf
  refine cw_get (val := cR v z4) B hw rz4 ⟨by decide, by decide⟩ (by decide) cwi_12 cfl_X11_16 ez4 rfl dX11_runText_88 ?_
  obtain ⟨z5, ez5, iz5, rz5, hf⟩ := cc_g_s hw hf
  refine cw_get (val := .int (rI z5)) B hw rz5 ⟨by decide, by decide⟩ (by decide) cwi_11 cfl_X11_186 ez5 rfl dX11_runText_91 ?_
  obtain ⟨σ6, eσ6, rσ6, hf⟩ := cc_p_s hf
  refine cw_put B hw rσ6 cwt_12 (by decide) rfl cfl_X11_61 iz5 eσ6 rfl (cw_fv_n rfl rfl) dX11_runText_94 (fun H locs hw => ?_)
  refine cl_aload_n hx hb dX11_runText_97 rfl (lv_at hl.1 0 rfl) ?_
  obtain ⟨z7, ez7, iz7, rz7, hf⟩ := cc_g_s hw hf
  refine cw_get (val := .int (rI z7)) B hw rz7 ⟨by decide, by decide⟩ (by decide) cwi_12 cfl_X11_58 ez7 rfl dX11_runText_98 ?_
  exact cw_reti B hf hw dX11_runText_101

set_option maxHeartbeats 4000000 in
set_option maxRecDepth 100000 in
theorem pw_X11_runText_31 {v : cwE} {bd : cBd} {p : Program} {l : Launch} {e : Env} {s : State} {m : MethodId} {args : Array Value} {below : List Frame} {meth : Method} {c : Code} {d : Nat} {rec : Nat → CS → List Int → CO} {σ0 σ' : CS} {kd : Nat} {r : Int} (hbd : bd = cw_bd v) (hR : cw_Rec l v d rec) (htr : l.stackTraces = false) (hd5 : 5 ≤ d) (B : cw_B v RX11 p s m args meth c cX11_runText 4 (some .int)) (hnh : c.exceptionTable.toList = tableOf [(20, 71, 74, 158)]) : ∀ (n : Nat) (σ : CS) (x0 x2 x3 : Int), inR x0 → inR x2 → inR x3 → pc_X11_runText_31 rec bd n σ x0 x2 x3 = some (σ', kd, r) → ∀ (H : Heap) (locs : List Loc) (cells slots : Nat) (ls : Array Slot), cw_W v s σ0 σ H locs cells slots → cl_has ls 4 [(0, cR v x0), (2, cR v x2), (3, .int (rI x3))] → W p l e (cw_rm v (d + 1) σ0) s m args below meth c H locs cells slots (cw_Z below v σ0 σ' kd (some (.int (rI r))) args s) (F0 m 31 ls []) := by
  subst hbd
  obtain ⟨hx, hb, hr, hml, hown, hts, hlk, hK⟩ := id B
  intro n
  induction n with
  | zero => intro σ x0 x2 x3 ix0 ix2 ix3 hf; cases hf
  | succ n ih =>
    intro σ x0 x2 x3 ix0 ix2 ix3 hf H locs cells slots ls hw hl
    unfold pc_X11_runText_31 at hf
    refine lv_iload_n hx hb dX11_runText_31 rfl (lv_at hl.1 2 rfl) ?_
    refine cl_aload_n hx hb dX11_runText_32 rfl (lv_at hl.1 1 rfl) ?_
    obtain ⟨qσ1, hf⟩ := cc_t_s hf
    obtain ⟨σ1, z3, hσ1, hf⟩ := cc_cn_s hf
    obtain ⟨iz3, mσ1⟩ := hR 13 σ [x2] σ1 0 z3 hσ1
    have mσ1 : cw_Met l v yJx4a65c_size_8abf5 cJx4a65c_size_8abf5 1 (some .int) d [cR v x2] σ σ1 0 (some (.int (rI z3))) := mσ1 ix2
    refine cw_cf (b := x2) (n := 0) (rest := [.int (rI x3)]) (As := []) B mσ1 qσ1 cgo_yJx4a65c_size_8abf5 cfm_X11_168 cin_yJx4a65c_size_8abf5 cfs_yJx4a65c_size_8abf5 (cw_face_size hK) (by decide +kernel) (by decide) rfl hl.1.1 (Nat.le_of_ble_eq_true rfl) dX11_runText_33 rfl hw (fun H locs cells slots hw => ?_)
    refine rn_icmp_ge (a := x3) (b := z3) (tgt := 71) hx hb ix3 iz3 dX11_runText_38 (by decide) (fun c4 => ?_) (fun c4 => ?_)
    · replace hf := cc_if_t hf c4
      refine lv_goto (tgt := 75) hx hb dX11_runText_71 (by decide) ?_
      exact pw_X11_runText_75 rfl hR htr hd5 B hnh σ1 x0 ix0 hf _ _ _ _ _ hw (cl_sub hl [0] rfl)
    · replace hf := cc_if_f hf c4
      refine cl_aload_n hx hb dX11_runText_41 rfl (lv_at hl.1 0 rfl) ?_
      refine cl_aload_n hx hb dX11_runText_42 rfl (lv_at hl.1 1 rfl) ?_
      refine lv_iload_n hx hb dX11_runText_43 rfl (lv_at hl.1 2 rfl) ?_
      obtain ⟨qσ5, hf⟩ := cc_t_s hf
      obtain ⟨σ5, z7, hσ5, hf⟩ := cc_cn_s hf
      obtain ⟨iz7, mσ5⟩ := hR 9 σ1 [x2, x3] σ5 0 z7 hσ5
      have mσ5 : cw_Met l v yJx4a65c_get_915e3 cJx4a65c_get_915e3 2 (some (.object "java/lang/Object")) d [cR v x2, .int (rI x3)] σ1 σ5 0 (some (cR v z7)) := mσ5 ix2 ix3
      refine cw_cf (b := x2) (n := 1) (rest := [cR v x0]) (As := [.int (rI x3)]) B mσ5 qσ5 cgo_yJx4a65c_get_915e3 cfm_X11_173 cin_yJx4a65c_get_915e3 cfs_yJx4a65c_get_915e3 (cw_face_get hK) (by decide +kernel) (by decide) rfl hl.1.1 (cl_cs (cl_1r cl_10) (Nat.le_of_ble_eq_true rfl)) dX11_runText_44 rfl hw (fun H locs cells slots hw => ?_)
      obtain ⟨q8, hf⟩ := cc_t_s hf
      refine cw_cast B hw q8 ⟨by decide, by decide⟩ ccl_X11_177 dX11_runText_49 ?_
      obtain ⟨qσ9, hf⟩ := cc_t_s hf
      obtain ⟨σ9, kv10, z11, hσ9, hf⟩ := cc_ct_s hf
      obtain ⟨iz11, mσ9⟩ := hR 54 σ5 [x0, z7] σ9 kv10 z11 hσ9
      have mσ9 : cw_Met l v yX11_perform cX11_perform 2 none d [cR v x0, cR v z7] σ5 σ9 kv10 none := mσ9 ix0 iz7
      refine cw_cv (b := x0) (t := 12) (n := 1) (rest := []) (As := [cR v z7]) B mσ9 qσ9 ⟨by decide, by decide⟩ cgo_yX11_perform cml_X11_179 cin_yX11_perform cse_yX11_perform (by decide +kernel) (by decide) rfl hl.1.1 (Nat.le_of_ble_eq_true rfl) dX11_runText_52 rfl hw (fun h0 H locs cells slots hw => ?_) (fun h0 H locs cells slots q ce hw h1 h2 h3 => ?_)
      · rcases hf with ⟨-, hf⟩ | ⟨hk, -⟩
        · skip
          refine cl_aload_n hx hb dX11_runText_55 rfl (lv_at hl.1 0 rfl) ?_
          refine lv_dup hx hb dX11_runText_56 (cR_cat _) ?_
          obtain ⟨z12, ez12, iz12, rz12, hf⟩ := cc_g_s hw hf
          refine cw_get (val := .int (rI z12)) B hw rz12 ⟨by decide, by decide⟩ (by decide) cwi_12 cfl_X11_64 ez12 rfl dX11_runText_57 ?_
          refine lv_iconst (v := rI 1) hx hb dX11_runText_60 rfl ?_
          obtain ⟨z13, ez13, iz13, hf⟩ := cc_ck_s hf
          refine rn_add hx hb ez13 dX11_runText_61 ?_
          obtain ⟨σ14, eσ14, rσ14, hf⟩ := cc_p_s hf
          refine cw_put B hw rσ14 cwt_12 (by decide) rfl cfl_X11_64 iz13 eσ14 rfl (cw_fv_n rfl rfl) dX11_runText_62 (fun H locs hw => ?_)
          obtain ⟨z15, ez15, iz15, hf⟩ := cc_ck_s hf
          refine cl_iinc (v := rI z15) (lv' := [(3, .int (rI z15)), (0, cR v x0), (2, cR v x2)]) hx hb dX11_runText_65 hl (k := 2) rfl (by rw [ez15]; exact rI_add _ _) (by decide) rfl (fun ls hl => ?_)
          refine lv_goto (tgt := 31) hx hb dX11_runText_68 (by decide) ?_
          exact ih σ14 x0 x2 z15 ix0 ix2 iz15 hf _ _ _ _ _ hw (cl_sub hl [1, 2, 0] rfl)
        · omega
      · rcases hf with ⟨hk, -⟩ | ⟨hk, hf⟩
        · exact absurd hk h0
        · subst hk
          refine cw_catch (hpc := 74) B hnh (by decide) cxc_X11_158 h1 h2 h3 ?_
          refine cl_xstore_n (lv' := [(0, cR v x0), (3, .int (rI x3))]) hx hb dX11_runText_74 rfl hl (by decide) (by decide) rfl (fun ls hl => ?_)
          exact pw_X11_runText_75 rfl hR htr hd5 B hnh σ9 x0 ix0 hf _ _ _ _ _ hw (cl_sub hl [0] rfl)

set_option maxHeartbeats 4000000 in
set_option maxRecDepth 100000 in
theorem pw_X11_runText_0 {v : cwE} {bd : cBd} {p : Program} {l : Launch} {e : Env} {s : State} {m : MethodId} {args : Array Value} {below : List Frame} {meth : Method} {c : Code} {d : Nat} {rec : Nat → CS → List Int → CO} {σ0 σ' : CS} {kd : Nat} {r : Int} (hbd : bd = cw_bd v) (hR : cw_Rec l v d rec) (htr : l.stackTraces = false) (hd5 : 5 ≤ d) (B : cw_B v RX11 p s m args meth c cX11_runText 4 (some .int)) (hnh : c.exceptionTable.toList = tableOf [(20, 71, 74, 158)]) : ∀ (σ : CS) (x0 x1 : Int), inR x0 → inR x1 → pc_X11_runText_0 rec bd σ x0 x1 = some (σ', kd, r) → ∀ (H : Heap) (locs : List Loc) (cells slots : Nat) (ls : Array Slot), cw_W v s σ0 σ H locs cells slots → cl_has ls 4 [(0, cR v x0), (1, .int (rI x1))] → W p l e (cw_rm v (d + 1) σ0) s m args below meth c H locs cells slots (cw_Z below v σ0 σ' kd (some (.int (rI r))) args s) (F0 m 0 ls []) := by
  subst hbd
  obtain ⟨hx, hb, hr, hml, hown, hts, hlk, hK⟩ := id B
  intro σ x0 x1 ix0 ix1 hf H locs cells slots ls hw hl
  unfold pc_X11_runText_0 at hf
  refine cl_aload_n hx hb dX11_runText_0 rfl (lv_at hl.1 0 rfl) ?_
  obtain ⟨z1, ez1, iz1, rz1, hf⟩ := cc_g_s hw hf
  refine cw_get (val := cR v z1) B hw rz1 ⟨by decide, by decide⟩ (by decide) cwi_12 cfl_X11_32 ez1 rfl dX11_runText_1 ?_
  refine lv_iconst (v := rI 0) hx hb dX11_runText_4 rfl ?_
  obtain ⟨σ2, eσ2, rσ2, hf⟩ := cc_p_s hf
  refine cw_put B hw rσ2 cwt_5 (by decide) rfl cfl_X11_96 ⟨by decide, by decide⟩ eσ2 rfl (cw_fv_n rfl rfl) dX11_runText_5 (fun H locs hw => ?_)
  refine cl_aload_n hx hb dX11_runText_8 rfl (lv_at hl.1 0 rfl) ?_
  obtain ⟨z3, ez3, iz3, rz3, hf⟩ := cc_g_s hw hf
  refine cw_get (val := cR v z3) B hw rz3 ⟨by decide, by decide⟩ (by decide) cwi_12 cfl_X11_16 ez3 rfl dX11_runText_9 ?_
  obtain ⟨qσ4, hf⟩ := cc_t_s hf
  obtain ⟨σ4, z6, hσ4, hf⟩ := cc_cn_s hf
  obtain ⟨iz6, mσ4⟩ := hR 28 σ2 [z3] σ4 0 z6 hσ4
  have mσ4 : cw_Met l v yX10_clear cX10_clear 1 none d [cR v z3] σ2 σ4 0 none := mσ4 iz3
  refine cw_cv (b := z3) (t := 11) (n := 0) (rest := []) (As := []) B mσ4 qσ4 ⟨by decide, by decide⟩ cgo_yX10_clear cml_X11_161 cin_yX10_clear cse_yX10_clear (by decide +kernel) (by decide) rfl hl.1.1 (Nat.le_of_ble_eq_true rfl) dX11_runText_12 rfl hw (fun h0 H locs cells slots hw => ?_) (fun h0 H locs cells slots q ce hw h1 h2 h3 => ?_)
  · skip
    refine cl_aload_n hx hb dX11_runText_15 rfl (lv_at hl.1 0 rfl) ?_
    refine lv_iconst (v := rI 0) hx hb dX11_runText_16 rfl ?_
    obtain ⟨σ7, eσ7, rσ7, hf⟩ := cc_p_s hf
    refine cw_put B hw rσ7 cwt_12 (by decide) rfl cfl_X11_64 ⟨by decide, by decide⟩ eσ7 rfl (cw_fv_n rfl rfl) dX11_runText_17 (fun H locs hw => ?_)
    refine cl_aload_n hx hb dX11_runText_20 rfl (lv_at hl.1 0 rfl) ?_
    obtain ⟨z8, ez8, iz8, rz8, hf⟩ := cc_g_s hw hf
    refine cw_get (val := cR v z8) B hw rz8 ⟨by decide, by decide⟩ (by decide) cwi_12 cfl_X11_41 ez8 rfl dX11_runText_21 ?_
    refine lv_iload_n hx hb dX11_runText_24 rfl (lv_at hl.1 1 rfl) ?_
    obtain ⟨qσ9, hf⟩ := cc_t_s hf
    obtain ⟨σ9, kv10, z11, hσ9, hf⟩ := cc_ct_s hf
    obtain ⟨iz11, mσ9⟩ := hR 124 σ7 [z8, x1] σ9 kv10 z11 hσ9
    have mσ9 : cw_Met l v yX7_readText cX7_readText 4 (some (.object "java/util/List")) d [cR v z8, .int (rI x1)] σ7 σ9 kv10 (some (cR v z11)) := mσ9 iz8 ix1
    refine cw_cv (b := z8) (t := 8) (n := 1) (rest := []) (As := [.int (rI x1)]) B mσ9 qσ9 ⟨by decide, by decide⟩ cgo_yX7_readText cml_X11_164 cin_yX7_readText cse_yX7_readText (by decide +kernel) (by decide) rfl hl.1.1 (Nat.le_of_ble_eq_true rfl) dX11_runText_25 rfl hw (fun h0 H locs cells slots hw => ?_) (fun h0 H locs cells slots q ce hw h1 h2 h3 => ?_)
    · rcases hf with ⟨-, hf⟩ | ⟨hk, -⟩
      · skip
        refine cl_astore_n (lv' := [(2, cR v z11), (0, cR v x0), (1, .int (rI x1))]) hx hb dX11_runText_28 rfl hl (by decide) rfl (fun ls hl => ?_)
        refine lv_iconst (v := rI 0) hx hb dX11_runText_29 rfl ?_
        refine cl_istore_n (lv' := [(3, .int (rI 0)), (2, cR v z11), (0, cR v x0), (1, .int (rI x1))]) hx hb dX11_runText_30 rfl hl (by decide) rfl (fun ls hl => ?_)
        exact pw_X11_runText_31 rfl hR htr hd5 B hnh 2000000 σ9 x0 z11 0 ix0 iz11 ⟨by decide, by decide⟩ hf _ _ _ _ _ hw (cl_sub hl [2, 1, 0] rfl)
      · omega
    · rcases hf with ⟨hk, -⟩ | ⟨hk, hf⟩
      · exact absurd hk h0
      · subst hk
        refine cw_catch (hpc := 74) B hnh (by decide) cxc_X11_158 h1 h2 h3 ?_
        refine cl_xstore_n (lv' := [(0, cR v x0), (1, .int (rI x1))]) hx hb dX11_runText_74 rfl hl (by decide) (by decide) rfl (fun ls hl => ?_)
        exact pw_X11_runText_75 rfl hR htr hd5 B hnh σ9 x0 ix0 hf _ _ _ _ _ hw (cl_sub hl [0] rfl)
  · exact absurd rfl h0

set_option maxHeartbeats 4000000 in
set_option maxRecDepth 100000 in
theorem pm_X11_runText {v : cwE} {bd : cBd} {l : Launch} {d : Nat} {rec : Nat → CS → List Int → CO} (hbd : bd = cw_bd v) (hR : cw_Rec l v d rec) (htr : l.stackTraces = false) (hd5 : 5 ≤ d) (σ σ' : CS) (x0 x1 : Int) (kd : Nat) (r : Int) (ix0 : inR x0) (ix1 : inR x1) (hf : pc_X11_runText_0 rec bd σ x0 x1 = some (σ', kd, r)) : cw_MetW l v yX11_runText cX11_runText 4 (some .int) [(20, 71, 74, 158)] (d + 1) [cR v x0, .int (rI x1)] σ σ' kd (some (.int (rI r))) := by
  refine cw_ofWW (by decide +kernel) ?_
  intro p e s m args below meth c s₁ B hml hv
  obtain ⟨rfl, hM, hK⟩ := hv
  have hts := atoms_spec (ws := Cond.codeWith yX11_runText cX11_runText 4 (some .int) [(20, 71, 74, 158)] :: cw_bw) B.pre
  have hB : cw_B v RX11 p s m _ meth c cX11_runText 4 (some .int) := ⟨B.exec, B.bytes, B.returns, hml, findClass_of_methodNamed B.named, fun w h => hts w (List.mem_cons_of_mem _ h), B.notSynchronized, hK⟩
  have hnh := vx_table (x := yX11_runText) B (hts _ List.mem_cons_self)
  rw [lg_entry_eq]
  obtain ⟨ls, hls, hl⟩ := cl_ent [cR v x0, .int (rI x1)] 4 (cl_1r (cl_1i cl_10)) (Nat.le_of_ble_eq_true rfl)
  rw [hls]
  exact pw_X11_runText_0 hbd hR htr hd5 hB hnh σ x0 x1 ix0 ix1 hf _ _ _ _ _ (cw_W0 hM) (cl_sub hl [0, 1] rfl)

set_option maxHeartbeats 4000000 in
set_option maxRecDepth 100000 in
theorem pw_X11_same_28 {v : cwE} {bd : cBd} {p : Program} {l : Launch} {e : Env} {s : State} {m : MethodId} {args : Array Value} {below : List Frame} {meth : Method} {c : Code} {d : Nat} {rec : Nat → CS → List Int → CO} {σ0 σ' : CS} {kd : Nat} {r : Int} (hbd : bd = cw_bd v) (hR : cw_Rec l v d rec) (htr : l.stackTraces = false) (hd5 : 5 ≤ d) (B : cw_B v RX11 p s m args meth c cX11_same 3 (some .int)) (hnh : ∀ x ∈ c.exceptionTable.toList, False) : ∀ (σ : CS), pc_X11_same_28 rec bd σ = some (σ', kd, r) → ∀ (H : Heap) (locs : List Loc) (cells slots : Nat) (ls : Array Slot), cw_W v s σ0 σ H locs cells slots → cl_has ls 3 [] → W p l e (cw_rm v (d + 1) σ0) s m args below meth c H locs cells slots (cw_Z below v σ0 σ' kd (some (.int (rI r))) args s) (F0 m 28 ls []) := by
  subst hbd
  obtain ⟨hx, hb, hr, hml, hown, hts, hlk, hK⟩ := id B
  intro σ hf H locs cells slots ls hw hl
  unfold pc_X11_same_28 at hf
  obtain ⟨hy, hm⟩ := cc_x_s hf
  obtain ⟨hy1, hy2⟩ := Prod.mk.inj hy
  obtain ⟨hy2, hy3⟩ := Prod.mk.inj hy2
  subst hy2
  refine cw_throw (rest := []) B hnh htr hw (by decide) (by decide +kernel) cxc_X11_81 cxi_3 (cw_hat cxa_X11_83 (by decide +kernel) hts hK.1) (List.all_eq_true.mp cxg_X11_83) hd5 hm hy1 hl.1.1 (Nat.le_of_ble_eq_true rfl) dX11_same_28 dX11_same_31 dX11_same_32 dX11_same_35

set_option maxHeartbeats 4000000 in
set_option maxRecDepth 100000 in
theorem pw_X11_same_0 {v : cwE} {bd : cBd} {p : Program} {l : Launch} {e : Env} {s : State} {m : MethodId} {args : Array Value} {below : List Frame} {meth : Method} {c : Code} {d : Nat} {rec : Nat → CS → List Int → CO} {σ0 σ' : CS} {kd : Nat} {r : Int} (hbd : bd = cw_bd v) (hR : cw_Rec l v d rec) (htr : l.stackTraces = false) (hd5 : 5 ≤ d) (B : cw_B v RX11 p s m args meth c cX11_same 3 (some .int)) (hnh : ∀ x ∈ c.exceptionTable.toList, False) : ∀ (σ : CS) (x0 x1 x2 : Int), inR x0 → inR x1 → inR x2 → pc_X11_same_0 rec bd σ x0 x1 x2 = some (σ', kd, r) → ∀ (H : Heap) (locs : List Loc) (cells slots : Nat) (ls : Array Slot), cw_W v s σ0 σ H locs cells slots → cl_has ls 3 [(0, cR v x0), (1, .int (rI x1)), (2, .int (rI x2))] → W p l e (cw_rm v (d + 1) σ0) s m args below meth c H locs cells slots (cw_Z below v σ0 σ' kd (some (.int (rI r))) args s) (F0 m 0 ls []) := by
  subst hbd
  obtain ⟨hx, hb, hr, hml, hown, hts, hlk, hK⟩ := id B
  intro σ x0 x1 x2 ix0 ix1 ix2 hf H locs cells slots ls hw hl
  unfold pc_X11_same_0 at hf
  refine cl_aload_n hx hb dX11_same_0 rfl (lv_at hl.1 0 rfl) ?_
  obtain ⟨z1, ez1, iz1, rz1, hf⟩ := cc_g_s hw hf
  refine cw_get (val := cR v z1) B hw rz1 ⟨by decide, by decide⟩ (by decide) cwi_12 cfl_X11_23 ez1 rfl dX11_same_1 ?_
  obtain ⟨z2, ez2, iz2, rz2, hf⟩ := cc_g_s hw hf
  refine cw_get (val := cR v z2) B hw rz2 ⟨by decide, by decide⟩ (by decide) cwi_1 cfl_X11_84 ez2 rfl dX11_same_4 ?_
  refine lv_iload_n hx hb dX11_same_7 rfl (lv_at hl.1 1 rfl) ?_
  obtain ⟨qσ3, hf⟩ := cc_t_s hf
  obtain ⟨σ3, kv4, z5, hσ3, hf⟩ := cc_cl_s hf
  obtain ⟨iz5, mσ3⟩ := hR 100 σ [z2, x1] σ3 kv4 z5 hσ3
  have mσ3 : cw_Met l v yX5_has cX5_has 2 (some .boolean) d [cR v z2, .int (rI x1)] σ σ3 kv4 (some (.int (rI z5))) := mσ3 iz2 ix1
  refine cw_cv (b := z2) (t := 6) (n := 1) (rest := []) (As := [.int (rI x1)]) B mσ3 qσ3 ⟨by decide, by decide⟩ cgo_yX5_has cml_X11_121 cin_yX5_has cse_yX5_has (by decide +kernel) (by decide) rfl hl.1.1 (Nat.le_of_ble_eq_true rfl) dX11_same_8 rfl hw (fun h0 H locs cells slots hw => ?_) (fun h0 H locs cells slots q ce hw h1 h2 h3 => ?_)
  · rcases hf with ⟨-, hf⟩ | ⟨hk, -⟩
    · skip
      refine rn_if_eq (a := z5) (tgt := 28) hx hb iz5 dX11_same_11 (by decide) (fun c6 => ?_) (fun c6 => ?_)
      · replace hf := cc_if_t hf c6
        exact pw_X11_same_28 rfl hR htr hd5 B hnh σ3 hf _ _ _ _ _ hw (cl_sub hl [] rfl)
      · replace hf := cc_if_f hf c6
        refine cl_aload_n hx hb dX11_same_14 rfl (lv_at hl.1 0 rfl) ?_
        obtain ⟨z7, ez7, iz7, rz7, hf⟩ := cc_g_s hw hf
        refine cw_get (val := cR v z7) B hw rz7 ⟨by decide, by decide⟩ (by decide) cwi_12 cfl_X11_23 ez7 rfl dX11_same_15 ?_
        obtain ⟨z8, ez8, iz8, rz8, hf⟩ := cc_g_s hw hf
        refine cw_get (val := cR v z8) B hw rz8 ⟨by decide, by decide⟩ (by decide) cwi_1 cfl_X11_84 ez8 rfl dX11_same_18 ?_
        refine lv_iload_n hx hb dX11_same_21 rfl (lv_at hl.1 2 rfl) ?_
        obtain ⟨qσ9, hf⟩ := cc_t_s hf
        obtain ⟨σ9, kv10, z11, hσ9, hf⟩ := cc_cl_s hf
        obtain ⟨iz11, mσ9⟩ := hR 100 σ3 [z8, x2] σ9 kv10 z11 hσ9
        have mσ9 : cw_Met l v yX5_has cX5_has 2 (some .boolean) d [cR v z8, .int (rI x2)] σ3 σ9 kv10 (some (.int (rI z11))) := mσ9 iz8 ix2
        refine cw_cv (b := z8) (t := 6) (n := 1) (rest := []) (As := [.int (rI x2)]) B mσ9 qσ9 ⟨by decide, by decide⟩ cgo_yX5_has cml_X11_121 cin_yX5_has cse_yX5_has (by decide +kernel) (by decide) rfl hl.1.1 (Nat.le_of_ble_eq_true rfl) dX11_same_22 rfl hw (fun h0 H locs cells slots hw => ?_) (fun h0 H locs cells slots q ce hw h1 h2 h3 => ?_)
        · rcases hf with ⟨-, hf⟩ | ⟨hk, -⟩
          · skip
            refine rn_if_ne (a := z11) (tgt := 36) hx hb iz11 dX11_same_25 (by decide) (fun c12 => ?_) (fun c12 => ?_)
            · replace hf := cc_if_t hf c12
              refine cl_aload_n hx hb dX11_same_36 rfl (lv_at hl.1 0 rfl) ?_
              refine lv_iload_n hx hb dX11_same_37 rfl (lv_at hl.1 1 rfl) ?_
              refine lv_iload_n hx hb dX11_same_38 rfl (lv_at hl.1 2 rfl) ?_
              obtain ⟨qσ13, hf⟩ := cc_t_s hf
              obtain ⟨σ13, kv14, z15, hσ13, hf⟩ := cc_cl_s hf
              obtain ⟨iz15, mσ13⟩ := hR 38 σ9 [x0, x1, x2] σ13 kv14 z15 hσ13
              have mσ13 : cw_MetW l v yX11_compareNames cX11_compareNames 6 (some .int) [(29, 47, 48, 158)] d [cR v x0, .int (rI x1), .int (rI x2)] σ9 σ13 kv14 (some (.int (rI z15))) := mσ13 ix0 ix1 ix2
              refine cw_cvW (b := x0) (t := 12) (n := 2) (rest := []) (As := [.int (rI x1), .int (rI x2)]) B mσ13 qσ13 ⟨by decide, by decide⟩ cgo_yX11_compareNames cml_X11_152 cin_yX11_compareNames cse_yX11_compareNames (by decide +kernel) (by decide) rfl hl.1.1 (Nat.le_of_ble_eq_true rfl) dX11_same_39 rfl hw (fun h0 H locs cells slots hw => ?_) (fun h0 H locs cells slots q ce hw h1 h2 h3 => ?_)
              · rcases hf with ⟨-, hf⟩ | ⟨hk, -⟩
                · skip
                  exact cw_reti B hf hw dX11_same_42
                · exact absurd h0 hk
              · rcases hf with ⟨hk, -⟩ | ⟨-, hf⟩
                · exact absurd hk h0
                · cases hf
                  exact cw_xout B hnh h0 hw h1 h2 h3
            · replace hf := cc_if_f hf c12
              exact pw_X11_same_28 rfl hR htr hd5 B hnh σ9 hf _ _ _ _ _ hw (cl_sub hl [] rfl)
          · exact absurd h0 hk
        · rcases hf with ⟨hk, -⟩ | ⟨-, hf⟩
          · exact absurd hk h0
          · cases hf
            exact cw_xout B hnh h0 hw h1 h2 h3
    · exact absurd h0 hk
  · rcases hf with ⟨hk, -⟩ | ⟨-, hf⟩
    · exact absurd hk h0
    · cases hf
      exact cw_xout B hnh h0 hw h1 h2 h3

set_option maxHeartbeats 4000000 in
set_option maxRecDepth 100000 in
theorem pm_X11_same {v : cwE} {bd : cBd} {l : Launch} {d : Nat} {rec : Nat → CS → List Int → CO} (hbd : bd = cw_bd v) (hR : cw_Rec l v d rec) (htr : l.stackTraces = false) (hd5 : 5 ≤ d) (σ σ' : CS) (x0 x1 x2 : Int) (kd : Nat) (r : Int) (ix0 : inR x0) (ix1 : inR x1) (ix2 : inR x2) (hf : pc_X11_same_0 rec bd σ x0 x1 x2 = some (σ', kd, r)) : cw_Met l v yX11_same cX11_same 3 (some .int) (d + 1) [cR v x0, .int (rI x1), .int (rI x2)] σ σ' kd (some (.int (rI r))) := by
  refine cw_ofW (by decide +kernel) ?_
  intro p e s m args below meth c s₁ B hml hv
  obtain ⟨rfl, hM, hK⟩ := hv
  have hts := atoms_spec (ws := Cond.code yX11_same cX11_same 3 (some .int) :: cw_bw) B.pre
  have hB : cw_B v RX11 p s m _ meth c cX11_same 3 (some .int) := ⟨B.exec, B.bytes, B.returns, hml, findClass_of_methodNamed B.named, fun w h => hts w (List.mem_cons_of_mem _ h), B.notSynchronized, hK⟩
  have hnh := cc_nh B (hts _ List.mem_cons_self)
  rw [lg_entry_eq]
  obtain ⟨ls, hls, hl⟩ := cl_ent [cR v x0, .int (rI x1), .int (rI x2)] 3 (cl_1r (cl_1i (cl_1i cl_10))) (Nat.le_of_ble_eq_true rfl)
  rw [hls]
  exact pw_X11_same_0 hbd hR htr hd5 hB hnh σ x0 x1 x2 ix0 ix1 ix2 hf _ _ _ _ _ (cw_W0 hM) (cl_sub hl [0, 1, 2] rfl)

set_option maxHeartbeats 4000000 in
set_option maxRecDepth 100000 in
theorem pw_X11_sort_18 {v : cwE} {bd : cBd} {p : Program} {l : Launch} {e : Env} {s : State} {m : MethodId} {args : Array Value} {below : List Frame} {meth : Method} {c : Code} {d : Nat} {rec : Nat → CS → List Int → CO} {σ0 σ' : CS} {kd : Nat} {r : Int} (hbd : bd = cw_bd v) (hR : cw_Rec l v d rec) (htr : l.stackTraces = false) (hd5 : 5 ≤ d) (B : cw_B v RX11 p s m args meth c cX11_sort 3 (some .int)) (hnh : ∀ x ∈ c.exceptionTable.toList, False) : ∀ (σ : CS), pc_X11_sort_18 rec bd σ = some (σ', kd, r) → ∀ (H : Heap) (locs : List Loc) (cells slots : Nat) (ls : Array Slot), cw_W v s σ0 σ H locs cells slots → cl_has ls 3 [] → W p l e (cw_rm v (d + 1) σ0) s m args below meth c H locs cells slots (cw_Z below v σ0 σ' kd (some (.int (rI r))) args s) (F0 m 18 ls []) := by
  subst hbd
  obtain ⟨hx, hb, hr, hml, hown, hts, hlk, hK⟩ := id B
  intro σ hf H locs cells slots ls hw hl
  unfold pc_X11_sort_18 at hf
  obtain ⟨hy, hm⟩ := cc_x_s hf
  obtain ⟨hy1, hy2⟩ := Prod.mk.inj hy
  obtain ⟨hy2, hy3⟩ := Prod.mk.inj hy2
  subst hy2
  refine cw_throw (rest := []) B hnh htr hw (by decide) (by decide +kernel) cxc_X11_81 cxi_3 (cw_hat cxa_X11_83 (by decide +kernel) hts hK.1) (List.all_eq_true.mp cxg_X11_83) hd5 hm hy1 hl.1.1 (Nat.le_of_ble_eq_true rfl) dX11_sort_18 dX11_sort_21 dX11_sort_22 dX11_sort_25

set_option maxHeartbeats 4000000 in
set_option maxRecDepth 100000 in
theorem pw_X11_sort_0 {v : cwE} {bd : cBd} {p : Program} {l : Launch} {e : Env} {s : State} {m : MethodId} {args : Array Value} {below : List Frame} {meth : Method} {c : Code} {d : Nat} {rec : Nat → CS → List Int → CO} {σ0 σ' : CS} {kd : Nat} {r : Int} (hbd : bd = cw_bd v) (hR : cw_Rec l v d rec) (htr : l.stackTraces = false) (hd5 : 5 ≤ d) (B : cw_B v RX11 p s m args meth c cX11_sort 3 (some .int)) (hnh : ∀ x ∈ c.exceptionTable.toList, False) : ∀ (σ : CS) (x0 x1 x2 : Int), inR x0 → inR x1 → inR x2 → pc_X11_sort_0 rec bd σ x0 x1 x2 = some (σ', kd, r) → ∀ (H : Heap) (locs : List Loc) (cells slots : Nat) (ls : Array Slot), cw_W v s σ0 σ H locs cells slots → cl_has ls 3 [(0, cR v x0), (1, .int (rI x1)), (2, .int (rI x2))] → W p l e (cw_rm v (d + 1) σ0) s m args below meth c H locs cells slots (cw_Z below v σ0 σ' kd (some (.int (rI r))) args s) (F0 m 0 ls []) := by
  subst hbd
  obtain ⟨hx, hb, hr, hml, hown, hts, hlk, hK⟩ := id B
  intro σ x0 x1 x2 ix0 ix1 ix2 hf H locs cells slots ls hw hl
  unfold pc_X11_sort_0 at hf
  refine cl_aload_n hx hb dX11_sort_0 rfl (lv_at hl.1 0 rfl) ?_
  obtain ⟨z1, ez1, iz1, rz1, hf⟩ := cc_g_s hw hf
  refine cw_get (val := cR v z1) B hw rz1 ⟨by decide, by decide⟩ (by decide) cwi_12 cfl_X11_23 ez1 rfl dX11_sort_1 ?_
  obtain ⟨z2, ez2, iz2, rz2, hf⟩ := cc_g_s hw hf
  refine cw_get (val := cR v z2) B hw rz2 ⟨by decide, by decide⟩ (by decide) cwi_1 cfl_X11_109 ez2 rfl dX11_sort_4 ?_
  refine lv_iload_n hx hb dX11_sort_7 rfl (lv_at hl.1 1 rfl) ?_
  obtain ⟨qσ3, hf⟩ := cc_t_s hf
  obtain ⟨σ3, kv4, z5, hσ3, hf⟩ := cc_cl_s hf
  obtain ⟨iz5, mσ3⟩ := hR 100 σ [z2, x1] σ3 kv4 z5 hσ3
  have mσ3 : cw_Met l v yX5_has cX5_has 2 (some .boolean) d [cR v z2, .int (rI x1)] σ σ3 kv4 (some (.int (rI z5))) := mσ3 iz2 ix1
  refine cw_cv (b := z2) (t := 6) (n := 1) (rest := []) (As := [.int (rI x1)]) B mσ3 qσ3 ⟨by decide, by decide⟩ cgo_yX5_has cml_X11_121 cin_yX5_has cse_yX5_has (by decide +kernel) (by decide) rfl hl.1.1 (Nat.le_of_ble_eq_true rfl) dX11_sort_8 rfl hw (fun h0 H locs cells slots hw => ?_) (fun h0 H locs cells slots q ce hw h1 h2 h3 => ?_)
  · rcases hf with ⟨-, hf⟩ | ⟨hk, -⟩
    · skip
      refine rn_if_eq (a := z5) (tgt := 18) hx hb iz5 dX11_sort_11 (by decide) (fun c6 => ?_) (fun c6 => ?_)
      · replace hf := cc_if_t hf c6
        exact pw_X11_sort_18 rfl hR htr hd5 B hnh σ3 hf _ _ _ _ _ hw (cl_sub hl [] rfl)
      · replace hf := cc_if_f hf c6
        refine lv_iload_n hx hb dX11_sort_14 rfl (lv_at hl.1 2 rfl) ?_
        refine rn_if_ge (a := x2) (tgt := 26) hx hb ix2 dX11_sort_15 (by decide) (fun c7 => ?_) (fun c7 => ?_)
        · replace hf := cc_if_t hf c7
          refine lv_iload_n hx hb dX11_sort_26 rfl (lv_at hl.1 2 rfl) ?_
          by_cases c8 : x2 = 0
          · replace hf := cc_if_t hf c8
            refine rn_look (tgt := 52) hx hb ix2 dX11_sort_27 (by decide) (lk_eq c8) (by decide) ?_
            refine cl_aload_n hx hb dX11_sort_52 rfl (lv_at hl.1 0 rfl) ?_
            obtain ⟨z9, ez9, iz9, rz9, hf⟩ := cc_g_s hw hf
            refine cw_get (val := cR v z9) B hw rz9 ⟨by decide, by decide⟩ (by decide) cwi_12 cfl_X11_23 ez9 rfl dX11_sort_53 ?_
            refine lv_iload_n hx hb dX11_sort_56 rfl (lv_at hl.1 1 rfl) ?_
            obtain ⟨qσ10, hf⟩ := cc_t_s hf
            obtain ⟨σ10, kv11, z12, hσ10, hf⟩ := cc_cl_s hf
            obtain ⟨iz12, mσ10⟩ := hR 17 σ3 [z9, x1] σ10 kv11 z12 hσ10
            have mσ10 : cw_Met l v yX0_axiomOf cX0_axiomOf 2 (some .int) d [cR v z9, .int (rI x1)] σ3 σ10 kv11 (some (.int (rI z12))) := mσ10 iz9 ix1
            refine cw_cv (b := z9) (t := 1) (n := 1) (rest := []) (As := [.int (rI x1)]) B mσ10 qσ10 ⟨by decide, by decide⟩ cgo_yX0_axiomOf cml_X11_139 cin_yX0_axiomOf cse_yX0_axiomOf (by decide +kernel) (by decide) rfl hl.1.1 (Nat.le_of_ble_eq_true rfl) dX11_sort_57 rfl hw (fun h0 H locs cells slots hw => ?_) (fun h0 H locs cells slots q ce hw h1 h2 h3 => ?_)
            · rcases hf with ⟨-, hf⟩ | ⟨hk, -⟩
              · skip
                exact cw_reti B hf hw dX11_sort_60
              · exact absurd h0 hk
            · rcases hf with ⟨hk, -⟩ | ⟨-, hf⟩
              · exact absurd hk h0
              · cases hf
                exact cw_xout B hnh h0 hw h1 h2 h3
          · replace hf := cc_if_f hf c8
            by_cases c13 : x2 = 1
            · replace hf := cc_if_t hf c13
              refine rn_look (tgt := 61) hx hb ix2 dX11_sort_27 (by decide) (lk_ne c8 (lk_eq c13)) (by decide) ?_
              refine cl_aload_n hx hb dX11_sort_61 rfl (lv_at hl.1 0 rfl) ?_
              obtain ⟨z14, ez14, iz14, rz14, hf⟩ := cc_g_s hw hf
              refine cw_get (val := cR v z14) B hw rz14 ⟨by decide, by decide⟩ (by decide) cwi_12 cfl_X11_23 ez14 rfl dX11_sort_62 ?_
              obtain ⟨z15, ez15, iz15, rz15, hf⟩ := cc_g_s hw hf
              refine cw_get (val := cR v z15) B hw rz15 ⟨by decide, by decide⟩ (by decide) cwi_1 cfl_X11_109 ez15 rfl dX11_sort_65 ?_
              obtain ⟨z16, ez16, iz16, rz16, hf⟩ := cc_g_s hw hf
              refine cw_get (val := cR v z16) B hw rz16 ⟨by decide, by decide⟩ (by decide) cwi_6 cfl_X11_132 ez16 rfl dX11_sort_68 ?_
              refine lv_iload_n hx hb dX11_sort_71 rfl (lv_at hl.1 1 rfl) ?_
              obtain ⟨z17, ez17, iz17, rz17, bz17, hf⟩ := cc_r_s hw hf
              refine cw_aldI B hw rz17 ix1 bz17 ez17 dX11_sort_72 ?_
              exact cw_reti B hf hw dX11_sort_73
            · replace hf := cc_if_f hf c13
              refine rn_look (tgt := 74) hx hb ix2 dX11_sort_27 (by decide) (lk_ne c8 (lk_ne c13 lk_nil)) (by decide) ?_
              refine cl_aload_n hx hb dX11_sort_74 rfl (lv_at hl.1 0 rfl) ?_
              obtain ⟨z18, ez18, iz18, rz18, hf⟩ := cc_g_s hw hf
              refine cw_get (val := cR v z18) B hw rz18 ⟨by decide, by decide⟩ (by decide) cwi_12 cfl_X11_23 ez18 rfl dX11_sort_75 ?_
              obtain ⟨z19, ez19, iz19, rz19, hf⟩ := cc_g_s hw hf
              refine cw_get (val := cR v z19) B hw rz19 ⟨by decide, by decide⟩ (by decide) cwi_1 cfl_X11_109 ez19 rfl dX11_sort_78 ?_
              refine lv_iload_n hx hb dX11_sort_81 rfl (lv_at hl.1 1 rfl) ?_
              refine lv_iload_n hx hb dX11_sort_82 rfl (lv_at hl.1 2 rfl) ?_
              refine lv_iconst (v := rI 2) hx hb dX11_sort_83 rfl ?_
              obtain ⟨z20, ez20, iz20, hf⟩ := cc_ck_s hf
              refine rn_sub hx hb ez20 dX11_sort_84 ?_
              obtain ⟨qσ21, hf⟩ := cc_t_s hf
              obtain ⟨σ21, kv22, z23, hσ21, hf⟩ := cc_cl_s hf
              obtain ⟨iz23, mσ21⟩ := hR 103 σ3 [z19, x1, z20] σ21 kv22 z23 hσ21
              have mσ21 : cw_Met l v yX5_signOf cX5_signOf 3 (some .int) d [cR v z19, .int (rI x1), .int (rI z20)] σ3 σ21 kv22 (some (.int (rI z23))) := mσ21 iz19 ix1 iz20
              refine cw_cv (b := z19) (t := 6) (n := 2) (rest := []) (As := [.int (rI x1), .int (rI z20)]) B mσ21 qσ21 ⟨by decide, by decide⟩ cgo_yX5_signOf cml_X11_135 cin_yX5_signOf cse_yX5_signOf (by decide +kernel) (by decide) rfl hl.1.1 (Nat.le_of_ble_eq_true rfl) dX11_sort_85 rfl hw (fun h0 H locs cells slots hw => ?_) (fun h0 H locs cells slots q ce hw h1 h2 h3 => ?_)
              · rcases hf with ⟨-, hf⟩ | ⟨hk, -⟩
                · skip
                  exact cw_reti B hf hw dX11_sort_88
                · exact absurd h0 hk
              · rcases hf with ⟨hk, -⟩ | ⟨-, hf⟩
                · exact absurd hk h0
                · cases hf
                  exact cw_xout B hnh h0 hw h1 h2 h3
        · replace hf := cc_if_f hf c7
          exact pw_X11_sort_18 rfl hR htr hd5 B hnh σ3 hf _ _ _ _ _ hw (cl_sub hl [] rfl)
    · exact absurd h0 hk
  · rcases hf with ⟨hk, -⟩ | ⟨-, hf⟩
    · exact absurd hk h0
    · cases hf
      exact cw_xout B hnh h0 hw h1 h2 h3

set_option maxHeartbeats 4000000 in
set_option maxRecDepth 100000 in
theorem pm_X11_sort {v : cwE} {bd : cBd} {l : Launch} {d : Nat} {rec : Nat → CS → List Int → CO} (hbd : bd = cw_bd v) (hR : cw_Rec l v d rec) (htr : l.stackTraces = false) (hd5 : 5 ≤ d) (σ σ' : CS) (x0 x1 x2 : Int) (kd : Nat) (r : Int) (ix0 : inR x0) (ix1 : inR x1) (ix2 : inR x2) (hf : pc_X11_sort_0 rec bd σ x0 x1 x2 = some (σ', kd, r)) : cw_Met l v yX11_sort cX11_sort 3 (some .int) (d + 1) [cR v x0, .int (rI x1), .int (rI x2)] σ σ' kd (some (.int (rI r))) := by
  refine cw_ofW (by decide +kernel) ?_
  intro p e s m args below meth c s₁ B hml hv
  obtain ⟨rfl, hM, hK⟩ := hv
  have hts := atoms_spec (ws := Cond.code yX11_sort cX11_sort 3 (some .int) :: cw_bw) B.pre
  have hB : cw_B v RX11 p s m _ meth c cX11_sort 3 (some .int) := ⟨B.exec, B.bytes, B.returns, hml, findClass_of_methodNamed B.named, fun w h => hts w (List.mem_cons_of_mem _ h), B.notSynchronized, hK⟩
  have hnh := cc_nh B (hts _ List.mem_cons_self)
  rw [lg_entry_eq]
  obtain ⟨ls, hls, hl⟩ := cl_ent [cR v x0, .int (rI x1), .int (rI x2)] 3 (cl_1r (cl_1i (cl_1i cl_10))) (Nat.le_of_ble_eq_true rfl)
  rw [hls]
  exact pw_X11_sort_0 hbd hR htr hd5 hB hnh σ x0 x1 x2 ix0 ix1 ix2 hf _ _ _ _ _ (cw_W0 hM) (cl_sub hl [0, 1, 2] rfl)

set_option maxHeartbeats 4000000 in
set_option maxRecDepth 100000 in
theorem pw_X11_sortNumber_0 {v : cwE} {bd : cBd} {p : Program} {l : Launch} {e : Env} {s : State} {m : MethodId} {args : Array Value} {below : List Frame} {meth : Method} {c : Code} {d : Nat} {rec : Nat → CS → List Int → CO} {σ0 σ' : CS} {kd : Nat} {r : Int} (hbd : bd = cw_bd v) (hR : cw_Rec l v d rec) (htr : l.stackTraces = false) (hd5 : 5 ≤ d) (B : cw_B v RX11 p s m args meth c cX11_sortNumber 2 (some .int)) (hnh : ∀ x ∈ c.exceptionTable.toList, False) : ∀ (σ : CS) (x0 x1 : Int), inR x0 → inR x1 → pc_X11_sortNumber_0 rec bd σ x0 x1 = some (σ', kd, r) → ∀ (H : Heap) (locs : List Loc) (cells slots : Nat) (ls : Array Slot), cw_W v s σ0 σ H locs cells slots → cl_has ls 2 [(0, cR v x0), (1, cR v x1)] → W p l e (cw_rm v (d + 1) σ0) s m args below meth c H locs cells slots (cw_Z below v σ0 σ' kd (some (.int (rI r))) args s) (F0 m 0 ls []) := by
  subst hbd
  obtain ⟨hx, hb, hr, hml, hown, hts, hlk, hK⟩ := id B
  intro σ x0 x1 ix0 ix1 hf H locs cells slots ls hw hl
  unfold pc_X11_sortNumber_0 at hf
  refine cl_aload_n hx hb dX11_sortNumber_0 rfl (lv_at hl.1 0 rfl) ?_
  obtain ⟨z1, ez1, iz1, rz1, hf⟩ := cc_g_s hw hf
  refine cw_get (val := cR v z1) B hw rz1 ⟨by decide, by decide⟩ (by decide) cwi_12 cfl_X11_23 ez1 rfl dX11_sortNumber_1 ?_
  obtain ⟨z2, ez2, iz2, rz2, hf⟩ := cc_g_s hw hf
  refine cw_get (val := cR v z2) B hw rz2 ⟨by decide, by decide⟩ (by decide) cwi_1 cfl_X11_109 ez2 rfl dX11_sortNumber_4 ?_
  refine cl_aload_n hx hb dX11_sortNumber_7 rfl (lv_at hl.1 0 rfl) ?_
  obtain ⟨z3, ez3, iz3, rz3, hf⟩ := cc_g_s hw hf
  refine cw_get (val := cR v z3) B hw rz3 ⟨by decide, by decide⟩ (by decide) cwi_12 cfl_X11_9 ez3 rfl dX11_sortNumber_8 ?_
  refine cl_aload_n hx hb dX11_sortNumber_11 rfl (lv_at hl.1 1 rfl) ?_
  obtain ⟨z4, ez4, iz4, rz4, hf⟩ := cc_g_s hw hf
  refine cw_get (val := .int (rI z4)) B hw rz4 ⟨by decide, by decide⟩ (by decide) cwi_7 cfl_X11_263 ez4 rfl dX11_sortNumber_12 ?_
  refine cl_aload_n hx hb dX11_sortNumber_15 rfl (lv_at hl.1 1 rfl) ?_
  obtain ⟨z5, ez5, iz5, rz5, hf⟩ := cc_g_s hw hf
  refine cw_get (val := .int (rI z5)) B hw rz5 ⟨by decide, by decide⟩ (by decide) cwi_7 cfl_X11_266 ez5 rfl dX11_sortNumber_16 ?_
  obtain ⟨qσ6, hf⟩ := cc_t_s hf
  obtain ⟨σ6, kv7, z8, hσ6, hf⟩ := cc_cl_s hf
  obtain ⟨iz8, mσ6⟩ := hR 99 σ [z2, z3, z4, z5] σ6 kv7 z8 hσ6
  have mσ6 : cw_Met l v yX5_find cX5_find 5 (some .int) d [cR v z2, cR v z3, .int (rI z4), .int (rI z5)] σ σ6 kv7 (some (.int (rI z8))) := mσ6 iz2 iz3 iz4 iz5
  refine cw_cv (b := z2) (t := 6) (n := 3) (rest := []) (As := [cR v z3, .int (rI z4), .int (rI z5)]) B mσ6 qσ6 ⟨by decide, by decide⟩ cgo_yX5_find cml_X11_286 cin_yX5_find cse_yX5_find (by decide +kernel) (by decide) rfl hl.1.1 (Nat.le_of_ble_eq_true rfl) dX11_sortNumber_19 rfl hw (fun h0 H locs cells slots hw => ?_) (fun h0 H locs cells slots q ce hw h1 h2 h3 => ?_)
  · rcases hf with ⟨-, hf⟩ | ⟨hk, -⟩
    · skip
      exact cw_reti B hf hw dX11_sortNumber_22
    · exact absurd h0 hk
  · rcases hf with ⟨hk, -⟩ | ⟨-, hf⟩
    · exact absurd hk h0
    · cases hf
      exact cw_xout B hnh h0 hw h1 h2 h3

set_option maxHeartbeats 4000000 in
set_option maxRecDepth 100000 in
theorem pm_X11_sortNumber {v : cwE} {bd : cBd} {l : Launch} {d : Nat} {rec : Nat → CS → List Int → CO} (hbd : bd = cw_bd v) (hR : cw_Rec l v d rec) (htr : l.stackTraces = false) (hd5 : 5 ≤ d) (σ σ' : CS) (x0 x1 : Int) (kd : Nat) (r : Int) (ix0 : inR x0) (ix1 : inR x1) (hf : pc_X11_sortNumber_0 rec bd σ x0 x1 = some (σ', kd, r)) : cw_Met l v yX11_sortNumber cX11_sortNumber 2 (some .int) (d + 1) [cR v x0, cR v x1] σ σ' kd (some (.int (rI r))) := by
  refine cw_ofW (by decide +kernel) ?_
  intro p e s m args below meth c s₁ B hml hv
  obtain ⟨rfl, hM, hK⟩ := hv
  have hts := atoms_spec (ws := Cond.code yX11_sortNumber cX11_sortNumber 2 (some .int) :: cw_bw) B.pre
  have hB : cw_B v RX11 p s m _ meth c cX11_sortNumber 2 (some .int) := ⟨B.exec, B.bytes, B.returns, hml, findClass_of_methodNamed B.named, fun w h => hts w (List.mem_cons_of_mem _ h), B.notSynchronized, hK⟩
  have hnh := cc_nh B (hts _ List.mem_cons_self)
  rw [lg_entry_eq]
  obtain ⟨ls, hls, hl⟩ := cl_ent [cR v x0, cR v x1] 2 (cl_1r (cl_1r cl_10)) (Nat.le_of_ble_eq_true rfl)
  rw [hls]
  exact pw_X11_sortNumber_0 hbd hR htr hd5 hB hnh σ x0 x1 ix0 ix1 hf _ _ _ _ _ (cw_W0 hM) (cl_sub hl [0, 1] rfl)

set_option maxHeartbeats 4000000 in
set_option maxRecDepth 100000 in
theorem pw_X11_tellTypeOf_0 {v : cwE} {bd : cBd} {p : Program} {l : Launch} {e : Env} {s : State} {m : MethodId} {args : Array Value} {below : List Frame} {meth : Method} {c : Code} {d : Nat} {rec : Nat → CS → List Int → CO} {σ0 σ' : CS} {kd : Nat} {r : Int} (hbd : bd = cw_bd v) (hR : cw_Rec l v d rec) (htr : l.stackTraces = false) (hd5 : 5 ≤ d) (B : cw_B v RX11 p s m args meth c cX11_tellTypeOf 3 (some .int)) (hnh : c.exceptionTable.toList = tableOf [(16, 24, 27, 158)]) : ∀ (σ : CS) (x0 x1 : Int), inR x0 → inR x1 → pc_X11_tellTypeOf_0 rec bd σ x0 x1 = some (σ', kd, r) → ∀ (H : Heap) (locs : List Loc) (cells slots : Nat) (ls : Array Slot), cw_W v s σ0 σ H locs cells slots → cl_has ls 3 [(0, cR v x0), (1, cR v x1)] → W p l e (cw_rm v (d + 1) σ0) s m args below meth c H locs cells slots (cw_Z below v σ0 σ' kd (some (.int (rI r))) args s) (F0 m 0 ls []) := by
  subst hbd
  obtain ⟨hx, hb, hr, hml, hown, hts, hlk, hK⟩ := id B
  intro σ x0 x1 ix0 ix1 hf H locs cells slots ls hw hl
  unfold pc_X11_tellTypeOf_0 at hf
  refine cl_aload_n hx hb dX11_tellTypeOf_0 rfl (lv_at hl.1 0 rfl) ?_
  obtain ⟨z1, ez1, iz1, rz1, hf⟩ := cc_g_s hw hf
  refine cw_get (val := cR v z1) B hw rz1 ⟨by decide, by decide⟩ (by decide) cwi_12 cfl_X11_32 ez1 rfl dX11_tellTypeOf_1 ?_
  refine lv_iconst (v := rI 0) hx hb dX11_tellTypeOf_4 rfl ?_
  obtain ⟨qσ2, hf⟩ := cc_t_s hf
  obtain ⟨σ2, z4, hσ2, hf⟩ := cc_cn_s hf
  obtain ⟨iz4, mσ2⟩ := hR 81 σ [z1, 0] σ2 0 z4 hσ2
  have mσ2 : cw_Met l v yX4_begin cX4_begin 3 none d [cR v z1, .int (rI 0)] σ σ2 0 none := mσ2 iz1 ⟨by decide, by decide⟩
  refine cw_cv (b := z1) (t := 5) (n := 1) (rest := []) (As := [.int (rI 0)]) B mσ2 qσ2 ⟨by decide, by decide⟩ cgo_yX4_begin cml_X11_189 cin_yX4_begin cse_yX4_begin (by decide +kernel) (by decide) rfl hl.1.1 (Nat.le_of_ble_eq_true rfl) dX11_tellTypeOf_5 rfl hw (fun h0 H locs cells slots hw => ?_) (fun h0 H locs cells slots q ce hw h1 h2 h3 => ?_)
  · skip
    refine cl_aload_n hx hb dX11_tellTypeOf_8 rfl (lv_at hl.1 0 rfl) ?_
    obtain ⟨z5, ez5, iz5, rz5, hf⟩ := cc_g_s hw hf
    refine cw_get (val := cR v z5) B hw rz5 ⟨by decide, by decide⟩ (by decide) cwi_12 cfl_X11_32 ez5 rfl dX11_tellTypeOf_9 ?_
    refine lv_iconst (v := rI 0) hx hb dX11_tellTypeOf_12 rfl ?_
    obtain ⟨σ6, eσ6, rσ6, hf⟩ := cc_p_s hf
    refine cw_put B hw rσ6 cwt_5 (by decide) rfl cfl_X11_96 ⟨by decide, by decide⟩ eσ6 rfl (cw_fv_n rfl rfl) dX11_tellTypeOf_13 (fun H locs hw => ?_)
    refine cl_aload_n hx hb dX11_tellTypeOf_16 rfl (lv_at hl.1 0 rfl) ?_
    obtain ⟨z7, ez7, iz7, rz7, hf⟩ := cc_g_s hw hf
    refine cw_get (val := cR v z7) B hw rz7 ⟨by decide, by decide⟩ (by decide) cwi_12 cfl_X11_32 ez7 rfl dX11_tellTypeOf_17 ?_
    refine cl_aload_n hx hb dX11_tellTypeOf_20 rfl (lv_at hl.1 1 rfl) ?_
    obtain ⟨qσ8, hf⟩ := cc_t_s hf
    obtain ⟨σ8, kv9, z10, hσ8, hf⟩ := cc_ct_s hf
    obtain ⟨iz10, mσ8⟩ := hR 96 σ6 [z7, x1] σ8 kv9 z10 hσ8
    have mσ8 : cw_Met l v yX4_tellWhole cX4_tellWhole 2 none d [cR v z7, cR v x1] σ6 σ8 kv9 none := mσ8 iz7 ix1
    refine cw_cv (b := z7) (t := 5) (n := 1) (rest := []) (As := [cR v x1]) B mσ8 qσ8 ⟨by decide, by decide⟩ cgo_yX4_tellWhole cml_X11_192 cin_yX4_tellWhole cse_yX4_tellWhole (by decide +kernel) (by decide) rfl hl.1.1 (Nat.le_of_ble_eq_true rfl) dX11_tellTypeOf_21 rfl hw (fun h0 H locs cells slots hw => ?_) (fun h0 H locs cells slots q ce hw h1 h2 h3 => ?_)
    · rcases hf with ⟨-, hf⟩ | ⟨hk, -⟩
      · skip
        refine lv_goto (tgt := 37) hx hb dX11_tellTypeOf_24 (by decide) ?_
        refine cl_aload_n hx hb dX11_tellTypeOf_37 rfl (lv_at hl.1 0 rfl) ?_
        obtain ⟨z11, ez11, iz11, rz11, hf⟩ := cc_g_s hw hf
        refine cw_get (val := cR v z11) B hw rz11 ⟨by decide, by decide⟩ (by decide) cwi_12 cfl_X11_32 ez11 rfl dX11_tellTypeOf_38 ?_
        obtain ⟨z12, ez12, iz12, rz12, hf⟩ := cc_g_s hw hf
        refine cw_get (val := .int (rI z12)) B hw rz12 ⟨by decide, by decide⟩ (by decide) cwi_5 cfl_X11_96 ez12 rfl dX11_tellTypeOf_41 ?_
        exact cw_reti B hf hw dX11_tellTypeOf_44
      · omega
    · rcases hf with ⟨hk, -⟩ | ⟨hk, hf⟩
      · exact absurd hk h0
      · subst hk
        refine cw_catch (hpc := 27) B hnh (by decide) cxc_X11_158 h1 h2 h3 ?_
        refine cl_xstore_n (lv' := [(0, cR v x0), (1, cR v x1)]) hx hb dX11_tellTypeOf_27 rfl hl (by decide) (by decide) rfl (fun ls hl => ?_)
        refine cl_aload_n hx hb dX11_tellTypeOf_28 rfl (lv_at hl.1 0 rfl) ?_
        obtain ⟨z13, ez13, iz13, rz13, hf⟩ := cc_g_s hw hf
        refine cw_get (val := cR v z13) B hw rz13 ⟨by decide, by decide⟩ (by decide) cwi_12 cfl_X11_16 ez13 rfl dX11_tellTypeOf_29 ?_
        obtain ⟨z14, ez14, iz14, rz14, hf⟩ := cc_g_s hw hf
        refine cw_get (val := .int (rI z14)) B hw rz14 ⟨by decide, by decide⟩ (by decide) cwi_11 cfl_X11_183 ez14 rfl dX11_tellTypeOf_32 ?_
        obtain ⟨z15, ez15, iz15, hf⟩ := cc_ck_s hf
        refine lv_ineg hx hb dX11_tellTypeOf_35 ?_
        rw [rI_neg, ← ez15]
        exact cw_reti B hf hw dX11_tellTypeOf_36
  · exact absurd rfl h0

set_option maxHeartbeats 4000000 in
set_option maxRecDepth 100000 in
theorem pm_X11_tellTypeOf {v : cwE} {bd : cBd} {l : Launch} {d : Nat} {rec : Nat → CS → List Int → CO} (hbd : bd = cw_bd v) (hR : cw_Rec l v d rec) (htr : l.stackTraces = false) (hd5 : 5 ≤ d) (σ σ' : CS) (x0 x1 : Int) (kd : Nat) (r : Int) (ix0 : inR x0) (ix1 : inR x1) (hf : pc_X11_tellTypeOf_0 rec bd σ x0 x1 = some (σ', kd, r)) : cw_MetW l v yX11_tellTypeOf cX11_tellTypeOf 3 (some .int) [(16, 24, 27, 158)] (d + 1) [cR v x0, cR v x1] σ σ' kd (some (.int (rI r))) := by
  refine cw_ofWW (by decide +kernel) ?_
  intro p e s m args below meth c s₁ B hml hv
  obtain ⟨rfl, hM, hK⟩ := hv
  have hts := atoms_spec (ws := Cond.codeWith yX11_tellTypeOf cX11_tellTypeOf 3 (some .int) [(16, 24, 27, 158)] :: cw_bw) B.pre
  have hB : cw_B v RX11 p s m _ meth c cX11_tellTypeOf 3 (some .int) := ⟨B.exec, B.bytes, B.returns, hml, findClass_of_methodNamed B.named, fun w h => hts w (List.mem_cons_of_mem _ h), B.notSynchronized, hK⟩
  have hnh := vx_table (x := yX11_tellTypeOf) B (hts _ List.mem_cons_self)
  rw [lg_entry_eq]
  obtain ⟨ls, hls, hl⟩ := cl_ent [cR v x0, cR v x1] 3 (cl_1r (cl_1r cl_10)) (Nat.le_of_ble_eq_true rfl)
  rw [hls]
  exact pw_X11_tellTypeOf_0 hbd hR htr hd5 hB hnh σ x0 x1 ix0 ix1 hf _ _ _ _ _ (cw_W0 hM) (cl_sub hl [0, 1] rfl)

set_option maxHeartbeats 4000000 in
set_option maxRecDepth 100000 in
theorem pw_X11_text_12 {v : cwE} {bd : cBd} {p : Program} {l : Launch} {e : Env} {s : State} {m : MethodId} {args : Array Value} {below : List Frame} {meth : Method} {c : Code} {d : Nat} {rec : Nat → CS → List Int → CO} {σ0 σ' : CS} {kd : Nat} {r : Int} (hbd : bd = cw_bd v) (hR : cw_Rec l v d rec) (htr : l.stackTraces = false) (hd5 : 5 ≤ d) (B : cw_B v RX11 p s m args meth c cX11_text 2 (some .int)) (hnh : ∀ x ∈ c.exceptionTable.toList, False) : ∀ (σ : CS), pc_X11_text_12 rec bd σ = some (σ', kd, r) → ∀ (H : Heap) (locs : List Loc) (cells slots : Nat) (ls : Array Slot), cw_W v s σ0 σ H locs cells slots → cl_has ls 2 [] → W p l e (cw_rm v (d + 1) σ0) s m args below meth c H locs cells slots (cw_Z below v σ0 σ' kd (some (.int (rI r))) args s) (F0 m 12 ls []) := by
  subst hbd
  obtain ⟨hx, hb, hr, hml, hown, hts, hlk, hK⟩ := id B
  intro σ hf H locs cells slots ls hw hl
  unfold pc_X11_text_12 at hf
  obtain ⟨hy, hm⟩ := cc_x_s hf
  obtain ⟨hy1, hy2⟩ := Prod.mk.inj hy
  obtain ⟨hy2, hy3⟩ := Prod.mk.inj hy2
  subst hy2
  refine cw_throw (rest := []) B hnh htr hw (by decide) (by decide +kernel) cxc_X11_74 cxi_2 (cw_hat cxa_X11_76 (by decide +kernel) hts hK.1) (List.all_eq_true.mp cxg_X11_76) hd5 hm hy1 hl.1.1 (Nat.le_of_ble_eq_true rfl) dX11_text_12 dX11_text_15 dX11_text_16 dX11_text_19

