set_option maxHeartbeats 4000000 in
set_option maxRecDepth 100000 in
theorem pw_X11_feedFour_0 {v : cwE} {bd : Nat × Nat} {p : Program} {l : Launch} {e : Env} {s : State} {m : MethodId} {args : Array Value} {below : List Frame} {meth : Method} {c : Code} {d : Nat} {rec : Nat → CS → List Int → CO} {σ0 σ' : CS} {kd : Nat} {r : Int} (hbd : bd = (v.2.2.1, v.2.2.2.1)) (hR : cw_Rec l v d rec) (htr : l.stackTraces = false) (hd5 : 5 ≤ d) (B : cw_B v RX11 p s m args meth c cX11_feedFour 3 none) (hnh : ∀ x ∈ c.exceptionTable.toList, False) : ∀ (σ : CS) (x0 x1 : Int), inR x0 → inR x1 → pc_X11_feedFour_0 rec bd σ x0 x1 = some (σ', kd, r) → ∀ (H : Heap) (locs : List Loc) (cells slots : Nat) (ls : Array Slot), cw_W v s σ0 σ H locs cells slots → cl_has ls 3 [(0, cR x0), (1, .int (rI x1))] → W p l e (cw_rm v (d + 1) σ0) s m args below meth c H locs cells slots (cw_Z below v σ0 σ' kd none args s) (F0 m 0 ls []) := by
  subst hbd
  obtain ⟨hx, hb, hr, hml, hown, hts, hlk, hK⟩ := id B
  intro σ x0 x1 ix0 ix1 hf H locs cells slots ls hw hl
  unfold pc_X11_feedFour_0 at hf
  refine lv_bipush (v := rI 24) hx hb dX11_feedFour_0 (by decide +kernel) ?_
  refine cl_istore_n (lv' := [(2, .int (rI 24)), (0, cR x0), (1, .int (rI x1))]) hx hb dX11_feedFour_2 rfl hl (by decide) rfl (fun ls hl => ?_)
  exact pw_X11_feedFour_3 rfl hR htr hd5 B hnh 1100000 σ x0 x1 24 ix0 ix1 ⟨by decide, by decide⟩ hf _ _ _ _ _ hw (cl_sub hl [1, 2, 0] rfl)

set_option maxHeartbeats 4000000 in
set_option maxRecDepth 100000 in
theorem pm_X11_feedFour {v : cwE} {bd : Nat × Nat} {l : Launch} {d : Nat} {rec : Nat → CS → List Int → CO} (hbd : bd = (v.2.2.1, v.2.2.2.1)) (hR : cw_Rec l v d rec) (htr : l.stackTraces = false) (hd5 : 5 ≤ d) (σ σ' : CS) (x0 x1 : Int) (kd : Nat) (r : Int) (ix0 : inR x0) (ix1 : inR x1) (hf : pc_X11_feedFour_0 rec bd σ x0 x1 = some (σ', kd, r)) : cw_Met l v yX11_feedFour cX11_feedFour 3 none (d + 1) [cR x0, .int (rI x1)] σ σ' kd none := by
  refine cw_ofW (by decide +kernel) ?_
  intro p e s m args below meth c s₁ B hml hv
  obtain ⟨rfl, hM, hK⟩ := hv
  have hts := atoms_spec (ws := Cond.code yX11_feedFour cX11_feedFour 3 none :: cw_bw) B.pre
  have hB : cw_B v RX11 p s m _ meth c cX11_feedFour 3 none := ⟨B.exec, B.bytes, B.returns, hml, findClass_of_methodNamed B.named, fun w h => hts w (List.mem_cons_of_mem _ h), B.notSynchronized, hK⟩
  have hnh := cc_nh B (hts _ List.mem_cons_self)
  rw [lg_entry_eq]
  obtain ⟨ls, hls, hl⟩ := cl_ent [cR x0, .int (rI x1)] 3 (cl_1r (cl_1i cl_10)) (Nat.le_of_ble_eq_true rfl)
  rw [hls]
  exact pw_X11_feedFour_0 hbd hR htr hd5 hB hnh σ x0 x1 ix0 ix1 hf _ _ _ _ _ (cw_W0 hM) (cl_sub hl [0, 1] rfl)

set_option maxHeartbeats 4000000 in
set_option maxRecDepth 100000 in
theorem pw_X11_limit_12 {v : cwE} {bd : Nat × Nat} {p : Program} {l : Launch} {e : Env} {s : State} {m : MethodId} {args : Array Value} {below : List Frame} {meth : Method} {c : Code} {d : Nat} {rec : Nat → CS → List Int → CO} {σ0 σ' : CS} {kd : Nat} {r : Int} (hbd : bd = (v.2.2.1, v.2.2.2.1)) (hR : cw_Rec l v d rec) (htr : l.stackTraces = false) (hd5 : 5 ≤ d) (B : cw_B v RX11 p s m args meth c cX11_limit 3 (some .int)) (hnh : ∀ x ∈ c.exceptionTable.toList, False) : ∀ (σ : CS), pc_X11_limit_12 rec bd σ = some (σ', kd, r) → ∀ (H : Heap) (locs : List Loc) (cells slots : Nat) (ls : Array Slot), cw_W v s σ0 σ H locs cells slots → cl_has ls 3 [] → W p l e (cw_rm v (d + 1) σ0) s m args below meth c H locs cells slots (cw_Z below v σ0 σ' kd (some (.int (rI r))) args s) (F0 m 12 ls []) := by
  subst hbd
  obtain ⟨hx, hb, hr, hml, hown, hts, hlk, hK⟩ := id B
  intro σ hf H locs cells slots ls hw hl
  unfold pc_X11_limit_12 at hf
  obtain ⟨hy, hm⟩ := cc_x_s hf
  obtain ⟨hy1, hy2⟩ := Prod.mk.inj hy
  obtain ⟨hy2, hy3⟩ := Prod.mk.inj hy2
  subst hy2
  refine cw_throw (rest := []) B hnh htr hw (by decide) (by decide +kernel) cxc_11_74 cxi_2 (cw_hat cxa_11_76 (by decide +kernel) hts hK.1) (List.all_eq_true.mp cxg_11_76) hd5 hm hy1 hl.1.1 (Nat.le_of_ble_eq_true rfl) dX11_limit_12 dX11_limit_15 dX11_limit_16 dX11_limit_19

set_option maxHeartbeats 4000000 in
set_option maxRecDepth 100000 in
theorem pw_X11_limit_0 {v : cwE} {bd : Nat × Nat} {p : Program} {l : Launch} {e : Env} {s : State} {m : MethodId} {args : Array Value} {below : List Frame} {meth : Method} {c : Code} {d : Nat} {rec : Nat → CS → List Int → CO} {σ0 σ' : CS} {kd : Nat} {r : Int} (hbd : bd = (v.2.2.1, v.2.2.2.1)) (hR : cw_Rec l v d rec) (htr : l.stackTraces = false) (hd5 : 5 ≤ d) (B : cw_B v RX11 p s m args meth c cX11_limit 3 (some .int)) (hnh : ∀ x ∈ c.exceptionTable.toList, False) : ∀ (σ : CS) (x0 x1 : Int), inR x0 → inR x1 → pc_X11_limit_0 rec bd σ x0 x1 = some (σ', kd, r) → ∀ (H : Heap) (locs : List Loc) (cells slots : Nat) (ls : Array Slot), cw_W v s σ0 σ H locs cells slots → cl_has ls 3 [(0, cR x0), (1, .int (rI x1))] → W p l e (cw_rm v (d + 1) σ0) s m args below meth c H locs cells slots (cw_Z below v σ0 σ' kd (some (.int (rI r))) args s) (F0 m 0 ls []) := by
  subst hbd
  obtain ⟨hx, hb, hr, hml, hown, hts, hlk, hK⟩ := id B
  intro σ x0 x1 ix0 ix1 hf H locs cells slots ls hw hl
  unfold pc_X11_limit_0 at hf
  refine lv_iload_n hx hb dX11_limit_0 rfl (lv_at hl.1 1 rfl) ?_
  refine lv_iconst (v := rI 1) hx hb dX11_limit_1 rfl ?_
  refine rn_icmp_lt (a := x1) (b := 1) (tgt := 12) hx hb ix1 ⟨by decide, by decide⟩ dX11_limit_2 (by decide) (fun c1 => ?_) (fun c1 => ?_)
  · replace hf := cc_if_t hf c1
    exact pw_X11_limit_12 rfl hR htr hd5 B hnh σ hf _ _ _ _ _ hw (cl_sub hl [] rfl)
  · replace hf := cc_if_f hf c1
    refine lv_iload_n hx hb dX11_limit_5 rfl (lv_at hl.1 1 rfl) ?_
    refine lv_sipush (v := rI 20000) hx hb dX11_limit_6 (by decide +kernel) ?_
    refine rn_icmp_le (a := x1) (b := 20000) (tgt := 20) hx hb ix1 ⟨by decide, by decide⟩ dX11_limit_9 (by decide) (fun c2 => ?_) (fun c2 => ?_)
    · replace hf := cc_if_t hf c2
      refine cl_aload_n hx hb dX11_limit_20 rfl (lv_at hl.1 0 rfl) ?_
      obtain ⟨z3, ez3, iz3, rz3, hf⟩ := cc_g_s hw hf
      refine cw_get (val := cR z3) B hw rz3 ⟨by decide, by decide⟩ (by decide) cwi_12 cfl_11_32 ez3 rfl dX11_limit_21 ?_
      obtain ⟨z4, ez4, iz4, rz4, hf⟩ := cc_g_s hw hf
      refine cw_get (val := .int (rI z4)) B hw rz4 ⟨by decide, by decide⟩ (by decide) cwi_5 cfl_11_93 ez4 rfl dX11_limit_24 ?_
      refine cl_istore_n (lv' := [(2, .int (rI z4)), (0, cR x0), (1, .int (rI x1))]) hx hb dX11_limit_27 rfl hl (by decide) rfl (fun ls hl => ?_)
      refine cl_aload_n hx hb dX11_limit_28 rfl (lv_at hl.1 1 rfl) ?_
      obtain ⟨z5, ez5, iz5, rz5, hf⟩ := cc_g_s hw hf
      refine cw_get (val := cR z5) B hw rz5 ⟨by decide, by decide⟩ (by decide) cwi_12 cfl_11_32 ez5 rfl dX11_limit_29 ?_
      refine lv_iload_n hx hb dX11_limit_32 rfl (lv_at hl.1 2 rfl) ?_
      obtain ⟨σ6, eσ6, rσ6, hf⟩ := cc_p_s hf
      refine cw_put B hw rσ6 cwt_5 (by decide) rfl cfl_11_93 ix1 eσ6 rfl (cw_fv_n rfl rfl) dX11_limit_33 (fun H locs hw => ?_)
      refine lv_iload_n hx hb dX11_limit_36 rfl (lv_at hl.1 0 rfl) ?_
      exact cw_reti B hf hw dX11_limit_37
    · replace hf := cc_if_f hf c2
      exact pw_X11_limit_12 rfl hR htr hd5 B hnh σ hf _ _ _ _ _ hw (cl_sub hl [] rfl)

set_option maxHeartbeats 4000000 in
set_option maxRecDepth 100000 in
theorem pm_X11_limit {v : cwE} {bd : Nat × Nat} {l : Launch} {d : Nat} {rec : Nat → CS → List Int → CO} (hbd : bd = (v.2.2.1, v.2.2.2.1)) (hR : cw_Rec l v d rec) (htr : l.stackTraces = false) (hd5 : 5 ≤ d) (σ σ' : CS) (x0 x1 : Int) (kd : Nat) (r : Int) (ix0 : inR x0) (ix1 : inR x1) (hf : pc_X11_limit_0 rec bd σ x0 x1 = some (σ', kd, r)) : cw_Met l v yX11_limit cX11_limit 3 (some .int) (d + 1) [cR x0, .int (rI x1)] σ σ' kd (some (.int (rI r))) := by
  refine cw_ofW (by decide +kernel) ?_
  intro p e s m args below meth c s₁ B hml hv
  obtain ⟨rfl, hM, hK⟩ := hv
  have hts := atoms_spec (ws := Cond.code yX11_limit cX11_limit 3 (some .int) :: cw_bw) B.pre
  have hB : cw_B v RX11 p s m _ meth c cX11_limit 3 (some .int) := ⟨B.exec, B.bytes, B.returns, hml, findClass_of_methodNamed B.named, fun w h => hts w (List.mem_cons_of_mem _ h), B.notSynchronized, hK⟩
  have hnh := cc_nh B (hts _ List.mem_cons_self)
  rw [lg_entry_eq]
  obtain ⟨ls, hls, hl⟩ := cl_ent [cR x0, .int (rI x1)] 3 (cl_1r (cl_1i cl_10)) (Nat.le_of_ble_eq_true rfl)
  rw [hls]
  exact pw_X11_limit_0 hbd hR htr hd5 hB hnh σ x0 x1 ix0 ix1 hf _ _ _ _ _ (cw_W0 hM) (cl_sub hl [0, 1] rfl)

set_option maxHeartbeats 4000000 in
set_option maxRecDepth 100000 in
theorem pw_X11_mark_0 {v : cwE} {bd : Nat × Nat} {p : Program} {l : Launch} {e : Env} {s : State} {m : MethodId} {args : Array Value} {below : List Frame} {meth : Method} {c : Code} {d : Nat} {rec : Nat → CS → List Int → CO} {σ0 σ' : CS} {kd : Nat} {r : Int} (hbd : bd = (v.2.2.1, v.2.2.2.1)) (hR : cw_Rec l v d rec) (htr : l.stackTraces = false) (hd5 : 5 ≤ d) (B : cw_B v RX11 p s m args meth c cX11_mark 1 (some .int)) (hnh : ∀ x ∈ c.exceptionTable.toList, False) : ∀ (σ : CS) (x0 : Int), inR x0 → pc_X11_mark_0 rec bd σ x0 = some (σ', kd, r) → ∀ (H : Heap) (locs : List Loc) (cells slots : Nat) (ls : Array Slot), cw_W v s σ0 σ H locs cells slots → cl_has ls 1 [(0, cR x0)] → W p l e (cw_rm v (d + 1) σ0) s m args below meth c H locs cells slots (cw_Z below v σ0 σ' kd (some (.int (rI r))) args s) (F0 m 0 ls []) := by
  subst hbd
  obtain ⟨hx, hb, hr, hml, hown, hts, hlk, hK⟩ := id B
  intro σ x0 ix0 hf H locs cells slots ls hw hl
  unfold pc_X11_mark_0 at hf
  refine cl_aload_n hx hb dX11_mark_0 rfl (lv_at hl.1 0 rfl) ?_
  obtain ⟨z1, ez1, iz1, rz1, hf⟩ := cc_g_s hw hf
  refine cw_get (val := cR z1) B hw rz1 ⟨by decide, by decide⟩ (by decide) cwi_12 cfl_11_23 ez1 rfl dX11_mark_1 ?_
  obtain ⟨z2, ez2, iz2, rz2, hf⟩ := cc_g_s hw hf
  refine cw_get (val := .int (rI z2)) B hw rz2 ⟨by decide, by decide⟩ (by decide) cwi_1 cfl_11_118 ez2 rfl dX11_mark_4 ?_
  refine cl_aload_n hx hb dX11_mark_7 rfl (lv_at hl.1 0 rfl) ?_
  obtain ⟨z3, ez3, iz3, rz3, hf⟩ := cc_g_s hw hf
  refine cw_get (val := cR z3) B hw rz3 ⟨by decide, by decide⟩ (by decide) cwi_12 cfl_11_23 ez3 rfl dX11_mark_8 ?_
  obtain ⟨z4, ez4, iz4, rz4, hf⟩ := cc_g_s hw hf
  refine cw_get (val := cR z4) B hw rz4 ⟨by decide, by decide⟩ (by decide) cwi_1 cfl_11_155 ez4 rfl dX11_mark_11 ?_
  obtain ⟨z5, ez5, iz5, rz5, hf⟩ := cc_l_s hf
  refine cw_len B hw rz5 (by decide) ez5 iz5 dX11_mark_14 ?_
  refine rn_icmp_lt (a := z2) (b := z5) (tgt := 26) hx hb iz2 iz5 dX11_mark_15 (by decide) (fun c6 => ?_) (fun c6 => ?_)
  · replace hf := cc_if_t hf c6
    refine cl_aload_n hx hb dX11_mark_26 rfl (lv_at hl.1 0 rfl) ?_
    obtain ⟨z7, ez7, iz7, rz7, hf⟩ := cc_g_s hw hf
    refine cw_get (val := cR z7) B hw rz7 ⟨by decide, by decide⟩ (by decide) cwi_12 cfl_11_23 ez7 rfl dX11_mark_27 ?_
    obtain ⟨z8, ez8, iz8, rz8, hf⟩ := cc_g_s hw hf
    refine cw_get (val := cR z8) B hw rz8 ⟨by decide, by decide⟩ (by decide) cwi_1 cfl_11_155 ez8 rfl dX11_mark_30 ?_
    refine cl_aload_n hx hb dX11_mark_33 rfl (lv_at hl.1 0 rfl) ?_
    obtain ⟨z9, ez9, iz9, rz9, hf⟩ := cc_g_s hw hf
    refine cw_get (val := cR z9) B hw rz9 ⟨by decide, by decide⟩ (by decide) cwi_12 cfl_11_23 ez9 rfl dX11_mark_34 ?_
    obtain ⟨z10, ez10, iz10, rz10, hf⟩ := cc_g_s hw hf
    refine cw_get (val := .int (rI z10)) B hw rz10 ⟨by decide, by decide⟩ (by decide) cwi_1 cfl_11_118 ez10 rfl dX11_mark_37 ?_
    refine cl_aload_n hx hb dX11_mark_40 rfl (lv_at hl.1 0 rfl) ?_
    obtain ⟨z11, ez11, iz11, rz11, hf⟩ := cc_g_s hw hf
    refine cw_get (val := cR z11) B hw rz11 ⟨by decide, by decide⟩ (by decide) cwi_12 cfl_11_23 ez11 rfl dX11_mark_41 ?_
    obtain ⟨z12, ez12, iz12, rz12, hf⟩ := cc_g_s hw hf
    refine cw_get (val := cR z12) B hw rz12 ⟨by decide, by decide⟩ (by decide) cwi_1 cfl_11_84 ez12 rfl dX11_mark_44 ?_
    obtain ⟨z13, ez13, iz13, rz13, hf⟩ := cc_g_s hw hf
    refine cw_get (val := .int (rI z13)) B hw rz13 ⟨by decide, by decide⟩ (by decide) cwi_6 cfl_11_88 ez13 rfl dX11_mark_47 ?_
    obtain ⟨σ14, eσ14, rσ14, bσ14, hf⟩ := cc_w_s hf
    refine cw_astI B hw rσ14 iz10 bσ14 iz13 eσ14 dX11_mark_50 (fun H locs hw => ?_)
    refine cl_aload_n hx hb dX11_mark_51 rfl (lv_at hl.1 0 rfl) ?_
    obtain ⟨z15, ez15, iz15, rz15, hf⟩ := cc_g_s hw hf
    refine cw_get (val := cR z15) B hw rz15 ⟨by decide, by decide⟩ (by decide) cwi_12 cfl_11_23 ez15 rfl dX11_mark_52 ?_
    refine lv_dup hx hb dX11_mark_55 (cR_cat _) ?_
    obtain ⟨z16, ez16, iz16, rz16, hf⟩ := cc_g_s hw hf
    refine cw_get (val := .int (rI z16)) B hw rz16 ⟨by decide, by decide⟩ (by decide) cwi_1 cfl_11_118 ez16 rfl dX11_mark_56 ?_
    refine lv_iconst (v := rI 1) hx hb dX11_mark_59 rfl ?_
    obtain ⟨z17, ez17, iz17, hf⟩ := cc_ck_s hf
    refine rn_add hx hb ez17 dX11_mark_60 ?_
    obtain ⟨σ18, eσ18, rσ18, hf⟩ := cc_p_s hf
    refine cw_put B hw rσ18 cwt_1 (by decide) rfl cfl_11_118 iz17 eσ18 rfl (cw_fv_n rfl rfl) dX11_mark_61 (fun H locs hw => ?_)
    refine cl_aload_n hx hb dX11_mark_64 rfl (lv_at hl.1 0 rfl) ?_
    obtain ⟨z19, ez19, iz19, rz19, hf⟩ := cc_g_s hw hf
    refine cw_get (val := cR z19) B hw rz19 ⟨by decide, by decide⟩ (by decide) cwi_12 cfl_11_23 ez19 rfl dX11_mark_65 ?_
    obtain ⟨z20, ez20, iz20, rz20, hf⟩ := cc_g_s hw hf
    refine cw_get (val := .int (rI z20)) B hw rz20 ⟨by decide, by decide⟩ (by decide) cwi_1 cfl_11_118 ez20 rfl dX11_mark_68 ?_
    exact cw_reti B hf hw dX11_mark_71
  · replace hf := cc_if_f hf c6
    obtain ⟨hy, hm⟩ := cc_x_s hf
    obtain ⟨hy1, hy2⟩ := Prod.mk.inj hy
    obtain ⟨hy2, hy3⟩ := Prod.mk.inj hy2
    subst hy2
    refine cw_throw (rest := []) B hnh htr hw (by decide) (by decide +kernel) cxc_11_158 cxi_1 (cw_hat cxa_11_160 (by decide +kernel) hts hK.1) (List.all_eq_true.mp cxg_11_160) hd5 hm hy1 hl.1.1 (Nat.le_of_ble_eq_true rfl) dX11_mark_18 dX11_mark_21 dX11_mark_22 dX11_mark_25

set_option maxHeartbeats 4000000 in
set_option maxRecDepth 100000 in
theorem pm_X11_mark {v : cwE} {bd : Nat × Nat} {l : Launch} {d : Nat} {rec : Nat → CS → List Int → CO} (hbd : bd = (v.2.2.1, v.2.2.2.1)) (hR : cw_Rec l v d rec) (htr : l.stackTraces = false) (hd5 : 5 ≤ d) (σ σ' : CS) (x0 : Int) (kd : Nat) (r : Int) (ix0 : inR x0) (hf : pc_X11_mark_0 rec bd σ x0 = some (σ', kd, r)) : cw_Met l v yX11_mark cX11_mark 1 (some .int) (d + 1) [cR x0] σ σ' kd (some (.int (rI r))) := by
  refine cw_ofW (by decide +kernel) ?_
  intro p e s m args below meth c s₁ B hml hv
  obtain ⟨rfl, hM, hK⟩ := hv
  have hts := atoms_spec (ws := Cond.code yX11_mark cX11_mark 1 (some .int) :: cw_bw) B.pre
  have hB : cw_B v RX11 p s m _ meth c cX11_mark 1 (some .int) := ⟨B.exec, B.bytes, B.returns, hml, findClass_of_methodNamed B.named, fun w h => hts w (List.mem_cons_of_mem _ h), B.notSynchronized, hK⟩
  have hnh := cc_nh B (hts _ List.mem_cons_self)
  rw [lg_entry_eq]
  obtain ⟨ls, hls, hl⟩ := cl_ent [cR x0] 1 (cl_1r cl_10) (Nat.le_of_ble_eq_true rfl)
  rw [hls]
  exact pw_X11_mark_0 hbd hR htr hd5 hB hnh σ x0 ix0 hf _ _ _ _ _ (cw_W0 hM) (cl_sub hl [0] rfl)

set_option maxHeartbeats 4000000 in
set_option maxRecDepth 100000 in
theorem pw_X11_name_18 {v : cwE} {bd : Nat × Nat} {p : Program} {l : Launch} {e : Env} {s : State} {m : MethodId} {args : Array Value} {below : List Frame} {meth : Method} {c : Code} {d : Nat} {rec : Nat → CS → List Int → CO} {σ0 σ' : CS} {kd : Nat} {r : Int} (hbd : bd = (v.2.2.1, v.2.2.2.1)) (hR : cw_Rec l v d rec) (htr : l.stackTraces = false) (hd5 : 5 ≤ d) (B : cw_B v RX11 p s m args meth c cX11_name 3 (some .int)) (hnh : ∀ x ∈ c.exceptionTable.toList, False) : ∀ (σ : CS), pc_X11_name_18 rec bd σ = some (σ', kd, r) → ∀ (H : Heap) (locs : List Loc) (cells slots : Nat) (ls : Array Slot), cw_W v s σ0 σ H locs cells slots → cl_has ls 3 [] → W p l e (cw_rm v (d + 1) σ0) s m args below meth c H locs cells slots (cw_Z below v σ0 σ' kd (some (.int (rI r))) args s) (F0 m 18 ls []) := by
  subst hbd
  obtain ⟨hx, hb, hr, hml, hown, hts, hlk, hK⟩ := id B
  intro σ hf H locs cells slots ls hw hl
  unfold pc_X11_name_18 at hf
  obtain ⟨hy, hm⟩ := cc_x_s hf
  obtain ⟨hy1, hy2⟩ := Prod.mk.inj hy
  obtain ⟨hy2, hy3⟩ := Prod.mk.inj hy2
  subst hy2
  refine cw_throw (rest := []) B hnh htr hw (by decide) (by decide +kernel) cxc_11_81 cxi_3 (cw_hat cxa_11_83 (by decide +kernel) hts hK.1) (List.all_eq_true.mp cxg_11_83) hd5 hm hy1 hl.1.1 (Nat.le_of_ble_eq_true rfl) dX11_name_18 dX11_name_21 dX11_name_22 dX11_name_25

set_option maxHeartbeats 4000000 in
set_option maxRecDepth 100000 in
theorem pw_X11_name_0 {v : cwE} {bd : Nat × Nat} {p : Program} {l : Launch} {e : Env} {s : State} {m : MethodId} {args : Array Value} {below : List Frame} {meth : Method} {c : Code} {d : Nat} {rec : Nat → CS → List Int → CO} {σ0 σ' : CS} {kd : Nat} {r : Int} (hbd : bd = (v.2.2.1, v.2.2.2.1)) (hR : cw_Rec l v d rec) (htr : l.stackTraces = false) (hd5 : 5 ≤ d) (B : cw_B v RX11 p s m args meth c cX11_name 3 (some .int)) (hnh : ∀ x ∈ c.exceptionTable.toList, False) : ∀ (σ : CS) (x0 x1 x2 : Int), inR x0 → inR x1 → inR x2 → pc_X11_name_0 rec bd σ x0 x1 x2 = some (σ', kd, r) → ∀ (H : Heap) (locs : List Loc) (cells slots : Nat) (ls : Array Slot), cw_W v s σ0 σ H locs cells slots → cl_has ls 3 [(0, cR x0), (1, .int (rI x1)), (2, .int (rI x2))] → W p l e (cw_rm v (d + 1) σ0) s m args below meth c H locs cells slots (cw_Z below v σ0 σ' kd (some (.int (rI r))) args s) (F0 m 0 ls []) := by
  subst hbd
  obtain ⟨hx, hb, hr, hml, hown, hts, hlk, hK⟩ := id B
  intro σ x0 x1 x2 ix0 ix1 ix2 hf H locs cells slots ls hw hl
  unfold pc_X11_name_0 at hf
  refine cl_aload_n hx hb dX11_name_0 rfl (lv_at hl.1 0 rfl) ?_
  obtain ⟨z1, ez1, iz1, rz1, hf⟩ := cc_g_s hw hf
  refine cw_get (val := cR z1) B hw rz1 ⟨by decide, by decide⟩ (by decide) cwi_12 cfl_11_23 ez1 rfl dX11_name_1 ?_
  obtain ⟨z2, ez2, iz2, rz2, hf⟩ := cc_g_s hw hf
  refine cw_get (val := cR z2) B hw rz2 ⟨by decide, by decide⟩ (by decide) cwi_1 cfl_11_84 ez2 rfl dX11_name_4 ?_
  refine lv_iload_n hx hb dX11_name_7 rfl (lv_at hl.1 1 rfl) ?_
  obtain ⟨qσ3, hf⟩ := cc_t_s hf
  obtain ⟨σ3, kv4, z5, hσ3, hf⟩ := cc_cl_s hf
  obtain ⟨iz5, mσ3⟩ := hR 55 σ [z2, x1] σ3 kv4 z5 hσ3
  have mσ3 : cw_Met l v yX5_has cX5_has 2 (some .boolean) d [cR z2, .int (rI x1)] σ σ3 kv4 (some (.int (rI z5))) := mσ3 iz2 ix1
  refine cw_cv (b := z2) (t := 6) (n := 1) (rest := []) (As := [.int (rI x1)]) B mσ3 qσ3 ⟨by decide, by decide⟩ cgo_yX5_has cml_11_121 cin_yX5_has cse_yX5_has (by decide +kernel) (by decide) rfl hl.1.1 (Nat.le_of_ble_eq_true rfl) dX11_name_8 rfl hw (fun h0 H locs cells slots hw => ?_) (fun h0 H locs cells slots q ce hw h1 h2 h3 => ?_)
  · rcases hf with ⟨-, hf⟩ | ⟨hk, -⟩
    · skip
      refine rn_if_eq (a := z5) (tgt := 18) hx hb iz5 dX11_name_11 (by decide) (fun c6 => ?_) (fun c6 => ?_)
      · replace hf := cc_if_t hf c6
        exact pw_X11_name_18 rfl hR htr hd5 B hnh σ3 hf _ _ _ _ _ hw (cl_sub hl [] rfl)
      · replace hf := cc_if_f hf c6
        refine lv_iload_n hx hb dX11_name_14 rfl (lv_at hl.1 2 rfl) ?_
        refine rn_if_ge (a := x2) (tgt := 26) hx hb ix2 dX11_name_15 (by decide) (fun c7 => ?_) (fun c7 => ?_)
        · replace hf := cc_if_t hf c7
          refine lv_iload_n hx hb dX11_name_26 rfl (lv_at hl.1 2 rfl) ?_
          by_cases c8 : x2 = 0
          · replace hf := cc_if_t hf c8
            refine rn_tab (n := 0) (tgt := 52) hx hb ix2 c8 dX11_name_27 (by decide) (by decide) rfl (by decide) ?_
            refine cl_aload_n hx hb dX11_name_52 rfl (lv_at hl.1 0 rfl) ?_
            obtain ⟨z9, ez9, iz9, rz9, hf⟩ := cc_g_s hw hf
            refine cw_get (val := cR z9) B hw rz9 ⟨by decide, by decide⟩ (by decide) cwi_12 cfl_11_23 ez9 rfl dX11_name_53 ?_
            obtain ⟨z10, ez10, iz10, rz10, hf⟩ := cc_g_s hw hf
            refine cw_get (val := cR z10) B hw rz10 ⟨by decide, by decide⟩ (by decide) cwi_1 cfl_11_125 ez10 rfl dX11_name_56 ?_
            refine lv_iload_n hx hb dX11_name_59 rfl (lv_at hl.1 1 rfl) ?_
            obtain ⟨z11, ez11, iz11, rz11, bz11, hf⟩ := cc_r_s hw hf
            refine cw_aldR B hw rz11 ix1 bz11 ez11 dX11_name_60 ?_
            refine cl_ifnull (x := z11) (tgt := 68) hx hb dX11_name_61 (by decide) (fun c12 => ?_) (fun c12 => ?_)
            · replace hf := cc_if_t hf c12
              refine lv_iconst (v := rI 0) hx hb dX11_name_68 rfl ?_
              exact cw_reti B hf hw dX11_name_69
            · replace hf := cc_if_f hf c12
              refine lv_iconst (v := rI 1) hx hb dX11_name_64 rfl ?_
              refine lv_goto (tgt := 69) hx hb dX11_name_65 (by decide) ?_
              exact cw_reti B hf hw dX11_name_69
          · replace hf := cc_if_f hf c8
            by_cases c13 : x2 = 1
            · replace hf := cc_if_t hf c13
              refine rn_tab (n := 1) (tgt := 70) hx hb ix2 c13 dX11_name_27 (by decide) (by decide) rfl (by decide) ?_
              refine cl_aload_n hx hb dX11_name_70 rfl (lv_at hl.1 0 rfl) ?_
              obtain ⟨z14, ez14, iz14, rz14, hf⟩ := cc_g_s hw hf
              refine cw_get (val := cR z14) B hw rz14 ⟨by decide, by decide⟩ (by decide) cwi_12 cfl_11_23 ez14 rfl dX11_name_71 ?_
              obtain ⟨z15, ez15, iz15, rz15, hf⟩ := cc_g_s hw hf
              refine cw_get (val := cR z15) B hw rz15 ⟨by decide, by decide⟩ (by decide) cwi_1 cfl_11_129 ez15 rfl dX11_name_74 ?_
              refine lv_iload_n hx hb dX11_name_77 rfl (lv_at hl.1 1 rfl) ?_
              obtain ⟨z16, ez16, iz16, rz16, bz16, hf⟩ := cc_r_s hw hf
              refine cw_aldI B hw rz16 ix1 bz16 ez16 dX11_name_78 ?_
              exact cw_reti B hf hw dX11_name_79
            · replace hf := cc_if_f hf c13
              by_cases c17 : x2 = 2
              · replace hf := cc_if_t hf c17
                refine rn_tab (n := 2) (tgt := 80) hx hb ix2 c17 dX11_name_27 (by decide) (by decide) rfl (by decide) ?_
                refine cl_aload_n hx hb dX11_name_80 rfl (lv_at hl.1 0 rfl) ?_
                obtain ⟨z18, ez18, iz18, rz18, hf⟩ := cc_g_s hw hf
                refine cw_get (val := cR z18) B hw rz18 ⟨by decide, by decide⟩ (by decide) cwi_12 cfl_11_23 ez18 rfl dX11_name_81 ?_
                obtain ⟨z19, ez19, iz19, rz19, hf⟩ := cc_g_s hw hf
                refine cw_get (val := cR z19) B hw rz19 ⟨by decide, by decide⟩ (by decide) cwi_1 cfl_11_84 ez19 rfl dX11_name_84 ?_
                obtain ⟨z20, ez20, iz20, rz20, hf⟩ := cc_g_s hw hf
                refine cw_get (val := cR z20) B hw rz20 ⟨by decide, by decide⟩ (by decide) cwi_6 cfl_11_132 ez20 rfl dX11_name_87 ?_
                refine lv_iload_n hx hb dX11_name_90 rfl (lv_at hl.1 1 rfl) ?_
                obtain ⟨z21, ez21, iz21, rz21, bz21, hf⟩ := cc_r_s hw hf
                refine cw_aldI B hw rz21 ix1 bz21 ez21 dX11_name_91 ?_
                exact cw_reti B hf hw dX11_name_92
              · replace hf := cc_if_f hf c17
                refine rn_tabO (tgt := 93) hx hb ix2 dX11_name_27 (by omega) (by decide) ?_
                refine cl_aload_n hx hb dX11_name_93 rfl (lv_at hl.1 0 rfl) ?_
                obtain ⟨z22, ez22, iz22, rz22, hf⟩ := cc_g_s hw hf
                refine cw_get (val := cR z22) B hw rz22 ⟨by decide, by decide⟩ (by decide) cwi_12 cfl_11_23 ez22 rfl dX11_name_94 ?_
                obtain ⟨z23, ez23, iz23, rz23, hf⟩ := cc_g_s hw hf
                refine cw_get (val := cR z23) B hw rz23 ⟨by decide, by decide⟩ (by decide) cwi_1 cfl_11_84 ez23 rfl dX11_name_97 ?_
                refine lv_iload_n hx hb dX11_name_100 rfl (lv_at hl.1 1 rfl) ?_
                refine lv_iload_n hx hb dX11_name_101 rfl (lv_at hl.1 2 rfl) ?_
                refine lv_iconst (v := rI 3) hx hb dX11_name_102 rfl ?_
                obtain ⟨z24, ez24, iz24, hf⟩ := cc_ck_s hf
                refine rn_sub hx hb ez24 dX11_name_103 ?_
                obtain ⟨qσ25, hf⟩ := cc_t_s hf
                obtain ⟨σ25, kv26, z27, hσ25, hf⟩ := cc_cl_s hf
                obtain ⟨iz27, mσ25⟩ := hR 58 σ3 [z23, x1, z24] σ25 kv26 z27 hσ25
                have mσ25 : cw_Met l v yX5_signOf cX5_signOf 3 (some .int) d [cR z23, .int (rI x1), .int (rI z24)] σ3 σ25 kv26 (some (.int (rI z27))) := mσ25 iz23 ix1 iz24
                refine cw_cv (b := z23) (t := 6) (n := 2) (rest := []) (As := [.int (rI x1), .int (rI z24)]) B mσ25 qσ25 ⟨by decide, by decide⟩ cgo_yX5_signOf cml_11_135 cin_yX5_signOf cse_yX5_signOf (by decide +kernel) (by decide) rfl hl.1.1 (Nat.le_of_ble_eq_true rfl) dX11_name_104 rfl hw (fun h0 H locs cells slots hw => ?_) (fun h0 H locs cells slots q ce hw h1 h2 h3 => ?_)
                · rcases hf with ⟨-, hf⟩ | ⟨hk, -⟩
                  · skip
                    exact cw_reti B hf hw dX11_name_107
                  · exact absurd h0 hk
                · rcases hf with ⟨hk, -⟩ | ⟨-, hf⟩
                  · exact absurd hk h0
                  · cases hf
                    exact cw_xout B hnh h0 hw h1 h2 h3
        · replace hf := cc_if_f hf c7
          exact pw_X11_name_18 rfl hR htr hd5 B hnh σ3 hf _ _ _ _ _ hw (cl_sub hl [] rfl)
    · exact absurd h0 hk
  · rcases hf with ⟨hk, -⟩ | ⟨-, hf⟩
    · exact absurd hk h0
    · cases hf
      exact cw_xout B hnh h0 hw h1 h2 h3

set_option maxHeartbeats 4000000 in
set_option maxRecDepth 100000 in
theorem pm_X11_name {v : cwE} {bd : Nat × Nat} {l : Launch} {d : Nat} {rec : Nat → CS → List Int → CO} (hbd : bd = (v.2.2.1, v.2.2.2.1)) (hR : cw_Rec l v d rec) (htr : l.stackTraces = false) (hd5 : 5 ≤ d) (σ σ' : CS) (x0 x1 x2 : Int) (kd : Nat) (r : Int) (ix0 : inR x0) (ix1 : inR x1) (ix2 : inR x2) (hf : pc_X11_name_0 rec bd σ x0 x1 x2 = some (σ', kd, r)) : cw_Met l v yX11_name cX11_name 3 (some .int) (d + 1) [cR x0, .int (rI x1), .int (rI x2)] σ σ' kd (some (.int (rI r))) := by
  refine cw_ofW (by decide +kernel) ?_
  intro p e s m args below meth c s₁ B hml hv
  obtain ⟨rfl, hM, hK⟩ := hv
  have hts := atoms_spec (ws := Cond.code yX11_name cX11_name 3 (some .int) :: cw_bw) B.pre
  have hB : cw_B v RX11 p s m _ meth c cX11_name 3 (some .int) := ⟨B.exec, B.bytes, B.returns, hml, findClass_of_methodNamed B.named, fun w h => hts w (List.mem_cons_of_mem _ h), B.notSynchronized, hK⟩
  have hnh := cc_nh B (hts _ List.mem_cons_self)
  rw [lg_entry_eq]
  obtain ⟨ls, hls, hl⟩ := cl_ent [cR x0, .int (rI x1), .int (rI x2)] 3 (cl_1r (cl_1i (cl_1i cl_10))) (Nat.le_of_ble_eq_true rfl)
  rw [hls]
  exact pw_X11_name_0 hbd hR htr hd5 hB hnh σ x0 x1 x2 ix0 ix1 ix2 hf _ _ _ _ _ (cw_W0 hM) (cl_sub hl [0, 1, 2] rfl)

set_option maxHeartbeats 4000000 in
set_option maxRecDepth 100000 in
theorem pw_X11_needNewName_37 {v : cwE} {bd : Nat × Nat} {p : Program} {l : Launch} {e : Env} {s : State} {m : MethodId} {args : Array Value} {below : List Frame} {meth : Method} {c : Code} {d : Nat} {rec : Nat → CS → List Int → CO} {σ0 σ' : CS} {kd : Nat} {r : Int} (hbd : bd = (v.2.2.1, v.2.2.2.1)) (hR : cw_Rec l v d rec) (htr : l.stackTraces = false) (hd5 : 5 ≤ d) (B : cw_B v RX11 p s m args meth c cX11_needNewName 3 none) (hnh : ∀ x ∈ c.exceptionTable.toList, False) : ∀ (σ : CS) (x0 x1 : Int), inR x0 → inR x1 → pc_X11_needNewName_37 rec bd σ x0 x1 = some (σ', kd, r) → ∀ (H : Heap) (locs : List Loc) (cells slots : Nat) (ls : Array Slot), cw_W v s σ0 σ H locs cells slots → cl_has ls 3 [(0, cR x0), (1, cR x1)] → W p l e (cw_rm v (d + 1) σ0) s m args below meth c H locs cells slots (cw_Z below v σ0 σ' kd none args s) (F0 m 37 ls []) := by
  subst hbd
  obtain ⟨hx, hb, hr, hml, hown, hts, hlk, hK⟩ := id B
  intro σ x0 x1 ix0 ix1 hf H locs cells slots ls hw hl
  unfold pc_X11_needNewName_37 at hf
  refine cl_aload_n hx hb dX11_needNewName_37 rfl (lv_at hl.1 0 rfl) ?_
  obtain ⟨z1, ez1, iz1, rz1, hf⟩ := cc_g_s hw hf
  refine cw_get (val := cR z1) B hw rz1 ⟨by decide, by decide⟩ (by decide) cwi_12 cfl_11_16 ez1 rfl dX11_needNewName_38 ?_
  refine lv_iconst (v := rI 4) hx hb dX11_needNewName_41 rfl ?_
  refine cl_aload_n hx hb dX11_needNewName_42 rfl (lv_at hl.1 1 rfl) ?_
  obtain ⟨z2, ez2, iz2, rz2, hf⟩ := cc_g_s hw hf
  refine cw_get (val := .int (rI z2)) B hw rz2 ⟨by decide, by decide⟩ (by decide) cwi_7 cfl_11_256 ez2 rfl dX11_needNewName_43 ?_
  obtain ⟨qσ3, hf⟩ := cc_t_s hf
  obtain ⟨σ3, kv4, z5, hσ3, hf⟩ := cc_cl_s hf
  obtain ⟨iz5, mσ3⟩ := hR 95 σ [z1, 4, z2] σ3 kv4 z5 hσ3
  have mσ3 : cw_Met l v yX10_set cX10_set 3 none d [cR z1, .int (rI 4), .int (rI z2)] σ σ3 kv4 none := mσ3 iz1 ⟨by decide, by decide⟩ iz2
  refine cw_cv (b := z1) (t := 11) (n := 2) (rest := []) (As := [.int (rI 4), .int (rI z2)]) B mσ3 qσ3 ⟨by decide, by decide⟩ cgo_yX10_set cml_11_257 cin_yX10_set cse_yX10_set (by decide +kernel) (by decide) rfl hl.1.1 (Nat.le_of_ble_eq_true rfl) dX11_needNewName_46 rfl hw (fun h0 H locs cells slots hw => ?_) (fun h0 H locs cells slots q ce hw h1 h2 h3 => ?_)
  · rcases hf with ⟨-, hf⟩ | ⟨hk, -⟩
    · skip
      obtain ⟨hy, hm⟩ := cc_x_s hf
      obtain ⟨hy1, hy2⟩ := Prod.mk.inj hy
      obtain ⟨hy2, hy3⟩ := Prod.mk.inj hy2
      subst hy2
      refine cw_throw (rest := []) B hnh htr hw (by decide) (by decide +kernel) cxc_11_158 cxi_1 (cw_hat cxa_11_160 (by decide +kernel) hts hK.1) (List.all_eq_true.mp cxg_11_160) hd5 hm hy1 hl.1.1 (Nat.le_of_ble_eq_true rfl) dX11_needNewName_49 dX11_needNewName_52 dX11_needNewName_53 dX11_needNewName_56
    · exact absurd h0 hk
  · rcases hf with ⟨hk, -⟩ | ⟨-, hf⟩
    · exact absurd hk h0
    · cases hf
      exact cw_xout B hnh h0 hw h1 h2 h3

set_option maxHeartbeats 4000000 in
set_option maxRecDepth 100000 in
theorem pw_X11_needNewName_0 {v : cwE} {bd : Nat × Nat} {p : Program} {l : Launch} {e : Env} {s : State} {m : MethodId} {args : Array Value} {below : List Frame} {meth : Method} {c : Code} {d : Nat} {rec : Nat → CS → List Int → CO} {σ0 σ' : CS} {kd : Nat} {r : Int} (hbd : bd = (v.2.2.1, v.2.2.2.1)) (hR : cw_Rec l v d rec) (htr : l.stackTraces = false) (hd5 : 5 ≤ d) (B : cw_B v RX11 p s m args meth c cX11_needNewName 3 none) (hnh : ∀ x ∈ c.exceptionTable.toList, False) : ∀ (σ : CS) (x0 x1 : Int), inR x0 → inR x1 → pc_X11_needNewName_0 rec bd σ x0 x1 = some (σ', kd, r) → ∀ (H : Heap) (locs : List Loc) (cells slots : Nat) (ls : Array Slot), cw_W v s σ0 σ H locs cells slots → cl_has ls 3 [(0, cR x0), (1, cR x1)] → W p l e (cw_rm v (d + 1) σ0) s m args below meth c H locs cells slots (cw_Z below v σ0 σ' kd none args s) (F0 m 0 ls []) := by
  subst hbd
  obtain ⟨hx, hb, hr, hml, hown, hts, hlk, hK⟩ := id B
  intro σ x0 x1 ix0 ix1 hf H locs cells slots ls hw hl
  unfold pc_X11_needNewName_0 at hf
  refine cl_aload_n hx hb dX11_needNewName_0 rfl (lv_at hl.1 0 rfl) ?_
  obtain ⟨z1, ez1, iz1, rz1, hf⟩ := cc_g_s hw hf
  refine cw_get (val := cR z1) B hw rz1 ⟨by decide, by decide⟩ (by decide) cwi_12 cfl_11_23 ez1 rfl dX11_needNewName_1 ?_
  obtain ⟨z2, ez2, iz2, rz2, hf⟩ := cc_g_s hw hf
  refine cw_get (val := cR z2) B hw rz2 ⟨by decide, by decide⟩ (by decide) cwi_1 cfl_11_84 ez2 rfl dX11_needNewName_4 ?_
  refine cl_aload_n hx hb dX11_needNewName_7 rfl (lv_at hl.1 0 rfl) ?_
  obtain ⟨z3, ez3, iz3, rz3, hf⟩ := cc_g_s hw hf
  refine cw_get (val := cR z3) B hw rz3 ⟨by decide, by decide⟩ (by decide) cwi_12 cfl_11_9 ez3 rfl dX11_needNewName_8 ?_
  refine cl_aload_n hx hb dX11_needNewName_11 rfl (lv_at hl.1 1 rfl) ?_
  obtain ⟨z4, ez4, iz4, rz4, hf⟩ := cc_g_s hw hf
  refine cw_get (val := .int (rI z4)) B hw rz4 ⟨by decide, by decide⟩ (by decide) cwi_7 cfl_11_265 ez4 rfl dX11_needNewName_12 ?_
  refine cl_aload_n hx hb dX11_needNewName_15 rfl (lv_at hl.1 1 rfl) ?_
  obtain ⟨z5, ez5, iz5, rz5, hf⟩ := cc_g_s hw hf
  refine cw_get (val := .int (rI z5)) B hw rz5 ⟨by decide, by decide⟩ (by decide) cwi_7 cfl_11_268 ez5 rfl dX11_needNewName_16 ?_
  obtain ⟨qσ6, hf⟩ := cc_t_s hf
  obtain ⟨σ6, kv7, z8, hσ6, hf⟩ := cc_cl_s hf
  obtain ⟨iz8, mσ6⟩ := hR 54 σ [z2, z3, z4, z5] σ6 kv7 z8 hσ6
  have mσ6 : cw_Met l v yX5_find cX5_find 5 (some .int) d [cR z2, cR z3, .int (rI z4), .int (rI z5)] σ σ6 kv7 (some (.int (rI z8))) := mσ6 iz2 iz3 iz4 iz5
  refine cw_cv (b := z2) (t := 6) (n := 3) (rest := []) (As := [cR z3, .int (rI z4), .int (rI z5)]) B mσ6 qσ6 ⟨by decide, by decide⟩ cgo_yX5_find cml_11_288 cin_yX5_find cse_yX5_find (by decide +kernel) (by decide) rfl hl.1.1 (Nat.le_of_ble_eq_true rfl) dX11_needNewName_19 rfl hw (fun h0 H locs cells slots hw => ?_) (fun h0 H locs cells slots q ce hw h1 h2 h3 => ?_)
  · rcases hf with ⟨-, hf⟩ | ⟨hk, -⟩
    · skip
      refine cl_istore_n (lv' := [(2, .int (rI z8)), (0, cR x0), (1, cR x1)]) hx hb dX11_needNewName_22 rfl hl (by decide) rfl (fun ls hl => ?_)
      refine lv_iload_n hx hb dX11_needNewName_23 rfl (lv_at hl.1 0 rfl) ?_
      refine lv_iconst (v := rI (-1)) hx hb dX11_needNewName_24 rfl ?_
      refine rn_icmp_ne (a := z8) (b := (-1)) (tgt := 37) hx hb iz8 ⟨by decide, by decide⟩ dX11_needNewName_25 (by decide) (fun c9 => ?_) (fun c9 => ?_)
      · replace hf := cc_if_t hf c9
        exact pw_X11_needNewName_37 rfl hR htr hd5 B hnh σ6 x0 x1 ix0 ix1 hf _ _ _ _ _ hw (cl_sub hl [1, 2] rfl)
      · replace hf := cc_if_f hf c9
        refine cl_aload_n hx hb dX11_needNewName_28 rfl (lv_at hl.1 1 rfl) ?_
        refine cl_aload_n hx hb dX11_needNewName_29 rfl (lv_at hl.1 2 rfl) ?_
        obtain ⟨qσ10, hf⟩ := cc_t_s hf
        obtain ⟨σ10, kv11, z12, hσ10, hf⟩ := cc_cl_s hf
        obtain ⟨iz12, mσ10⟩ := hR 123 σ6 [x0, x1] σ10 kv11 z12 hσ10
        have mσ10 : cw_Met l v yX11_sortNumber cX11_sortNumber 2 (some .int) d [cR x0, cR x1] σ6 σ10 kv11 (some (.int (rI z12))) := mσ10 ix0 ix1
        refine cw_cv (b := x0) (t := 12) (n := 1) (rest := []) (As := [cR x1]) B mσ10 qσ10 ⟨by decide, by decide⟩ cgo_yX11_sortNumber cml_11_253 cin_yX11_sortNumber cse_yX11_sortNumber (by decide +kernel) (by decide) rfl hl.1.1 (Nat.le_of_ble_eq_true rfl) dX11_needNewName_30 rfl hw (fun h0 H locs cells slots hw => ?_) (fun h0 H locs cells slots q ce hw h1 h2 h3 => ?_)
        · rcases hf with ⟨-, hf⟩ | ⟨hk, -⟩
          · skip
            refine lv_iconst (v := rI (-1)) hx hb dX11_needNewName_33 rfl ?_
            refine rn_icmp_eq (a := z12) (b := (-1)) (tgt := 57) hx hb iz12 ⟨by decide, by decide⟩ dX11_needNewName_34 (by decide) (fun c13 => ?_) (fun c13 => ?_)
            · replace hf := cc_if_t hf c13
              refine cl_aload_n hx hb dX11_needNewName_57 rfl (lv_at hl.1 1 rfl) ?_
              obtain ⟨z14, ez14, iz14, rz14, hf⟩ := cc_g_s hw hf
              refine cw_get (val := cR z14) B hw rz14 ⟨by decide, by decide⟩ (by decide) cwi_12 cfl_11_23 ez14 rfl dX11_needNewName_58 ?_
              obtain ⟨z15, ez15, iz15, rz15, hf⟩ := cc_g_s hw hf
              refine cw_get (val := cR z15) B hw rz15 ⟨by decide, by decide⟩ (by decide) cwi_1 cfl_11_84 ez15 rfl dX11_needNewName_61 ?_
              obtain ⟨qσ16, hf⟩ := cc_t_s hf
              obtain ⟨σ16, kv17, z18, hσ16, hf⟩ := cc_cl_s hf
              obtain ⟨iz18, mσ16⟩ := hR 57 σ10 [z15] σ16 kv17 z18 hσ16
              have mσ16 : cw_Met l v yX5_isFull cX5_isFull 1 (some .boolean) d [cR z15] σ10 σ16 kv17 (some (.int (rI z18))) := mσ16 iz15
              refine cw_cv (b := z15) (t := 6) (n := 0) (rest := []) (As := []) B mσ16 qσ16 ⟨by decide, by decide⟩ cgo_yX5_isFull cml_11_261 cin_yX5_isFull cse_yX5_isFull (by decide +kernel) (by decide) rfl hl.1.1 (Nat.le_of_ble_eq_true rfl) dX11_needNewName_64 rfl hw (fun h0 H locs cells slots hw => ?_) (fun h0 H locs cells slots q ce hw h1 h2 h3 => ?_)
              · rcases hf with ⟨-, hf⟩ | ⟨hk, -⟩
                · skip
                  refine rn_if_eq (a := z18) (tgt := 90) hx hb iz18 dX11_needNewName_67 (by decide) (fun c19 => ?_) (fun c19 => ?_)
                  · replace hf := cc_if_t hf c19
                    exact cw_retv B hf hw dX11_needNewName_90
                  · replace hf := cc_if_f hf c19
                    refine cl_aload_n hx hb dX11_needNewName_70 rfl (lv_at hl.1 1 rfl) ?_
                    obtain ⟨z20, ez20, iz20, rz20, hf⟩ := cc_g_s hw hf
                    refine cw_get (val := cR z20) B hw rz20 ⟨by decide, by decide⟩ (by decide) cwi_12 cfl_11_16 ez20 rfl dX11_needNewName_71 ?_
                    refine lv_iconst (v := rI 5) hx hb dX11_needNewName_74 rfl ?_
                    refine cl_aload_n hx hb dX11_needNewName_75 rfl (lv_at hl.1 2 rfl) ?_
                    obtain ⟨z21, ez21, iz21, rz21, hf⟩ := cc_g_s hw hf
                    refine cw_get (val := .int (rI z21)) B hw rz21 ⟨by decide, by decide⟩ (by decide) cwi_7 cfl_11_256 ez21 rfl dX11_needNewName_76 ?_
                    obtain ⟨qσ22, hf⟩ := cc_t_s hf
                    obtain ⟨σ22, kv23, z24, hσ22, hf⟩ := cc_cl_s hf
                    obtain ⟨iz24, mσ22⟩ := hR 95 σ16 [z20, 5, z21] σ22 kv23 z24 hσ22
                    have mσ22 : cw_Met l v yX10_set cX10_set 3 none d [cR z20, .int (rI 5), .int (rI z21)] σ16 σ22 kv23 none := mσ22 iz20 ⟨by decide, by decide⟩ iz21
                    refine cw_cv (b := z20) (t := 11) (n := 2) (rest := []) (As := [.int (rI 5), .int (rI z21)]) B mσ22 qσ22 ⟨by decide, by decide⟩ cgo_yX10_set cml_11_257 cin_yX10_set cse_yX10_set (by decide +kernel) (by decide) rfl hl.1.1 (Nat.le_of_ble_eq_true rfl) dX11_needNewName_79 rfl hw (fun h0 H locs cells slots hw => ?_) (fun h0 H locs cells slots q ce hw h1 h2 h3 => ?_)
                    · rcases hf with ⟨-, hf⟩ | ⟨hk, -⟩
                      · skip
                        obtain ⟨hy, hm⟩ := cc_x_s hf
                        obtain ⟨hy1, hy2⟩ := Prod.mk.inj hy
                        obtain ⟨hy2, hy3⟩ := Prod.mk.inj hy2
                        subst hy2
                        refine cw_throw (rest := []) B hnh htr hw (by decide) (by decide +kernel) cxc_11_158 cxi_1 (cw_hat cxa_11_160 (by decide +kernel) hts hK.1) (List.all_eq_true.mp cxg_11_160) hd5 hm hy1 hl.1.1 (Nat.le_of_ble_eq_true rfl) dX11_needNewName_82 dX11_needNewName_85 dX11_needNewName_86 dX11_needNewName_89
                      · exact absurd h0 hk
                    · rcases hf with ⟨hk, -⟩ | ⟨-, hf⟩
                      · exact absurd hk h0
                      · cases hf
                        exact cw_xout B hnh h0 hw h1 h2 h3
                · exact absurd h0 hk
              · rcases hf with ⟨hk, -⟩ | ⟨-, hf⟩
                · exact absurd hk h0
                · cases hf
                  exact cw_xout B hnh h0 hw h1 h2 h3
            · replace hf := cc_if_f hf c13
              exact pw_X11_needNewName_37 rfl hR htr hd5 B hnh σ10 x0 x1 ix0 ix1 hf _ _ _ _ _ hw (cl_sub hl [1, 2] rfl)
          · exact absurd h0 hk
        · rcases hf with ⟨hk, -⟩ | ⟨-, hf⟩
          · exact absurd hk h0
          · cases hf
            exact cw_xout B hnh h0 hw h1 h2 h3
    · exact absurd h0 hk
  · rcases hf with ⟨hk, -⟩ | ⟨-, hf⟩
    · exact absurd hk h0
    · cases hf
      exact cw_xout B hnh h0 hw h1 h2 h3

set_option maxHeartbeats 4000000 in
set_option maxRecDepth 100000 in
theorem pm_X11_needNewName {v : cwE} {bd : Nat × Nat} {l : Launch} {d : Nat} {rec : Nat → CS → List Int → CO} (hbd : bd = (v.2.2.1, v.2.2.2.1)) (hR : cw_Rec l v d rec) (htr : l.stackTraces = false) (hd5 : 5 ≤ d) (σ σ' : CS) (x0 x1 : Int) (kd : Nat) (r : Int) (ix0 : inR x0) (ix1 : inR x1) (hf : pc_X11_needNewName_0 rec bd σ x0 x1 = some (σ', kd, r)) : cw_Met l v yX11_needNewName cX11_needNewName 3 none (d + 1) [cR x0, cR x1] σ σ' kd none := by
  refine cw_ofW (by decide +kernel) ?_
  intro p e s m args below meth c s₁ B hml hv
  obtain ⟨rfl, hM, hK⟩ := hv
  have hts := atoms_spec (ws := Cond.code yX11_needNewName cX11_needNewName 3 none :: cw_bw) B.pre
  have hB : cw_B v RX11 p s m _ meth c cX11_needNewName 3 none := ⟨B.exec, B.bytes, B.returns, hml, findClass_of_methodNamed B.named, fun w h => hts w (List.mem_cons_of_mem _ h), B.notSynchronized, hK⟩
  have hnh := cc_nh B (hts _ List.mem_cons_self)
  rw [lg_entry_eq]
  obtain ⟨ls, hls, hl⟩ := cl_ent [cR x0, cR x1] 3 (cl_1r (cl_1r cl_10)) (Nat.le_of_ble_eq_true rfl)
  rw [hls]
  exact pw_X11_needNewName_0 hbd hR htr hd5 hB hnh σ x0 x1 ix0 ix1 hf _ _ _ _ _ (cw_W0 hM) (cl_sub hl [0, 1] rfl)

set_option maxHeartbeats 4000000 in
set_option maxRecDepth 100000 in
theorem pw_X11_neededSort_0 {v : cwE} {bd : Nat × Nat} {p : Program} {l : Launch} {e : Env} {s : State} {m : MethodId} {args : Array Value} {below : List Frame} {meth : Method} {c : Code} {d : Nat} {rec : Nat → CS → List Int → CO} {σ0 σ' : CS} {kd : Nat} {r : Int} (hbd : bd = (v.2.2.1, v.2.2.2.1)) (hR : cw_Rec l v d rec) (htr : l.stackTraces = false) (hd5 : 5 ≤ d) (B : cw_B v RX11 p s m args meth c cX11_neededSort 3 (some .int)) (hnh : ∀ x ∈ c.exceptionTable.toList, False) : ∀ (σ : CS) (x0 x1 : Int), inR x0 → inR x1 → pc_X11_neededSort_0 rec bd σ x0 x1 = some (σ', kd, r) → ∀ (H : Heap) (locs : List Loc) (cells slots : Nat) (ls : Array Slot), cw_W v s σ0 σ H locs cells slots → cl_has ls 3 [(0, cR x0), (1, cR x1)] → W p l e (cw_rm v (d + 1) σ0) s m args below meth c H locs cells slots (cw_Z below v σ0 σ' kd (some (.int (rI r))) args s) (F0 m 0 ls []) := by
  subst hbd
  obtain ⟨hx, hb, hr, hml, hown, hts, hlk, hK⟩ := id B
  intro σ x0 x1 ix0 ix1 hf H locs cells slots ls hw hl
  unfold pc_X11_neededSort_0 at hf
  refine cl_aload_n hx hb dX11_neededSort_0 rfl (lv_at hl.1 0 rfl) ?_
  refine cl_aload_n hx hb dX11_neededSort_1 rfl (lv_at hl.1 1 rfl) ?_
  obtain ⟨qσ1, hf⟩ := cc_t_s hf
  obtain ⟨σ1, kv2, z3, hσ1, hf⟩ := cc_cl_s hf
  obtain ⟨iz3, mσ1⟩ := hR 123 σ [x0, x1] σ1 kv2 z3 hσ1
  have mσ1 : cw_Met l v yX11_sortNumber cX11_sortNumber 2 (some .int) d [cR x0, cR x1] σ σ1 kv2 (some (.int (rI z3))) := mσ1 ix0 ix1
  refine cw_cv (b := x0) (t := 12) (n := 1) (rest := []) (As := [cR x1]) B mσ1 qσ1 ⟨by decide, by decide⟩ cgo_yX11_sortNumber cml_11_253 cin_yX11_sortNumber cse_yX11_sortNumber (by decide +kernel) (by decide) rfl hl.1.1 (Nat.le_of_ble_eq_true rfl) dX11_neededSort_2 rfl hw (fun h0 H locs cells slots hw => ?_) (fun h0 H locs cells slots q ce hw h1 h2 h3 => ?_)
  · rcases hf with ⟨-, hf⟩ | ⟨hk, -⟩
    · skip
      refine cl_istore_n (lv' := [(2, .int (rI z3)), (0, cR x0), (1, cR x1)]) hx hb dX11_neededSort_5 rfl hl (by decide) rfl (fun ls hl => ?_)
      refine lv_iload_n hx hb dX11_neededSort_6 rfl (lv_at hl.1 0 rfl) ?_
      refine lv_iconst (v := rI (-1)) hx hb dX11_neededSort_7 rfl ?_
      refine rn_icmp_ne (a := z3) (b := (-1)) (tgt := 31) hx hb iz3 ⟨by decide, by decide⟩ dX11_neededSort_8 (by decide) (fun c4 => ?_) (fun c4 => ?_)
      · replace hf := cc_if_t hf c4
        refine lv_iload_n hx hb dX11_neededSort_31 rfl (lv_at hl.1 0 rfl) ?_
        exact cw_reti B hf hw dX11_neededSort_32
      · replace hf := cc_if_f hf c4
        refine cl_aload_n hx hb dX11_neededSort_11 rfl (lv_at hl.1 1 rfl) ?_
        obtain ⟨z5, ez5, iz5, rz5, hf⟩ := cc_g_s hw hf
        refine cw_get (val := cR z5) B hw rz5 ⟨by decide, by decide⟩ (by decide) cwi_12 cfl_11_16 ez5 rfl dX11_neededSort_12 ?_
        refine lv_iconst (v := rI 3) hx hb dX11_neededSort_15 rfl ?_
        refine cl_aload_n hx hb dX11_neededSort_16 rfl (lv_at hl.1 2 rfl) ?_
        obtain ⟨z6, ez6, iz6, rz6, hf⟩ := cc_g_s hw hf
        refine cw_get (val := .int (rI z6)) B hw rz6 ⟨by decide, by decide⟩ (by decide) cwi_7 cfl_11_256 ez6 rfl dX11_neededSort_17 ?_
        obtain ⟨qσ7, hf⟩ := cc_t_s hf
        obtain ⟨σ7, kv8, z9, hσ7, hf⟩ := cc_cl_s hf
        obtain ⟨iz9, mσ7⟩ := hR 95 σ1 [z5, 3, z6] σ7 kv8 z9 hσ7
        have mσ7 : cw_Met l v yX10_set cX10_set 3 none d [cR z5, .int (rI 3), .int (rI z6)] σ1 σ7 kv8 none := mσ7 iz5 ⟨by decide, by decide⟩ iz6
        refine cw_cv (b := z5) (t := 11) (n := 2) (rest := []) (As := [.int (rI 3), .int (rI z6)]) B mσ7 qσ7 ⟨by decide, by decide⟩ cgo_yX10_set cml_11_257 cin_yX10_set cse_yX10_set (by decide +kernel) (by decide) rfl hl.1.1 (Nat.le_of_ble_eq_true rfl) dX11_neededSort_20 rfl hw (fun h0 H locs cells slots hw => ?_) (fun h0 H locs cells slots q ce hw h1 h2 h3 => ?_)
        · rcases hf with ⟨-, hf⟩ | ⟨hk, -⟩
          · skip
            obtain ⟨hy, hm⟩ := cc_x_s hf
            obtain ⟨hy1, hy2⟩ := Prod.mk.inj hy
            obtain ⟨hy2, hy3⟩ := Prod.mk.inj hy2
            subst hy2
            refine cw_throw (rest := []) B hnh htr hw (by decide) (by decide +kernel) cxc_11_158 cxi_1 (cw_hat cxa_11_160 (by decide +kernel) hts hK.1) (List.all_eq_true.mp cxg_11_160) hd5 hm hy1 hl.1.1 (Nat.le_of_ble_eq_true rfl) dX11_neededSort_23 dX11_neededSort_26 dX11_neededSort_27 dX11_neededSort_30
          · exact absurd h0 hk
        · rcases hf with ⟨hk, -⟩ | ⟨-, hf⟩
          · exact absurd hk h0
          · cases hf
            exact cw_xout B hnh h0 hw h1 h2 h3
    · exact absurd h0 hk
  · rcases hf with ⟨hk, -⟩ | ⟨-, hf⟩
    · exact absurd hk h0
    · cases hf
      exact cw_xout B hnh h0 hw h1 h2 h3

set_option maxHeartbeats 4000000 in
set_option maxRecDepth 100000 in
theorem pm_X11_neededSort {v : cwE} {bd : Nat × Nat} {l : Launch} {d : Nat} {rec : Nat → CS → List Int → CO} (hbd : bd = (v.2.2.1, v.2.2.2.1)) (hR : cw_Rec l v d rec) (htr : l.stackTraces = false) (hd5 : 5 ≤ d) (σ σ' : CS) (x0 x1 : Int) (kd : Nat) (r : Int) (ix0 : inR x0) (ix1 : inR x1) (hf : pc_X11_neededSort_0 rec bd σ x0 x1 = some (σ', kd, r)) : cw_Met l v yX11_neededSort cX11_neededSort 3 (some .int) (d + 1) [cR x0, cR x1] σ σ' kd (some (.int (rI r))) := by
  refine cw_ofW (by decide +kernel) ?_
  intro p e s m args below meth c s₁ B hml hv
  obtain ⟨rfl, hM, hK⟩ := hv
  have hts := atoms_spec (ws := Cond.code yX11_neededSort cX11_neededSort 3 (some .int) :: cw_bw) B.pre
  have hB : cw_B v RX11 p s m _ meth c cX11_neededSort 3 (some .int) := ⟨B.exec, B.bytes, B.returns, hml, findClass_of_methodNamed B.named, fun w h => hts w (List.mem_cons_of_mem _ h), B.notSynchronized, hK⟩
  have hnh := cc_nh B (hts _ List.mem_cons_self)
  rw [lg_entry_eq]
  obtain ⟨ls, hls, hl⟩ := cl_ent [cR x0, cR x1] 3 (cl_1r (cl_1r cl_10)) (Nat.le_of_ble_eq_true rfl)
  rw [hls]
  exact pw_X11_neededSort_0 hbd hR htr hd5 hB hnh σ x0 x1 ix0 ix1 hf _ _ _ _ _ (cw_W0 hM) (cl_sub hl [0, 1] rfl)

set_option maxHeartbeats 4000000 in
set_option maxRecDepth 100000 in
theorem pw_X11_out_27 {v : cwE} {bd : Nat × Nat} {p : Program} {l : Launch} {e : Env} {s : State} {m : MethodId} {args : Array Value} {below : List Frame} {meth : Method} {c : Code} {d : Nat} {rec : Nat → CS → List Int → CO} {σ0 σ' : CS} {kd : Nat} {r : Int} (hbd : bd = (v.2.2.1, v.2.2.2.1)) (hR : cw_Rec l v d rec) (htr : l.stackTraces = false) (hd5 : 5 ≤ d) (B : cw_B v RX11 p s m args meth c cX11_out 2 (some .int)) (hnh : ∀ x ∈ c.exceptionTable.toList, False) : ∀ (σ : CS), pc_X11_out_27 rec bd σ = some (σ', kd, r) → ∀ (H : Heap) (locs : List Loc) (cells slots : Nat) (ls : Array Slot), cw_W v s σ0 σ H locs cells slots → cl_has ls 2 [] → W p l e (cw_rm v (d + 1) σ0) s m args below meth c H locs cells slots (cw_Z below v σ0 σ' kd (some (.int (rI r))) args s) (F0 m 27 ls []) := by
  subst hbd
  obtain ⟨hx, hb, hr, hml, hown, hts, hlk, hK⟩ := id B
  intro σ hf H locs cells slots ls hw hl
  unfold pc_X11_out_27 at hf
  obtain ⟨hy, hm⟩ := cc_x_s hf
  obtain ⟨hy1, hy2⟩ := Prod.mk.inj hy
  obtain ⟨hy2, hy3⟩ := Prod.mk.inj hy2
  subst hy2
  refine cw_throw (rest := []) B hnh htr hw (by decide) (by decide +kernel) cxc_11_81 cxi_3 (cw_hat cxa_11_83 (by decide +kernel) hts hK.1) (List.all_eq_true.mp cxg_11_83) hd5 hm hy1 hl.1.1 (Nat.le_of_ble_eq_true rfl) dX11_out_27 dX11_out_30 dX11_out_31 dX11_out_34

set_option maxHeartbeats 4000000 in
set_option maxRecDepth 100000 in
theorem pw_X11_out_0 {v : cwE} {bd : Nat × Nat} {p : Program} {l : Launch} {e : Env} {s : State} {m : MethodId} {args : Array Value} {below : List Frame} {meth : Method} {c : Code} {d : Nat} {rec : Nat → CS → List Int → CO} {σ0 σ' : CS} {kd : Nat} {r : Int} (hbd : bd = (v.2.2.1, v.2.2.2.1)) (hR : cw_Rec l v d rec) (htr : l.stackTraces = false) (hd5 : 5 ≤ d) (B : cw_B v RX11 p s m args meth c cX11_out 2 (some .int)) (hnh : ∀ x ∈ c.exceptionTable.toList, False) : ∀ (σ : CS) (x0 x1 : Int), inR x0 → inR x1 → pc_X11_out_0 rec bd σ x0 x1 = some (σ', kd, r) → ∀ (H : Heap) (locs : List Loc) (cells slots : Nat) (ls : Array Slot), cw_W v s σ0 σ H locs cells slots → cl_has ls 2 [(0, cR x0), (1, .int (rI x1))] → W p l e (cw_rm v (d + 1) σ0) s m args below meth c H locs cells slots (cw_Z below v σ0 σ' kd (some (.int (rI r))) args s) (F0 m 0 ls []) := by
  subst hbd
  obtain ⟨hx, hb, hr, hml, hown, hts, hlk, hK⟩ := id B
  intro σ x0 x1 ix0 ix1 hf H locs cells slots ls hw hl
  unfold pc_X11_out_0 at hf
  refine lv_iload_n hx hb dX11_out_0 rfl (lv_at hl.1 1 rfl) ?_
  refine rn_if_lt (a := x1) (tgt := 27) hx hb ix1 dX11_out_1 (by decide) (fun c1 => ?_) (fun c1 => ?_)
  · replace hf := cc_if_t hf c1
    exact pw_X11_out_27 rfl hR htr hd5 B hnh σ hf _ _ _ _ _ hw (cl_sub hl [] rfl)
  · replace hf := cc_if_f hf c1
    refine lv_iload_n hx hb dX11_out_4 rfl (lv_at hl.1 1 rfl) ?_
    refine cl_aload_n hx hb dX11_out_5 rfl (lv_at hl.1 0 rfl) ?_
    obtain ⟨z2, ez2, iz2, rz2, hf⟩ := cc_g_s hw hf
    refine cw_get (val := cR z2) B hw rz2 ⟨by decide, by decide⟩ (by decide) cwi_12 cfl_11_32 ez2 rfl dX11_out_6 ?_
    obtain ⟨z3, ez3, iz3, rz3, hf⟩ := cc_g_s hw hf
    refine cw_get (val := .int (rI z3)) B hw rz3 ⟨by decide, by decide⟩ (by decide) cwi_5 cfl_11_96 ez3 rfl dX11_out_9 ?_
    refine rn_icmp_ge (a := x1) (b := z3) (tgt := 27) hx hb ix1 iz3 dX11_out_12 (by decide) (fun c4 => ?_) (fun c4 => ?_)
    · replace hf := cc_if_t hf c4
      exact pw_X11_out_27 rfl hR htr hd5 B hnh σ hf _ _ _ _ _ hw (cl_sub hl [] rfl)
    · replace hf := cc_if_f hf c4
      refine lv_iload_n hx hb dX11_out_15 rfl (lv_at hl.1 1 rfl) ?_
      refine cl_aload_n hx hb dX11_out_16 rfl (lv_at hl.1 0 rfl) ?_
      obtain ⟨z5, ez5, iz5, rz5, hf⟩ := cc_g_s hw hf
      refine cw_get (val := cR z5) B hw rz5 ⟨by decide, by decide⟩ (by decide) cwi_12 cfl_11_32 ez5 rfl dX11_out_17 ?_
      obtain ⟨z6, ez6, iz6, rz6, hf⟩ := cc_g_s hw hf
      refine cw_get (val := cR z6) B hw rz6 ⟨by decide, by decide⟩ (by decide) cwi_5 cfl_11_99 ez6 rfl dX11_out_20 ?_
      obtain ⟨z7, ez7, iz7, rz7, hf⟩ := cc_l_s hf
      refine cw_len B hw rz7 (by decide) ez7 iz7 dX11_out_23 ?_
      refine rn_icmp_lt (a := x1) (b := z7) (tgt := 35) hx hb ix1 iz7 dX11_out_24 (by decide) (fun c8 => ?_) (fun c8 => ?_)
      · replace hf := cc_if_t hf c8
        refine cl_aload_n hx hb dX11_out_35 rfl (lv_at hl.1 0 rfl) ?_
        obtain ⟨z9, ez9, iz9, rz9, hf⟩ := cc_g_s hw hf
        refine cw_get (val := cR z9) B hw rz9 ⟨by decide, by decide⟩ (by decide) cwi_12 cfl_11_32 ez9 rfl dX11_out_36 ?_
        obtain ⟨z10, ez10, iz10, rz10, hf⟩ := cc_g_s hw hf
        refine cw_get (val := cR z10) B hw rz10 ⟨by decide, by decide⟩ (by decide) cwi_5 cfl_11_99 ez10 rfl dX11_out_39 ?_
        refine lv_iload_n hx hb dX11_out_42 rfl (lv_at hl.1 1 rfl) ?_
        obtain ⟨z11, ez11, iz11, rz11, bz11, hf⟩ := cc_r_s hw hf
        refine cw_aldB B hw rz11 ix1 bz11 ez11 dX11_out_43 ?_
        exact cw_reti B hf hw dX11_out_44
      · replace hf := cc_if_f hf c8
        exact pw_X11_out_27 rfl hR htr hd5 B hnh σ hf _ _ _ _ _ hw (cl_sub hl [] rfl)

set_option maxHeartbeats 4000000 in
set_option maxRecDepth 100000 in
theorem pm_X11_out {v : cwE} {bd : Nat × Nat} {l : Launch} {d : Nat} {rec : Nat → CS → List Int → CO} (hbd : bd = (v.2.2.1, v.2.2.2.1)) (hR : cw_Rec l v d rec) (htr : l.stackTraces = false) (hd5 : 5 ≤ d) (σ σ' : CS) (x0 x1 : Int) (kd : Nat) (r : Int) (ix0 : inR x0) (ix1 : inR x1) (hf : pc_X11_out_0 rec bd σ x0 x1 = some (σ', kd, r)) : cw_Met l v yX11_out cX11_out 2 (some .int) (d + 1) [cR x0, .int (rI x1)] σ σ' kd (some (.int (rI r))) := by
  refine cw_ofW (by decide +kernel) ?_
  intro p e s m args below meth c s₁ B hml hv
  obtain ⟨rfl, hM, hK⟩ := hv
  have hts := atoms_spec (ws := Cond.code yX11_out cX11_out 2 (some .int) :: cw_bw) B.pre
  have hB : cw_B v RX11 p s m _ meth c cX11_out 2 (some .int) := ⟨B.exec, B.bytes, B.returns, hml, findClass_of_methodNamed B.named, fun w h => hts w (List.mem_cons_of_mem _ h), B.notSynchronized, hK⟩
  have hnh := cc_nh B (hts _ List.mem_cons_self)
  rw [lg_entry_eq]
  obtain ⟨ls, hls, hl⟩ := cl_ent [cR x0, .int (rI x1)] 2 (cl_1r (cl_1i cl_10)) (Nat.le_of_ble_eq_true rfl)
  rw [hls]
  exact pw_X11_out_0 hbd hR htr hd5 hB hnh σ x0 x1 ix0 ix1 hf _ _ _ _ _ (cw_W0 hM) (cl_sub hl [0, 1] rfl)

set_option maxHeartbeats 4000000 in
set_option maxRecDepth 100000 in
theorem pw_X11_outs_0 {v : cwE} {bd : Nat × Nat} {p : Program} {l : Launch} {e : Env} {s : State} {m : MethodId} {args : Array Value} {below : List Frame} {meth : Method} {c : Code} {d : Nat} {rec : Nat → CS → List Int → CO} {σ0 σ' : CS} {kd : Nat} {r : Int} (hbd : bd = (v.2.2.1, v.2.2.2.1)) (hR : cw_Rec l v d rec) (htr : l.stackTraces = false) (hd5 : 5 ≤ d) (B : cw_B v RX11 p s m args meth c cX11_outs 1 (some .int)) (hnh : ∀ x ∈ c.exceptionTable.toList, False) : ∀ (σ : CS) (x0 : Int), inR x0 → pc_X11_outs_0 rec bd σ x0 = some (σ', kd, r) → ∀ (H : Heap) (locs : List Loc) (cells slots : Nat) (ls : Array Slot), cw_W v s σ0 σ H locs cells slots → cl_has ls 1 [(0, cR x0)] → W p l e (cw_rm v (d + 1) σ0) s m args below meth c H locs cells slots (cw_Z below v σ0 σ' kd (some (.int (rI r))) args s) (F0 m 0 ls []) := by
  subst hbd
  obtain ⟨hx, hb, hr, hml, hown, hts, hlk, hK⟩ := id B
  intro σ x0 ix0 hf H locs cells slots ls hw hl
  unfold pc_X11_outs_0 at hf
  refine cl_aload_n hx hb dX11_outs_0 rfl (lv_at hl.1 0 rfl) ?_
  obtain ⟨z1, ez1, iz1, rz1, hf⟩ := cc_g_s hw hf
  refine cw_get (val := cR z1) B hw rz1 ⟨by decide, by decide⟩ (by decide) cwi_12 cfl_11_32 ez1 rfl dX11_outs_1 ?_
  obtain ⟨z2, ez2, iz2, rz2, hf⟩ := cc_g_s hw hf
  refine cw_get (val := .int (rI z2)) B hw rz2 ⟨by decide, by decide⟩ (by decide) cwi_5 cfl_11_96 ez2 rfl dX11_outs_4 ?_
  exact cw_reti B hf hw dX11_outs_7

set_option maxHeartbeats 4000000 in
set_option maxRecDepth 100000 in
theorem pm_X11_outs {v : cwE} {bd : Nat × Nat} {l : Launch} {d : Nat} {rec : Nat → CS → List Int → CO} (hbd : bd = (v.2.2.1, v.2.2.2.1)) (hR : cw_Rec l v d rec) (htr : l.stackTraces = false) (hd5 : 5 ≤ d) (σ σ' : CS) (x0 : Int) (kd : Nat) (r : Int) (ix0 : inR x0) (hf : pc_X11_outs_0 rec bd σ x0 = some (σ', kd, r)) : cw_Met l v yX11_outs cX11_outs 1 (some .int) (d + 1) [cR x0] σ σ' kd (some (.int (rI r))) := by
  refine cw_ofW (by decide +kernel) ?_
  intro p e s m args below meth c s₁ B hml hv
  obtain ⟨rfl, hM, hK⟩ := hv
  have hts := atoms_spec (ws := Cond.code yX11_outs cX11_outs 1 (some .int) :: cw_bw) B.pre
  have hB : cw_B v RX11 p s m _ meth c cX11_outs 1 (some .int) := ⟨B.exec, B.bytes, B.returns, hml, findClass_of_methodNamed B.named, fun w h => hts w (List.mem_cons_of_mem _ h), B.notSynchronized, hK⟩
  have hnh := cc_nh B (hts _ List.mem_cons_self)
  rw [lg_entry_eq]
  obtain ⟨ls, hls, hl⟩ := cl_ent [cR x0] 1 (cl_1r cl_10) (Nat.le_of_ble_eq_true rfl)
  rw [hls]
  exact pw_X11_outs_0 hbd hR htr hd5 hB hnh σ x0 ix0 hf _ _ _ _ _ (cw_W0 hM) (cl_sub hl [0] rfl)

set_option maxHeartbeats 4000000 in
set_option maxRecDepth 100000 in
theorem pw_X11_refuseBesideNames_0 {v : cwE} {bd : Nat × Nat} {p : Program} {l : Launch} {e : Env} {s : State} {m : MethodId} {args : Array Value} {below : List Frame} {meth : Method} {c : Code} {d : Nat} {rec : Nat → CS → List Int → CO} {σ0 σ' : CS} {kd : Nat} {r : Int} (hbd : bd = (v.2.2.1, v.2.2.2.1)) (hR : cw_Rec l v d rec) (htr : l.stackTraces = false) (hd5 : 5 ≤ d) (B : cw_B v RX11 p s m args meth c cX11_refuseBesideNames 2 none) (hnh : ∀ x ∈ c.exceptionTable.toList, False) : ∀ (σ : CS) (x0 x1 : Int), inR x0 → inR x1 → pc_X11_refuseBesideNames_0 rec bd σ x0 x1 = some (σ', kd, r) → ∀ (H : Heap) (locs : List Loc) (cells slots : Nat) (ls : Array Slot), cw_W v s σ0 σ H locs cells slots → cl_has ls 2 [(0, cR x0), (1, cR x1)] → W p l e (cw_rm v (d + 1) σ0) s m args below meth c H locs cells slots (cw_Z below v σ0 σ' kd none args s) (F0 m 0 ls []) := by
  subst hbd
  obtain ⟨hx, hb, hr, hml, hown, hts, hlk, hK⟩ := id B
  intro σ x0 x1 ix0 ix1 hf H locs cells slots ls hw hl
  unfold pc_X11_refuseBesideNames_0 at hf
  refine cl_aload_n hx hb dX11_refuseBesideNames_0 rfl (lv_at hl.1 0 rfl) ?_
  obtain ⟨z1, ez1, iz1, rz1, hf⟩ := cc_g_s hw hf
  refine cw_get (val := cR z1) B hw rz1 ⟨by decide, by decide⟩ (by decide) cwi_12 cfl_11_23 ez1 rfl dX11_refuseBesideNames_1 ?_
  obtain ⟨z2, ez2, iz2, rz2, hf⟩ := cc_g_s hw hf
  refine cw_get (val := cR z2) B hw rz2 ⟨by decide, by decide⟩ (by decide) cwi_1 cfl_11_84 ez2 rfl dX11_refuseBesideNames_4 ?_
  obtain ⟨z3, ez3, iz3, rz3, hf⟩ := cc_g_s hw hf
  refine cw_get (val := .int (rI z3)) B hw rz3 ⟨by decide, by decide⟩ (by decide) cwi_6 cfl_11_88 ez3 rfl dX11_refuseBesideNames_7 ?_
  refine rn_if_le (a := z3) (tgt := 34) hx hb iz3 dX11_refuseBesideNames_10 (by decide) (fun c4 => ?_) (fun c4 => ?_)
  · replace hf := cc_if_t hf c4
    exact cw_retv B hf hw dX11_refuseBesideNames_34
  · replace hf := cc_if_f hf c4
    refine cl_aload_n hx hb dX11_refuseBesideNames_13 rfl (lv_at hl.1 0 rfl) ?_
    obtain ⟨z5, ez5, iz5, rz5, hf⟩ := cc_g_s hw hf
    refine cw_get (val := cR z5) B hw rz5 ⟨by decide, by decide⟩ (by decide) cwi_12 cfl_11_16 ez5 rfl dX11_refuseBesideNames_14 ?_
    refine lv_bipush (v := rI 6) hx hb dX11_refuseBesideNames_17 (by decide +kernel) ?_
    refine cl_aload_n hx hb dX11_refuseBesideNames_19 rfl (lv_at hl.1 1 rfl) ?_
    obtain ⟨z6, ez6, iz6, rz6, hf⟩ := cc_g_s hw hf
    refine cw_get (val := .int (rI z6)) B hw rz6 ⟨by decide, by decide⟩ (by decide) cwi_10 cfl_11_206 ez6 rfl dX11_refuseBesideNames_20 ?_
    obtain ⟨qσ7, hf⟩ := cc_t_s hf
    obtain ⟨σ7, kv8, z9, hσ7, hf⟩ := cc_cl_s hf
    obtain ⟨iz9, mσ7⟩ := hR 95 σ [z5, 6, z6] σ7 kv8 z9 hσ7
    have mσ7 : cw_Met l v yX10_set cX10_set 3 none d [cR z5, .int (rI 6), .int (rI z6)] σ σ7 kv8 none := mσ7 iz5 ⟨by decide, by decide⟩ iz6
    refine cw_cv (b := z5) (t := 11) (n := 2) (rest := []) (As := [.int (rI 6), .int (rI z6)]) B mσ7 qσ7 ⟨by decide, by decide⟩ cgo_yX10_set cml_11_257 cin_yX10_set cse_yX10_set (by decide +kernel) (by decide) rfl hl.1.1 (Nat.le_of_ble_eq_true rfl) dX11_refuseBesideNames_23 rfl hw (fun h0 H locs cells slots hw => ?_) (fun h0 H locs cells slots q ce hw h1 h2 h3 => ?_)
    · rcases hf with ⟨-, hf⟩ | ⟨hk, -⟩
      · skip
        obtain ⟨hy, hm⟩ := cc_x_s hf
        obtain ⟨hy1, hy2⟩ := Prod.mk.inj hy
        obtain ⟨hy2, hy3⟩ := Prod.mk.inj hy2
        subst hy2
        refine cw_throw (rest := []) B hnh htr hw (by decide) (by decide +kernel) cxc_11_158 cxi_1 (cw_hat cxa_11_160 (by decide +kernel) hts hK.1) (List.all_eq_true.mp cxg_11_160) hd5 hm hy1 hl.1.1 (Nat.le_of_ble_eq_true rfl) dX11_refuseBesideNames_26 dX11_refuseBesideNames_29 dX11_refuseBesideNames_30 dX11_refuseBesideNames_33
      · exact absurd h0 hk
    · rcases hf with ⟨hk, -⟩ | ⟨-, hf⟩
      · exact absurd hk h0
      · cases hf
        exact cw_xout B hnh h0 hw h1 h2 h3

set_option maxHeartbeats 4000000 in
set_option maxRecDepth 100000 in
theorem pm_X11_refuseBesideNames {v : cwE} {bd : Nat × Nat} {l : Launch} {d : Nat} {rec : Nat → CS → List Int → CO} (hbd : bd = (v.2.2.1, v.2.2.2.1)) (hR : cw_Rec l v d rec) (htr : l.stackTraces = false) (hd5 : 5 ≤ d) (σ σ' : CS) (x0 x1 : Int) (kd : Nat) (r : Int) (ix0 : inR x0) (ix1 : inR x1) (hf : pc_X11_refuseBesideNames_0 rec bd σ x0 x1 = some (σ', kd, r)) : cw_Met l v yX11_refuseBesideNames cX11_refuseBesideNames 2 none (d + 1) [cR x0, cR x1] σ σ' kd none := by
  refine cw_ofW (by decide +kernel) ?_
  intro p e s m args below meth c s₁ B hml hv
  obtain ⟨rfl, hM, hK⟩ := hv
  have hts := atoms_spec (ws := Cond.code yX11_refuseBesideNames cX11_refuseBesideNames 2 none :: cw_bw) B.pre
  have hB : cw_B v RX11 p s m _ meth c cX11_refuseBesideNames 2 none := ⟨B.exec, B.bytes, B.returns, hml, findClass_of_methodNamed B.named, fun w h => hts w (List.mem_cons_of_mem _ h), B.notSynchronized, hK⟩
  have hnh := cc_nh B (hts _ List.mem_cons_self)
  rw [lg_entry_eq]
  obtain ⟨ls, hls, hl⟩ := cl_ent [cR x0, cR x1] 2 (cl_1r (cl_1r cl_10)) (Nat.le_of_ble_eq_true rfl)
  rw [hls]
  exact pw_X11_refuseBesideNames_0 hbd hR htr hd5 hB hnh σ x0 x1 ix0 ix1 hf _ _ _ _ _ (cw_W0 hM) (cl_sub hl [0, 1] rfl)

set_option maxHeartbeats 4000000 in
set_option maxRecDepth 100000 in
theorem pw_X11_rule_28 {v : cwE} {bd : Nat × Nat} {p : Program} {l : Launch} {e : Env} {s : State} {m : MethodId} {args : Array Value} {below : List Frame} {meth : Method} {c : Code} {d : Nat} {rec : Nat → CS → List Int → CO} {σ0 σ' : CS} {kd : Nat} {r : Int} (hbd : bd = (v.2.2.1, v.2.2.2.1)) (hR : cw_Rec l v d rec) (htr : l.stackTraces = false) (hd5 : 5 ≤ d) (B : cw_B v RX11 p s m args meth c cX11_rule 3 (some .int)) (hnh : ∀ x ∈ c.exceptionTable.toList, False) : ∀ (σ : CS), pc_X11_rule_28 rec bd σ = some (σ', kd, r) → ∀ (H : Heap) (locs : List Loc) (cells slots : Nat) (ls : Array Slot), cw_W v s σ0 σ H locs cells slots → cl_has ls 3 [] → W p l e (cw_rm v (d + 1) σ0) s m args below meth c H locs cells slots (cw_Z below v σ0 σ' kd (some (.int (rI r))) args s) (F0 m 28 ls []) := by
  subst hbd
  obtain ⟨hx, hb, hr, hml, hown, hts, hlk, hK⟩ := id B
  intro σ hf H locs cells slots ls hw hl
  unfold pc_X11_rule_28 at hf
  obtain ⟨hy, hm⟩ := cc_x_s hf
  obtain ⟨hy1, hy2⟩ := Prod.mk.inj hy
  obtain ⟨hy2, hy3⟩ := Prod.mk.inj hy2
  subst hy2
  refine cw_throw (rest := []) B hnh htr hw (by decide) (by decide +kernel) cxc_11_81 cxi_3 (cw_hat cxa_11_83 (by decide +kernel) hts hK.1) (List.all_eq_true.mp cxg_11_83) hd5 hm hy1 hl.1.1 (Nat.le_of_ble_eq_true rfl) dX11_rule_28 dX11_rule_31 dX11_rule_32 dX11_rule_35

set_option maxHeartbeats 4000000 in
set_option maxRecDepth 100000 in
theorem pw_X11_rule_0 {v : cwE} {bd : Nat × Nat} {p : Program} {l : Launch} {e : Env} {s : State} {m : MethodId} {args : Array Value} {below : List Frame} {meth : Method} {c : Code} {d : Nat} {rec : Nat → CS → List Int → CO} {σ0 σ' : CS} {kd : Nat} {r : Int} (hbd : bd = (v.2.2.1, v.2.2.2.1)) (hR : cw_Rec l v d rec) (htr : l.stackTraces = false) (hd5 : 5 ≤ d) (B : cw_B v RX11 p s m args meth c cX11_rule 3 (some .int)) (hnh : ∀ x ∈ c.exceptionTable.toList, False) : ∀ (σ : CS) (x0 x1 x2 : Int), inR x0 → inR x1 → inR x2 → pc_X11_rule_0 rec bd σ x0 x1 x2 = some (σ', kd, r) → ∀ (H : Heap) (locs : List Loc) (cells slots : Nat) (ls : Array Slot), cw_W v s σ0 σ H locs cells slots → cl_has ls 3 [(0, cR x0), (1, .int (rI x1)), (2, .int (rI x2))] → W p l e (cw_rm v (d + 1) σ0) s m args below meth c H locs cells slots (cw_Z below v σ0 σ' kd (some (.int (rI r))) args s) (F0 m 0 ls []) := by
  subst hbd
  obtain ⟨hx, hb, hr, hml, hown, hts, hlk, hK⟩ := id B
  intro σ x0 x1 x2 ix0 ix1 ix2 hf H locs cells slots ls hw hl
  unfold pc_X11_rule_0 at hf
  refine cl_aload_n hx hb dX11_rule_0 rfl (lv_at hl.1 0 rfl) ?_
  obtain ⟨z1, ez1, iz1, rz1, hf⟩ := cc_g_s hw hf
  refine cw_get (val := cR z1) B hw rz1 ⟨by decide, by decide⟩ (by decide) cwi_12 cfl_11_23 ez1 rfl dX11_rule_1 ?_
  obtain ⟨z2, ez2, iz2, rz2, hf⟩ := cc_g_s hw hf
  refine cw_get (val := cR z2) B hw rz2 ⟨by decide, by decide⟩ (by decide) cwi_1 cfl_11_109 ez2 rfl dX11_rule_4 ?_
  refine lv_iload_n hx hb dX11_rule_7 rfl (lv_at hl.1 1 rfl) ?_
  obtain ⟨qσ3, hf⟩ := cc_t_s hf
  obtain ⟨σ3, kv4, z5, hσ3, hf⟩ := cc_cl_s hf
  obtain ⟨iz5, mσ3⟩ := hR 55 σ [z2, x1] σ3 kv4 z5 hσ3
  have mσ3 : cw_Met l v yX5_has cX5_has 2 (some .boolean) d [cR z2, .int (rI x1)] σ σ3 kv4 (some (.int (rI z5))) := mσ3 iz2 ix1
  refine cw_cv (b := z2) (t := 6) (n := 1) (rest := []) (As := [.int (rI x1)]) B mσ3 qσ3 ⟨by decide, by decide⟩ cgo_yX5_has cml_11_121 cin_yX5_has cse_yX5_has (by decide +kernel) (by decide) rfl hl.1.1 (Nat.le_of_ble_eq_true rfl) dX11_rule_8 rfl hw (fun h0 H locs cells slots hw => ?_) (fun h0 H locs cells slots q ce hw h1 h2 h3 => ?_)
  · rcases hf with ⟨-, hf⟩ | ⟨hk, -⟩
    · skip
      refine rn_if_eq (a := z5) (tgt := 28) hx hb iz5 dX11_rule_11 (by decide) (fun c6 => ?_) (fun c6 => ?_)
      · replace hf := cc_if_t hf c6
        exact pw_X11_rule_28 rfl hR htr hd5 B hnh σ3 hf _ _ _ _ _ hw (cl_sub hl [] rfl)
      · replace hf := cc_if_f hf c6
        refine cl_aload_n hx hb dX11_rule_14 rfl (lv_at hl.1 0 rfl) ?_
        obtain ⟨z7, ez7, iz7, rz7, hf⟩ := cc_g_s hw hf
        refine cw_get (val := cR z7) B hw rz7 ⟨by decide, by decide⟩ (by decide) cwi_12 cfl_11_23 ez7 rfl dX11_rule_15 ?_
        obtain ⟨z8, ez8, iz8, rz8, hf⟩ := cc_g_s hw hf
        refine cw_get (val := cR z8) B hw rz8 ⟨by decide, by decide⟩ (by decide) cwi_1 cfl_11_109 ez8 rfl dX11_rule_18 ?_
        refine lv_iload_n hx hb dX11_rule_21 rfl (lv_at hl.1 2 rfl) ?_
        obtain ⟨qσ9, hf⟩ := cc_t_s hf
        obtain ⟨σ9, kv10, z11, hσ9, hf⟩ := cc_cl_s hf
        obtain ⟨iz11, mσ9⟩ := hR 55 σ3 [z8, x2] σ9 kv10 z11 hσ9
        have mσ9 : cw_Met l v yX5_has cX5_has 2 (some .boolean) d [cR z8, .int (rI x2)] σ3 σ9 kv10 (some (.int (rI z11))) := mσ9 iz8 ix2
        refine cw_cv (b := z8) (t := 6) (n := 1) (rest := []) (As := [.int (rI x2)]) B mσ9 qσ9 ⟨by decide, by decide⟩ cgo_yX5_has cml_11_121 cin_yX5_has cse_yX5_has (by decide +kernel) (by decide) rfl hl.1.1 (Nat.le_of_ble_eq_true rfl) dX11_rule_22 rfl hw (fun h0 H locs cells slots hw => ?_) (fun h0 H locs cells slots q ce hw h1 h2 h3 => ?_)
        · rcases hf with ⟨-, hf⟩ | ⟨hk, -⟩
          · skip
            refine rn_if_ne (a := z11) (tgt := 36) hx hb iz11 dX11_rule_25 (by decide) (fun c12 => ?_) (fun c12 => ?_)
            · replace hf := cc_if_t hf c12
              refine cl_aload_n hx hb dX11_rule_36 rfl (lv_at hl.1 0 rfl) ?_
              obtain ⟨z13, ez13, iz13, rz13, hf⟩ := cc_g_s hw hf
              refine cw_get (val := cR z13) B hw rz13 ⟨by decide, by decide⟩ (by decide) cwi_12 cfl_11_23 ez13 rfl dX11_rule_37 ?_
              refine lv_iload_n hx hb dX11_rule_40 rfl (lv_at hl.1 1 rfl) ?_
              refine lv_iload_n hx hb dX11_rule_41 rfl (lv_at hl.1 2 rfl) ?_
              obtain ⟨qσ14, hf⟩ := cc_t_s hf
              obtain ⟨σ14, kv15, z16, hσ14, hf⟩ := cc_cl_s hf
              obtain ⟨iz16, mσ14⟩ := hR 5 σ9 [z13, x1, x2] σ14 kv15 z16 hσ14
              have mσ14 : cw_Met l v yX0_ruleOf cX0_ruleOf 3 (some .int) d [cR z13, .int (rI x1), .int (rI x2)] σ9 σ14 kv15 (some (.int (rI z16))) := mσ14 iz13 ix1 ix2
              refine cw_cv (b := z13) (t := 1) (n := 2) (rest := []) (As := [.int (rI x1), .int (rI x2)]) B mσ14 qσ14 ⟨by decide, by decide⟩ cgo_yX0_ruleOf cml_11_142 cin_yX0_ruleOf cse_yX0_ruleOf (by decide +kernel) (by decide) rfl hl.1.1 (Nat.le_of_ble_eq_true rfl) dX11_rule_42 rfl hw (fun h0 H locs cells slots hw => ?_) (fun h0 H locs cells slots q ce hw h1 h2 h3 => ?_)
              · rcases hf with ⟨-, hf⟩ | ⟨hk, -⟩
                · skip
                  exact cw_reti B hf hw dX11_rule_45
                · exact absurd h0 hk
              · rcases hf with ⟨hk, -⟩ | ⟨-, hf⟩
                · exact absurd hk h0
                · cases hf
                  exact cw_xout B hnh h0 hw h1 h2 h3
            · replace hf := cc_if_f hf c12
              exact pw_X11_rule_28 rfl hR htr hd5 B hnh σ9 hf _ _ _ _ _ hw (cl_sub hl [] rfl)
          · exact absurd h0 hk
        · rcases hf with ⟨hk, -⟩ | ⟨-, hf⟩
          · exact absurd hk h0
          · cases hf
            exact cw_xout B hnh h0 hw h1 h2 h3
    · exact absurd h0 hk
  · rcases hf with ⟨hk, -⟩ | ⟨-, hf⟩
    · exact absurd hk h0
    · cases hf
      exact cw_xout B hnh h0 hw h1 h2 h3

set_option maxHeartbeats 4000000 in
set_option maxRecDepth 100000 in
theorem pm_X11_rule {v : cwE} {bd : Nat × Nat} {l : Launch} {d : Nat} {rec : Nat → CS → List Int → CO} (hbd : bd = (v.2.2.1, v.2.2.2.1)) (hR : cw_Rec l v d rec) (htr : l.stackTraces = false) (hd5 : 5 ≤ d) (σ σ' : CS) (x0 x1 x2 : Int) (kd : Nat) (r : Int) (ix0 : inR x0) (ix1 : inR x1) (ix2 : inR x2) (hf : pc_X11_rule_0 rec bd σ x0 x1 x2 = some (σ', kd, r)) : cw_Met l v yX11_rule cX11_rule 3 (some .int) (d + 1) [cR x0, .int (rI x1), .int (rI x2)] σ σ' kd (some (.int (rI r))) := by
  refine cw_ofW (by decide +kernel) ?_
  intro p e s m args below meth c s₁ B hml hv
  obtain ⟨rfl, hM, hK⟩ := hv
  have hts := atoms_spec (ws := Cond.code yX11_rule cX11_rule 3 (some .int) :: cw_bw) B.pre
  have hB : cw_B v RX11 p s m _ meth c cX11_rule 3 (some .int) := ⟨B.exec, B.bytes, B.returns, hml, findClass_of_methodNamed B.named, fun w h => hts w (List.mem_cons_of_mem _ h), B.notSynchronized, hK⟩
  have hnh := cc_nh B (hts _ List.mem_cons_self)
  rw [lg_entry_eq]
  obtain ⟨ls, hls, hl⟩ := cl_ent [cR x0, .int (rI x1), .int (rI x2)] 3 (cl_1r (cl_1i (cl_1i cl_10))) (Nat.le_of_ble_eq_true rfl)
  rw [hls]
  exact pw_X11_rule_0 hbd hR htr hd5 hB hnh σ x0 x1 x2 ix0 ix1 ix2 hf _ _ _ _ _ (cw_W0 hM) (cl_sub hl [0, 1, 2] rfl)

set_option maxHeartbeats 4000000 in
set_option maxRecDepth 100000 in
theorem pw_X11_sort_18 {v : cwE} {bd : Nat × Nat} {p : Program} {l : Launch} {e : Env} {s : State} {m : MethodId} {args : Array Value} {below : List Frame} {meth : Method} {c : Code} {d : Nat} {rec : Nat → CS → List Int → CO} {σ0 σ' : CS} {kd : Nat} {r : Int} (hbd : bd = (v.2.2.1, v.2.2.2.1)) (hR : cw_Rec l v d rec) (htr : l.stackTraces = false) (hd5 : 5 ≤ d) (B : cw_B v RX11 p s m args meth c cX11_sort 3 (some .int)) (hnh : ∀ x ∈ c.exceptionTable.toList, False) : ∀ (σ : CS), pc_X11_sort_18 rec bd σ = some (σ', kd, r) → ∀ (H : Heap) (locs : List Loc) (cells slots : Nat) (ls : Array Slot), cw_W v s σ0 σ H locs cells slots → cl_has ls 3 [] → W p l e (cw_rm v (d + 1) σ0) s m args below meth c H locs cells slots (cw_Z below v σ0 σ' kd (some (.int (rI r))) args s) (F0 m 18 ls []) := by
  subst hbd
  obtain ⟨hx, hb, hr, hml, hown, hts, hlk, hK⟩ := id B
  intro σ hf H locs cells slots ls hw hl
  unfold pc_X11_sort_18 at hf
  obtain ⟨hy, hm⟩ := cc_x_s hf
  obtain ⟨hy1, hy2⟩ := Prod.mk.inj hy
  obtain ⟨hy2, hy3⟩ := Prod.mk.inj hy2
  subst hy2
  refine cw_throw (rest := []) B hnh htr hw (by decide) (by decide +kernel) cxc_11_81 cxi_3 (cw_hat cxa_11_83 (by decide +kernel) hts hK.1) (List.all_eq_true.mp cxg_11_83) hd5 hm hy1 hl.1.1 (Nat.le_of_ble_eq_true rfl) dX11_sort_18 dX11_sort_21 dX11_sort_22 dX11_sort_25

set_option maxHeartbeats 4000000 in
set_option maxRecDepth 100000 in
theorem pw_X11_sort_0 {v : cwE} {bd : Nat × Nat} {p : Program} {l : Launch} {e : Env} {s : State} {m : MethodId} {args : Array Value} {below : List Frame} {meth : Method} {c : Code} {d : Nat} {rec : Nat → CS → List Int → CO} {σ0 σ' : CS} {kd : Nat} {r : Int} (hbd : bd = (v.2.2.1, v.2.2.2.1)) (hR : cw_Rec l v d rec) (htr : l.stackTraces = false) (hd5 : 5 ≤ d) (B : cw_B v RX11 p s m args meth c cX11_sort 3 (some .int)) (hnh : ∀ x ∈ c.exceptionTable.toList, False) : ∀ (σ : CS) (x0 x1 x2 : Int), inR x0 → inR x1 → inR x2 → pc_X11_sort_0 rec bd σ x0 x1 x2 = some (σ', kd, r) → ∀ (H : Heap) (locs : List Loc) (cells slots : Nat) (ls : Array Slot), cw_W v s σ0 σ H locs cells slots → cl_has ls 3 [(0, cR x0), (1, .int (rI x1)), (2, .int (rI x2))] → W p l e (cw_rm v (d + 1) σ0) s m args below meth c H locs cells slots (cw_Z below v σ0 σ' kd (some (.int (rI r))) args s) (F0 m 0 ls []) := by
  subst hbd
  obtain ⟨hx, hb, hr, hml, hown, hts, hlk, hK⟩ := id B
  intro σ x0 x1 x2 ix0 ix1 ix2 hf H locs cells slots ls hw hl
  unfold pc_X11_sort_0 at hf
  refine cl_aload_n hx hb dX11_sort_0 rfl (lv_at hl.1 0 rfl) ?_
  obtain ⟨z1, ez1, iz1, rz1, hf⟩ := cc_g_s hw hf
  refine cw_get (val := cR z1) B hw rz1 ⟨by decide, by decide⟩ (by decide) cwi_12 cfl_11_23 ez1 rfl dX11_sort_1 ?_
  obtain ⟨z2, ez2, iz2, rz2, hf⟩ := cc_g_s hw hf
  refine cw_get (val := cR z2) B hw rz2 ⟨by decide, by decide⟩ (by decide) cwi_1 cfl_11_109 ez2 rfl dX11_sort_4 ?_
  refine lv_iload_n hx hb dX11_sort_7 rfl (lv_at hl.1 1 rfl) ?_
  obtain ⟨qσ3, hf⟩ := cc_t_s hf
  obtain ⟨σ3, kv4, z5, hσ3, hf⟩ := cc_cl_s hf
  obtain ⟨iz5, mσ3⟩ := hR 55 σ [z2, x1] σ3 kv4 z5 hσ3
  have mσ3 : cw_Met l v yX5_has cX5_has 2 (some .boolean) d [cR z2, .int (rI x1)] σ σ3 kv4 (some (.int (rI z5))) := mσ3 iz2 ix1
  refine cw_cv (b := z2) (t := 6) (n := 1) (rest := []) (As := [.int (rI x1)]) B mσ3 qσ3 ⟨by decide, by decide⟩ cgo_yX5_has cml_11_121 cin_yX5_has cse_yX5_has (by decide +kernel) (by decide) rfl hl.1.1 (Nat.le_of_ble_eq_true rfl) dX11_sort_8 rfl hw (fun h0 H locs cells slots hw => ?_) (fun h0 H locs cells slots q ce hw h1 h2 h3 => ?_)
  · rcases hf with ⟨-, hf⟩ | ⟨hk, -⟩
    · skip
      refine rn_if_eq (a := z5) (tgt := 18) hx hb iz5 dX11_sort_11 (by decide) (fun c6 => ?_) (fun c6 => ?_)
      · replace hf := cc_if_t hf c6
        exact pw_X11_sort_18 rfl hR htr hd5 B hnh σ3 hf _ _ _ _ _ hw (cl_sub hl [] rfl)
      · replace hf := cc_if_f hf c6
        refine lv_iload_n hx hb dX11_sort_14 rfl (lv_at hl.1 2 rfl) ?_
        refine rn_if_ge (a := x2) (tgt := 26) hx hb ix2 dX11_sort_15 (by decide) (fun c7 => ?_) (fun c7 => ?_)
        · replace hf := cc_if_t hf c7
          refine lv_iload_n hx hb dX11_sort_26 rfl (lv_at hl.1 2 rfl) ?_
          by_cases c8 : x2 = 0
          · replace hf := cc_if_t hf c8
            refine rn_look (tgt := 52) hx hb ix2 dX11_sort_27 (by decide) (lk_eq c8) (by decide) ?_
            refine cl_aload_n hx hb dX11_sort_52 rfl (lv_at hl.1 0 rfl) ?_
            obtain ⟨z9, ez9, iz9, rz9, hf⟩ := cc_g_s hw hf
            refine cw_get (val := cR z9) B hw rz9 ⟨by decide, by decide⟩ (by decide) cwi_12 cfl_11_23 ez9 rfl dX11_sort_53 ?_
            refine lv_iload_n hx hb dX11_sort_56 rfl (lv_at hl.1 1 rfl) ?_
            obtain ⟨qσ10, hf⟩ := cc_t_s hf
            obtain ⟨σ10, kv11, z12, hσ10, hf⟩ := cc_cl_s hf
            obtain ⟨iz12, mσ10⟩ := hR 1 σ3 [z9, x1] σ10 kv11 z12 hσ10
            have mσ10 : cw_Met l v yX0_axiomOf cX0_axiomOf 2 (some .int) d [cR z9, .int (rI x1)] σ3 σ10 kv11 (some (.int (rI z12))) := mσ10 iz9 ix1
            refine cw_cv (b := z9) (t := 1) (n := 1) (rest := []) (As := [.int (rI x1)]) B mσ10 qσ10 ⟨by decide, by decide⟩ cgo_yX0_axiomOf cml_11_139 cin_yX0_axiomOf cse_yX0_axiomOf (by decide +kernel) (by decide) rfl hl.1.1 (Nat.le_of_ble_eq_true rfl) dX11_sort_57 rfl hw (fun h0 H locs cells slots hw => ?_) (fun h0 H locs cells slots q ce hw h1 h2 h3 => ?_)
            · rcases hf with ⟨-, hf⟩ | ⟨hk, -⟩
              · skip
                exact cw_reti B hf hw dX11_sort_60
              · exact absurd h0 hk
            · rcases hf with ⟨hk, -⟩ | ⟨-, hf⟩
              · exact absurd hk h0
              · cases hf
                exact cw_xout B hnh h0 hw h1 h2 h3
          · replace hf := cc_if_f hf c8
            by_cases c13 : x2 = 1
            · replace hf := cc_if_t hf c13
              refine rn_look (tgt := 61) hx hb ix2 dX11_sort_27 (by decide) (lk_ne c8 (lk_eq c13)) (by decide) ?_
              refine cl_aload_n hx hb dX11_sort_61 rfl (lv_at hl.1 0 rfl) ?_
              obtain ⟨z14, ez14, iz14, rz14, hf⟩ := cc_g_s hw hf
              refine cw_get (val := cR z14) B hw rz14 ⟨by decide, by decide⟩ (by decide) cwi_12 cfl_11_23 ez14 rfl dX11_sort_62 ?_
              obtain ⟨z15, ez15, iz15, rz15, hf⟩ := cc_g_s hw hf
              refine cw_get (val := cR z15) B hw rz15 ⟨by decide, by decide⟩ (by decide) cwi_1 cfl_11_109 ez15 rfl dX11_sort_65 ?_
              obtain ⟨z16, ez16, iz16, rz16, hf⟩ := cc_g_s hw hf
              refine cw_get (val := cR z16) B hw rz16 ⟨by decide, by decide⟩ (by decide) cwi_6 cfl_11_132 ez16 rfl dX11_sort_68 ?_
              refine lv_iload_n hx hb dX11_sort_71 rfl (lv_at hl.1 1 rfl) ?_
              obtain ⟨z17, ez17, iz17, rz17, bz17, hf⟩ := cc_r_s hw hf
              refine cw_aldI B hw rz17 ix1 bz17 ez17 dX11_sort_72 ?_
              exact cw_reti B hf hw dX11_sort_73
            · replace hf := cc_if_f hf c13
              refine rn_look (tgt := 74) hx hb ix2 dX11_sort_27 (by decide) (lk_ne c8 (lk_ne c13 lk_nil)) (by decide) ?_
              refine cl_aload_n hx hb dX11_sort_74 rfl (lv_at hl.1 0 rfl) ?_
              obtain ⟨z18, ez18, iz18, rz18, hf⟩ := cc_g_s hw hf
              refine cw_get (val := cR z18) B hw rz18 ⟨by decide, by decide⟩ (by decide) cwi_12 cfl_11_23 ez18 rfl dX11_sort_75 ?_
              obtain ⟨z19, ez19, iz19, rz19, hf⟩ := cc_g_s hw hf
              refine cw_get (val := cR z19) B hw rz19 ⟨by decide, by decide⟩ (by decide) cwi_1 cfl_11_109 ez19 rfl dX11_sort_78 ?_
              refine lv_iload_n hx hb dX11_sort_81 rfl (lv_at hl.1 1 rfl) ?_
              refine lv_iload_n hx hb dX11_sort_82 rfl (lv_at hl.1 2 rfl) ?_
              refine lv_iconst (v := rI 2) hx hb dX11_sort_83 rfl ?_
              obtain ⟨z20, ez20, iz20, hf⟩ := cc_ck_s hf
              refine rn_sub hx hb ez20 dX11_sort_84 ?_
              obtain ⟨qσ21, hf⟩ := cc_t_s hf
              obtain ⟨σ21, kv22, z23, hσ21, hf⟩ := cc_cl_s hf
              obtain ⟨iz23, mσ21⟩ := hR 58 σ3 [z19, x1, z20] σ21 kv22 z23 hσ21
              have mσ21 : cw_Met l v yX5_signOf cX5_signOf 3 (some .int) d [cR z19, .int (rI x1), .int (rI z20)] σ3 σ21 kv22 (some (.int (rI z23))) := mσ21 iz19 ix1 iz20
              refine cw_cv (b := z19) (t := 6) (n := 2) (rest := []) (As := [.int (rI x1), .int (rI z20)]) B mσ21 qσ21 ⟨by decide, by decide⟩ cgo_yX5_signOf cml_11_135 cin_yX5_signOf cse_yX5_signOf (by decide +kernel) (by decide) rfl hl.1.1 (Nat.le_of_ble_eq_true rfl) dX11_sort_85 rfl hw (fun h0 H locs cells slots hw => ?_) (fun h0 H locs cells slots q ce hw h1 h2 h3 => ?_)
              · rcases hf with ⟨-, hf⟩ | ⟨hk, -⟩
                · skip
                  exact cw_reti B hf hw dX11_sort_88
                · exact absurd h0 hk
              · rcases hf with ⟨hk, -⟩ | ⟨-, hf⟩
                · exact absurd hk h0
                · cases hf
                  exact cw_xout B hnh h0 hw h1 h2 h3
        · replace hf := cc_if_f hf c7
          exact pw_X11_sort_18 rfl hR htr hd5 B hnh σ3 hf _ _ _ _ _ hw (cl_sub hl [] rfl)
    · exact absurd h0 hk
  · rcases hf with ⟨hk, -⟩ | ⟨-, hf⟩
    · exact absurd hk h0
    · cases hf
      exact cw_xout B hnh h0 hw h1 h2 h3

set_option maxHeartbeats 4000000 in
set_option maxRecDepth 100000 in
theorem pm_X11_sort {v : cwE} {bd : Nat × Nat} {l : Launch} {d : Nat} {rec : Nat → CS → List Int → CO} (hbd : bd = (v.2.2.1, v.2.2.2.1)) (hR : cw_Rec l v d rec) (htr : l.stackTraces = false) (hd5 : 5 ≤ d) (σ σ' : CS) (x0 x1 x2 : Int) (kd : Nat) (r : Int) (ix0 : inR x0) (ix1 : inR x1) (ix2 : inR x2) (hf : pc_X11_sort_0 rec bd σ x0 x1 x2 = some (σ', kd, r)) : cw_Met l v yX11_sort cX11_sort 3 (some .int) (d + 1) [cR x0, .int (rI x1), .int (rI x2)] σ σ' kd (some (.int (rI r))) := by
  refine cw_ofW (by decide +kernel) ?_
  intro p e s m args below meth c s₁ B hml hv
  obtain ⟨rfl, hM, hK⟩ := hv
  have hts := atoms_spec (ws := Cond.code yX11_sort cX11_sort 3 (some .int) :: cw_bw) B.pre
  have hB : cw_B v RX11 p s m _ meth c cX11_sort 3 (some .int) := ⟨B.exec, B.bytes, B.returns, hml, findClass_of_methodNamed B.named, fun w h => hts w (List.mem_cons_of_mem _ h), B.notSynchronized, hK⟩
  have hnh := cc_nh B (hts _ List.mem_cons_self)
  rw [lg_entry_eq]
  obtain ⟨ls, hls, hl⟩ := cl_ent [cR x0, .int (rI x1), .int (rI x2)] 3 (cl_1r (cl_1i (cl_1i cl_10))) (Nat.le_of_ble_eq_true rfl)
  rw [hls]
  exact pw_X11_sort_0 hbd hR htr hd5 hB hnh σ x0 x1 x2 ix0 ix1 ix2 hf _ _ _ _ _ (cw_W0 hM) (cl_sub hl [0, 1, 2] rfl)

set_option maxHeartbeats 4000000 in
set_option maxRecDepth 100000 in
theorem pw_X11_sortNumber_0 {v : cwE} {bd : Nat × Nat} {p : Program} {l : Launch} {e : Env} {s : State} {m : MethodId} {args : Array Value} {below : List Frame} {meth : Method} {c : Code} {d : Nat} {rec : Nat → CS → List Int → CO} {σ0 σ' : CS} {kd : Nat} {r : Int} (hbd : bd = (v.2.2.1, v.2.2.2.1)) (hR : cw_Rec l v d rec) (htr : l.stackTraces = false) (hd5 : 5 ≤ d) (B : cw_B v RX11 p s m args meth c cX11_sortNumber 2 (some .int)) (hnh : ∀ x ∈ c.exceptionTable.toList, False) : ∀ (σ : CS) (x0 x1 : Int), inR x0 → inR x1 → pc_X11_sortNumber_0 rec bd σ x0 x1 = some (σ', kd, r) → ∀ (H : Heap) (locs : List Loc) (cells slots : Nat) (ls : Array Slot), cw_W v s σ0 σ H locs cells slots → cl_has ls 2 [(0, cR x0), (1, cR x1)] → W p l e (cw_rm v (d + 1) σ0) s m args below meth c H locs cells slots (cw_Z below v σ0 σ' kd (some (.int (rI r))) args s) (F0 m 0 ls []) := by
  subst hbd
  obtain ⟨hx, hb, hr, hml, hown, hts, hlk, hK⟩ := id B
  intro σ x0 x1 ix0 ix1 hf H locs cells slots ls hw hl
  unfold pc_X11_sortNumber_0 at hf
  refine cl_aload_n hx hb dX11_sortNumber_0 rfl (lv_at hl.1 0 rfl) ?_
  obtain ⟨z1, ez1, iz1, rz1, hf⟩ := cc_g_s hw hf
  refine cw_get (val := cR z1) B hw rz1 ⟨by decide, by decide⟩ (by decide) cwi_12 cfl_11_23 ez1 rfl dX11_sortNumber_1 ?_
  obtain ⟨z2, ez2, iz2, rz2, hf⟩ := cc_g_s hw hf
  refine cw_get (val := cR z2) B hw rz2 ⟨by decide, by decide⟩ (by decide) cwi_1 cfl_11_109 ez2 rfl dX11_sortNumber_4 ?_
  refine cl_aload_n hx hb dX11_sortNumber_7 rfl (lv_at hl.1 0 rfl) ?_
  obtain ⟨z3, ez3, iz3, rz3, hf⟩ := cc_g_s hw hf
  refine cw_get (val := cR z3) B hw rz3 ⟨by decide, by decide⟩ (by decide) cwi_12 cfl_11_9 ez3 rfl dX11_sortNumber_8 ?_
  refine cl_aload_n hx hb dX11_sortNumber_11 rfl (lv_at hl.1 1 rfl) ?_
  obtain ⟨z4, ez4, iz4, rz4, hf⟩ := cc_g_s hw hf
  refine cw_get (val := .int (rI z4)) B hw rz4 ⟨by decide, by decide⟩ (by decide) cwi_7 cfl_11_265 ez4 rfl dX11_sortNumber_12 ?_
  refine cl_aload_n hx hb dX11_sortNumber_15 rfl (lv_at hl.1 1 rfl) ?_
  obtain ⟨z5, ez5, iz5, rz5, hf⟩ := cc_g_s hw hf
  refine cw_get (val := .int (rI z5)) B hw rz5 ⟨by decide, by decide⟩ (by decide) cwi_7 cfl_11_268 ez5 rfl dX11_sortNumber_16 ?_
  obtain ⟨qσ6, hf⟩ := cc_t_s hf
  obtain ⟨σ6, kv7, z8, hσ6, hf⟩ := cc_cl_s hf
  obtain ⟨iz8, mσ6⟩ := hR 54 σ [z2, z3, z4, z5] σ6 kv7 z8 hσ6
  have mσ6 : cw_Met l v yX5_find cX5_find 5 (some .int) d [cR z2, cR z3, .int (rI z4), .int (rI z5)] σ σ6 kv7 (some (.int (rI z8))) := mσ6 iz2 iz3 iz4 iz5
  refine cw_cv (b := z2) (t := 6) (n := 3) (rest := []) (As := [cR z3, .int (rI z4), .int (rI z5)]) B mσ6 qσ6 ⟨by decide, by decide⟩ cgo_yX5_find cml_11_288 cin_yX5_find cse_yX5_find (by decide +kernel) (by decide) rfl hl.1.1 (Nat.le_of_ble_eq_true rfl) dX11_sortNumber_19 rfl hw (fun h0 H locs cells slots hw => ?_) (fun h0 H locs cells slots q ce hw h1 h2 h3 => ?_)
  · rcases hf with ⟨-, hf⟩ | ⟨hk, -⟩
    · skip
      exact cw_reti B hf hw dX11_sortNumber_22
    · exact absurd h0 hk
  · rcases hf with ⟨hk, -⟩ | ⟨-, hf⟩
    · exact absurd hk h0
    · cases hf
      exact cw_xout B hnh h0 hw h1 h2 h3

set_option maxHeartbeats 4000000 in
set_option maxRecDepth 100000 in
theorem pm_X11_sortNumber {v : cwE} {bd : Nat × Nat} {l : Launch} {d : Nat} {rec : Nat → CS → List Int → CO} (hbd : bd = (v.2.2.1, v.2.2.2.1)) (hR : cw_Rec l v d rec) (htr : l.stackTraces = false) (hd5 : 5 ≤ d) (σ σ' : CS) (x0 x1 : Int) (kd : Nat) (r : Int) (ix0 : inR x0) (ix1 : inR x1) (hf : pc_X11_sortNumber_0 rec bd σ x0 x1 = some (σ', kd, r)) : cw_Met l v yX11_sortNumber cX11_sortNumber 2 (some .int) (d + 1) [cR x0, cR x1] σ σ' kd (some (.int (rI r))) := by
  refine cw_ofW (by decide +kernel) ?_
  intro p e s m args below meth c s₁ B hml hv
  obtain ⟨rfl, hM, hK⟩ := hv
  have hts := atoms_spec (ws := Cond.code yX11_sortNumber cX11_sortNumber 2 (some .int) :: cw_bw) B.pre
  have hB : cw_B v RX11 p s m _ meth c cX11_sortNumber 2 (some .int) := ⟨B.exec, B.bytes, B.returns, hml, findClass_of_methodNamed B.named, fun w h => hts w (List.mem_cons_of_mem _ h), B.notSynchronized, hK⟩
  have hnh := cc_nh B (hts _ List.mem_cons_self)
  rw [lg_entry_eq]
  obtain ⟨ls, hls, hl⟩ := cl_ent [cR x0, cR x1] 2 (cl_1r (cl_1r cl_10)) (Nat.le_of_ble_eq_true rfl)
  rw [hls]
  exact pw_X11_sortNumber_0 hbd hR htr hd5 hB hnh σ x0 x1 ix0 ix1 hf _ _ _ _ _ (cw_W0 hM) (cl_sub hl [0, 1] rfl)

