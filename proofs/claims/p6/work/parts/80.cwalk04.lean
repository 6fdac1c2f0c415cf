set_option maxHeartbeats 4000000 in
set_option maxRecDepth 100000 in
theorem pw_X4_tell_58 {v : cwE} {bd : Nat × Nat} {p : Program} {l : Launch} {e : Env} {s : State} {m : MethodId} {args : Array Value} {below : List Frame} {meth : Method} {c : Code} {d : Nat} {rec : Nat → CS → List Int → CO} {σ0 σ' : CS} {kd : Nat} {r : Int} (hbd : bd = (v.2.2.1, v.2.2.2.1)) (hR : cw_Rec l v d rec) (htr : l.stackTraces = false) (hd5 : 5 ≤ d) (B : cw_B v RX4 p s m args meth c cX4_tell 10 none) (hnh : ∀ x ∈ c.exceptionTable.toList, False) : ∀ (σ : CS) (x0 x3 x4 x6 x7 t0 : Int), inR x0 → inR x3 → inR x4 → inR x6 → inR x7 → inR t0 → pc_X4_tell_58 rec bd σ x0 x3 x4 x6 x7 t0 = some (σ', kd, r) → ∀ (H : Heap) (locs : List Loc) (cells slots : Nat) (ls : Array Slot), cw_W v s σ0 σ H locs cells slots → cl_has ls 10 [(0, cR x0), (3, .int (rI x3)), (4, .int (rI x4)), (6, cR x6), (7, .int (rI x7))] → W p l e (cw_rm v (d + 1) σ0) s m args below meth c H locs cells slots (cw_Z below v σ0 σ' kd none args s) (F0 m 58 ls [.int (rI t0)]) := by
  subst hbd
  obtain ⟨hx, hb, hr, hml, hown, hts, hlk, hK⟩ := id B
  intro σ x0 x3 x4 x6 x7 t0 ix0 ix3 ix4 ix6 ix7 it0 hf H locs cells slots ls hw hl
  unfold pc_X4_tell_58 at hf
  refine cl_istore (lv' := [(8, .int (rI t0)), (0, cR x0), (3, .int (rI x3)), (4, .int (rI x4)), (6, cR x6), (7, .int (rI x7))]) hx hb dX4_tell_58 hl (by decide) rfl (fun ls hl => ?_)
  refine lv_iload hx hb dX4_tell_60 (lv_at hl.1 0 rfl) ?_
  refine rn_if_eq (a := t0) (tgt := 71) hx hb it0 dX4_tell_62 (by decide) (fun c1 => ?_) (fun c1 => ?_)
  · replace hf := cc_if_t hf c1
    exact pw_X4_tell_71 rfl hR htr hd5 B hnh σ x0 x3 x4 x6 x7 t0 ix0 ix3 ix4 ix6 ix7 it0 hf _ _ _ _ _ hw (cl_sub hl [1, 2, 3, 4, 5, 0] rfl)
  · replace hf := cc_if_f hf c1
    refine cl_aload_n hx hb dX4_tell_65 rfl (lv_at hl.1 1 rfl) ?_
    refine lv_bipush (v := rI 40) hx hb dX4_tell_66 (by decide +kernel) ?_
    obtain ⟨qσ2, hf⟩ := cc_t_s hf
    obtain ⟨σ2, kv3, z4, hσ2, hf⟩ := cc_cl_s hf
    obtain ⟨iz4, mσ2⟩ := hR 41 σ [x0, 40] σ2 kv3 z4 hσ2
    have mσ2 : cw_Met l v yX4_put cX4_put 2 none d [cR x0, .int (rI 40)] σ σ2 kv3 none := mσ2 ix0 ⟨by decide, by decide⟩
    refine cw_cv (b := x0) (t := 5) (n := 1) (rest := []) (As := [.int (rI 40)]) B mσ2 qσ2 ⟨by decide, by decide⟩ cgo_yX4_put cml_4_56 cin_yX4_put cse_yX4_put (by decide +kernel) (by decide) rfl hl.1.1 (Nat.le_of_ble_eq_true rfl) dX4_tell_68 rfl hw (fun h0 H locs cells slots hw => ?_) (fun h0 H locs cells slots q ce hw h1 h2 h3 => ?_)
    · rcases hf with ⟨-, hf⟩ | ⟨hk, -⟩
      · skip
        exact pw_X4_tell_71 rfl hR htr hd5 B hnh σ2 x0 x3 x4 x6 x7 t0 ix0 ix3 ix4 ix6 ix7 it0 hf _ _ _ _ _ hw (cl_sub hl [1, 2, 3, 4, 5, 0] rfl)
      · exact absurd h0 hk
    · rcases hf with ⟨hk, -⟩ | ⟨-, hf⟩
      · exact absurd hk h0
      · cases hf
        exact cw_xout B hnh h0 hw h1 h2 h3

set_option maxHeartbeats 4000000 in
set_option maxRecDepth 100000 in
theorem pw_X4_tell_57 {v : cwE} {bd : Nat × Nat} {p : Program} {l : Launch} {e : Env} {s : State} {m : MethodId} {args : Array Value} {below : List Frame} {meth : Method} {c : Code} {d : Nat} {rec : Nat → CS → List Int → CO} {σ0 σ' : CS} {kd : Nat} {r : Int} (hbd : bd = (v.2.2.1, v.2.2.2.1)) (hR : cw_Rec l v d rec) (htr : l.stackTraces = false) (hd5 : 5 ≤ d) (B : cw_B v RX4 p s m args meth c cX4_tell 10 none) (hnh : ∀ x ∈ c.exceptionTable.toList, False) : ∀ (σ : CS) (x0 x3 x4 x6 x7 : Int), inR x0 → inR x3 → inR x4 → inR x6 → inR x7 → pc_X4_tell_57 rec bd σ x0 x3 x4 x6 x7 = some (σ', kd, r) → ∀ (H : Heap) (locs : List Loc) (cells slots : Nat) (ls : Array Slot), cw_W v s σ0 σ H locs cells slots → cl_has ls 10 [(0, cR x0), (3, .int (rI x3)), (4, .int (rI x4)), (6, cR x6), (7, .int (rI x7))] → W p l e (cw_rm v (d + 1) σ0) s m args below meth c H locs cells slots (cw_Z below v σ0 σ' kd none args s) (F0 m 57 ls []) := by
  subst hbd
  obtain ⟨hx, hb, hr, hml, hown, hts, hlk, hK⟩ := id B
  intro σ x0 x3 x4 x6 x7 ix0 ix3 ix4 ix6 ix7 hf H locs cells slots ls hw hl
  unfold pc_X4_tell_57 at hf
  refine lv_iconst (v := rI 0) hx hb dX4_tell_57 rfl ?_
  exact pw_X4_tell_58 rfl hR htr hd5 B hnh σ x0 x3 x4 x6 x7 0 ix0 ix3 ix4 ix6 ix7 ⟨by decide, by decide⟩ hf _ _ _ _ _ hw (cl_sub hl [0, 1, 2, 3, 4] rfl)

set_option maxHeartbeats 4000000 in
set_option maxRecDepth 100000 in
theorem pw_X4_tell_0 {v : cwE} {bd : Nat × Nat} {p : Program} {l : Launch} {e : Env} {s : State} {m : MethodId} {args : Array Value} {below : List Frame} {meth : Method} {c : Code} {d : Nat} {rec : Nat → CS → List Int → CO} {σ0 σ' : CS} {kd : Nat} {r : Int} (hbd : bd = (v.2.2.1, v.2.2.2.1)) (hR : cw_Rec l v d rec) (htr : l.stackTraces = false) (hd5 : 5 ≤ d) (B : cw_B v RX4 p s m args meth c cX4_tell 10 none) (hnh : ∀ x ∈ c.exceptionTable.toList, False) : ∀ (σ : CS) (x0 x1 x2 x3 x4 x5 : Int), inR x0 → inR x1 → inR x2 → inR x3 → inR x4 → inR x5 → pc_X4_tell_0 rec bd σ x0 x1 x2 x3 x4 x5 = some (σ', kd, r) → ∀ (H : Heap) (locs : List Loc) (cells slots : Nat) (ls : Array Slot), cw_W v s σ0 σ H locs cells slots → cl_has ls 10 [(0, cR x0), (1, cR x1), (2, cR x2), (3, .int (rI x3)), (4, .int (rI x4)), (5, .int (rI x5))] → W p l e (cw_rm v (d + 1) σ0) s m args below meth c H locs cells slots (cw_Z below v σ0 σ' kd none args s) (F0 m 0 ls []) := by
  subst hbd
  obtain ⟨hx, hb, hr, hml, hown, hts, hlk, hK⟩ := id B
  intro σ x0 x1 x2 x3 x4 x5 ix0 ix1 ix2 ix3 ix4 ix5 hf H locs cells slots ls hw hl
  unfold pc_X4_tell_0 at hf
  refine cl_aload_n hx hb dX4_tell_0 rfl (lv_at hl.1 0 rfl) ?_
  refine lv_iload hx hb dX4_tell_1 (lv_at hl.1 4 rfl) ?_
  obtain ⟨qσ1, hf⟩ := cc_t_s hf
  obtain ⟨σ1, kv2, z3, hσ1, hf⟩ := cc_cl_s hf
  obtain ⟨iz3, mσ1⟩ := hR 37 σ [x0, x4] σ1 kv2 z3 hσ1
  have mσ1 : cw_Met l v yX4_look cX4_look 2 none d [cR x0, .int (rI x4)] σ σ1 kv2 none := mσ1 ix0 ix4
  refine cw_cv (b := x0) (t := 5) (n := 1) (rest := []) (As := [.int (rI x4)]) B mσ1 qσ1 ⟨by decide, by decide⟩ cgo_yX4_look cml_4_154 cin_yX4_look cse_yX4_look (by decide +kernel) (by decide) rfl hl.1.1 (Nat.le_of_ble_eq_true rfl) dX4_tell_3 rfl hw (fun h0 H locs cells slots hw => ?_) (fun h0 H locs cells slots q ce hw h1 h2 h3 => ?_)
  · rcases hf with ⟨-, hf⟩ | ⟨hk, -⟩
    · skip
      refine cl_aload_n hx hb dX4_tell_6 rfl (lv_at hl.1 0 rfl) ?_
      refine cl_aload_n hx hb dX4_tell_7 rfl (lv_at hl.1 1 rfl) ?_
      refine cl_aload_n hx hb dX4_tell_8 rfl (lv_at hl.1 2 rfl) ?_
      obtain ⟨qσ4, hf⟩ := cc_t_s hf
      obtain ⟨σ4, kv5, z6, hσ4, hf⟩ := cc_cl_s hf
      obtain ⟨iz6, mσ4⟩ := hR 35 σ1 [x0, x1, x2] σ4 kv5 z6 hσ4
      have mσ4 : cw_Met l v yX4_head cX4_head 9 (some (.object "PureHouse$Head")) d [cR x0, cR x1, cR x2] σ1 σ4 kv5 (some (cR z6)) := mσ4 ix0 ix1 ix2
      refine cw_cv (b := x0) (t := 5) (n := 2) (rest := []) (As := [cR x1, cR x2]) B mσ4 qσ4 ⟨by decide, by decide⟩ cgo_yX4_head cml_4_48 cin_yX4_head cse_yX4_head (by decide +kernel) (by decide) rfl hl.1.1 (Nat.le_of_ble_eq_true rfl) dX4_tell_9 rfl hw (fun h0 H locs cells slots hw => ?_) (fun h0 H locs cells slots q ce hw h1 h2 h3 => ?_)
      · rcases hf with ⟨-, hf⟩ | ⟨hk, -⟩
        · skip
          refine cl_astore (lv' := [(6, cR z6), (0, cR x0), (1, cR x1), (2, cR x2), (3, .int (rI x3)), (4, .int (rI x4)), (5, .int (rI x5))]) hx hb dX4_tell_12 hl (by decide) rfl (fun ls hl => ?_)
          refine cl_aload hx hb dX4_tell_14 (lv_at hl.1 0 rfl) ?_
          obtain ⟨qσ7, hf⟩ := cc_t_s hf
          obtain ⟨σ7, kv8, z9, hσ7, hf⟩ := cc_cl_s hf
          obtain ⟨iz9, mσ7⟩ := hR 11 σ4 [z6] σ7 kv8 z9 hσ7
          have mσ7 : cw_Met l v yX1_isBinder cX1_isBinder 1 (some .boolean) d [cR z6] σ4 σ7 kv8 (some (.int (rI z9))) := mσ7 iz6
          refine cw_cv (b := z6) (t := 2) (n := 0) (rest := []) (As := []) B mσ7 qσ7 ⟨by decide, by decide⟩ cgo_yX1_isBinder cml_4_60 cin_yX1_isBinder cse_yX1_isBinder (by decide +kernel) (by decide) rfl hl.1.1 (Nat.le_of_ble_eq_true rfl) dX4_tell_16 rfl hw (fun h0 H locs cells slots hw => ?_) (fun h0 H locs cells slots q ce hw h1 h2 h3 => ?_)
          · rcases hf with ⟨-, hf⟩ | ⟨hk, -⟩
            · skip
              refine cl_istore (lv' := [(7, .int (rI z9)), (6, cR z6), (0, cR x0), (1, cR x1), (2, cR x2), (3, .int (rI x3)), (4, .int (rI x4)), (5, .int (rI x5))]) hx hb dX4_tell_19 hl (by decide) rfl (fun ls hl => ?_)
              refine lv_iload hx hb dX4_tell_21 (lv_at hl.1 0 rfl) ?_
              refine rn_if_eq (a := z9) (tgt := 39) hx hb iz9 dX4_tell_23 (by decide) (fun c10 => ?_) (fun c10 => ?_)
              · replace hf := cc_if_t hf c10
                refine lv_iload hx hb dX4_tell_39 (lv_at hl.1 7 rfl) ?_
                refine lv_iconst (v := rI 2) hx hb dX4_tell_41 rfl ?_
                refine rn_icmp_ne (a := x5) (b := 2) (tgt := 57) hx hb ix5 ⟨by decide, by decide⟩ dX4_tell_42 (by decide) (fun c11 => ?_) (fun c11 => ?_)
                · replace hf := cc_if_t hf c11
                  exact pw_X4_tell_57 rfl hR htr hd5 B hnh σ7 x0 x3 x4 z6 z9 ix0 ix3 ix4 iz6 iz9 hf _ _ _ _ _ hw (cl_sub hl [2, 5, 6, 1, 0] rfl)
                · replace hf := cc_if_f hf c11
                  refine cl_aload hx hb dX4_tell_45 (lv_at hl.1 1 rfl) ?_
                  obtain ⟨z12, ez12, iz12, rz12, hf⟩ := cc_g_s hw hf
                  refine cw_get (val := cR z12) B hw rz12 ⟨by decide, by decide⟩ (by decide) cwi_2 cfl_4_66 ez12 rfl dX4_tell_47 ?_
                  refine cl_ifnull (x := z12) (tgt := 57) hx hb dX4_tell_50 (by decide) (fun c13 => ?_) (fun c13 => ?_)
                  · replace hf := cc_if_t hf c13
                    exact pw_X4_tell_57 rfl hR htr hd5 B hnh σ7 x0 x3 x4 z6 z9 ix0 ix3 ix4 iz6 iz9 hf _ _ _ _ _ hw (cl_sub hl [2, 5, 6, 1, 0] rfl)
                  · replace hf := cc_if_f hf c13
                    refine lv_iconst (v := rI 1) hx hb dX4_tell_53 rfl ?_
                    refine lv_goto (tgt := 58) hx hb dX4_tell_54 (by decide) ?_
                    exact pw_X4_tell_58 rfl hR htr hd5 B hnh σ7 x0 x3 x4 z6 z9 1 ix0 ix3 ix4 iz6 iz9 ⟨by decide, by decide⟩ hf _ _ _ _ _ hw (cl_sub hl [2, 5, 6, 1, 0] rfl)
              · replace hf := cc_if_f hf c10
                refine lv_iload hx hb dX4_tell_26 (lv_at hl.1 7 rfl) ?_
                refine rn_if_eq (a := x5) (tgt := 35) hx hb ix5 dX4_tell_28 (by decide) (fun c14 => ?_) (fun c14 => ?_)
                · replace hf := cc_if_t hf c14
                  refine lv_iconst (v := rI 0) hx hb dX4_tell_35 rfl ?_
                  refine lv_goto (tgt := 58) hx hb dX4_tell_36 (by decide) ?_
                  exact pw_X4_tell_58 rfl hR htr hd5 B hnh σ7 x0 x3 x4 z6 z9 0 ix0 ix3 ix4 iz6 iz9 ⟨by decide, by decide⟩ hf _ _ _ _ _ hw (cl_sub hl [2, 5, 6, 1, 0] rfl)
                · replace hf := cc_if_f hf c14
                  refine lv_iconst (v := rI 1) hx hb dX4_tell_31 rfl ?_
                  refine lv_goto (tgt := 58) hx hb dX4_tell_32 (by decide) ?_
                  exact pw_X4_tell_58 rfl hR htr hd5 B hnh σ7 x0 x3 x4 z6 z9 1 ix0 ix3 ix4 iz6 iz9 ⟨by decide, by decide⟩ hf _ _ _ _ _ hw (cl_sub hl [2, 5, 6, 1, 0] rfl)
            · exact absurd h0 hk
          · rcases hf with ⟨hk, -⟩ | ⟨-, hf⟩
            · exact absurd hk h0
            · cases hf
              exact cw_xout B hnh h0 hw h1 h2 h3
        · exact absurd h0 hk
      · rcases hf with ⟨hk, -⟩ | ⟨-, hf⟩
        · exact absurd hk h0
        · cases hf
          exact cw_xout B hnh h0 hw h1 h2 h3
    · exact absurd h0 hk
  · rcases hf with ⟨hk, -⟩ | ⟨-, hf⟩
    · exact absurd hk h0
    · cases hf
      exact cw_xout B hnh h0 hw h1 h2 h3

set_option maxHeartbeats 4000000 in
set_option maxRecDepth 100000 in
theorem pm_X4_tell {v : cwE} {bd : Nat × Nat} {l : Launch} {d : Nat} {rec : Nat → CS → List Int → CO} (hbd : bd = (v.2.2.1, v.2.2.2.1)) (hR : cw_Rec l v d rec) (htr : l.stackTraces = false) (hd5 : 5 ≤ d) (σ σ' : CS) (x0 x1 x2 x3 x4 x5 : Int) (kd : Nat) (r : Int) (ix0 : inR x0) (ix1 : inR x1) (ix2 : inR x2) (ix3 : inR x3) (ix4 : inR x4) (ix5 : inR x5) (hf : pc_X4_tell_0 rec bd σ x0 x1 x2 x3 x4 x5 = some (σ', kd, r)) : cw_Met l v yX4_tell cX4_tell 10 none (d + 1) [cR x0, cR x1, cR x2, .int (rI x3), .int (rI x4), .int (rI x5)] σ σ' kd none := by
  refine cw_ofW (by decide +kernel) ?_
  intro p e s m args below meth c s₁ B hml hv
  obtain ⟨rfl, hM, hK⟩ := hv
  have hts := atoms_spec (ws := Cond.code yX4_tell cX4_tell 10 none :: cw_bw) B.pre
  have hB : cw_B v RX4 p s m _ meth c cX4_tell 10 none := ⟨B.exec, B.bytes, B.returns, hml, findClass_of_methodNamed B.named, fun w h => hts w (List.mem_cons_of_mem _ h), B.notSynchronized, hK⟩
  have hnh := cc_nh B (hts _ List.mem_cons_self)
  rw [lg_entry_eq]
  obtain ⟨ls, hls, hl⟩ := cl_ent [cR x0, cR x1, cR x2, .int (rI x3), .int (rI x4), .int (rI x5)] 10 (cl_1r (cl_1r (cl_1r (cl_1i (cl_1i (cl_1i cl_10)))))) (Nat.le_of_ble_eq_true rfl)
  rw [hls]
  exact pw_X4_tell_0 hbd hR htr hd5 hB hnh σ x0 x1 x2 x3 x4 x5 ix0 ix1 ix2 ix3 ix4 ix5 hf _ _ _ _ _ (cw_W0 hM) (cl_sub hl [0, 1, 2, 3, 4, 5] rfl)

set_option maxHeartbeats 4000000 in
set_option maxRecDepth 100000 in
theorem pw_X4_tellHead_37 {v : cwE} {bd : Nat × Nat} {p : Program} {l : Launch} {e : Env} {s : State} {m : MethodId} {args : Array Value} {below : List Frame} {meth : Method} {c : Code} {d : Nat} {rec : Nat → CS → List Int → CO} {σ0 σ' : CS} {kd : Nat} {r : Int} (hbd : bd = (v.2.2.1, v.2.2.2.1)) (hR : cw_Rec l v d rec) (htr : l.stackTraces = false) (hd5 : 5 ≤ d) (B : cw_B v RX4 p s m args meth c cX4_tellHead 3 none) (hnh : ∀ x ∈ c.exceptionTable.toList, False) : ∀ (σ : CS) (t0 t1 : Int), inR t0 → inR t1 → pc_X4_tellHead_37 rec bd σ t0 t1 = some (σ', kd, r) → ∀ (H : Heap) (locs : List Loc) (cells slots : Nat) (ls : Array Slot), cw_W v s σ0 σ H locs cells slots → cl_has ls 3 [] → W p l e (cw_rm v (d + 1) σ0) s m args below meth c H locs cells slots (cw_Z below v σ0 σ' kd none args s) (F0 m 37 ls [.int (rI t0), cR t1]) := by
  subst hbd
  obtain ⟨hx, hb, hr, hml, hown, hts, hlk, hK⟩ := id B
  intro σ t0 t1 it0 it1 hf H locs cells slots ls hw hl
  unfold pc_X4_tellHead_37 at hf
  obtain ⟨qσ1, hf⟩ := cc_t_s hf
  obtain ⟨σ1, kv2, z3, hσ1, hf⟩ := cc_cl_s hf
  obtain ⟨iz3, mσ1⟩ := hR 45 σ [t1, t0] σ1 kv2 z3 hσ1
  have mσ1 : cw_Met l v yX4_putNumber cX4_putNumber 4 none d [cR t1, .int (rI t0)] σ σ1 kv2 none := mσ1 it1 it0
  refine cw_cv (b := t1) (t := 5) (n := 1) (rest := []) (As := [.int (rI t0)]) B mσ1 qσ1 ⟨by decide, by decide⟩ cgo_yX4_putNumber cml_4_76 cin_yX4_putNumber cse_yX4_putNumber (by decide +kernel) (by decide) rfl hl.1.1 (Nat.le_of_ble_eq_true rfl) dX4_tellHead_37 rfl hw (fun h0 H locs cells slots hw => ?_) (fun h0 H locs cells slots q ce hw h1 h2 h3 => ?_)
  · rcases hf with ⟨-, hf⟩ | ⟨hk, -⟩
    · skip
      exact cw_retv B hf hw dX4_tellHead_40
    · exact absurd h0 hk
  · rcases hf with ⟨hk, -⟩ | ⟨-, hf⟩
    · exact absurd hk h0
    · cases hf
      exact cw_xout B hnh h0 hw h1 h2 h3

set_option maxHeartbeats 4000000 in
set_option maxRecDepth 100000 in
theorem pw_X4_tellHead_0 {v : cwE} {bd : Nat × Nat} {p : Program} {l : Launch} {e : Env} {s : State} {m : MethodId} {args : Array Value} {below : List Frame} {meth : Method} {c : Code} {d : Nat} {rec : Nat → CS → List Int → CO} {σ0 σ' : CS} {kd : Nat} {r : Int} (hbd : bd = (v.2.2.1, v.2.2.2.1)) (hR : cw_Rec l v d rec) (htr : l.stackTraces = false) (hd5 : 5 ≤ d) (B : cw_B v RX4 p s m args meth c cX4_tellHead 3 none) (hnh : ∀ x ∈ c.exceptionTable.toList, False) : ∀ (σ : CS) (x0 x1 : Int), inR x0 → inR x1 → pc_X4_tellHead_0 rec bd σ x0 x1 = some (σ', kd, r) → ∀ (H : Heap) (locs : List Loc) (cells slots : Nat) (ls : Array Slot), cw_W v s σ0 σ H locs cells slots → cl_has ls 3 [(0, cR x0), (1, cR x1)] → W p l e (cw_rm v (d + 1) σ0) s m args below meth c H locs cells slots (cw_Z below v σ0 σ' kd none args s) (F0 m 0 ls []) := by
  subst hbd
  obtain ⟨hx, hb, hr, hml, hown, hts, hlk, hK⟩ := id B
  intro σ x0 x1 ix0 ix1 hf H locs cells slots ls hw hl
  unfold pc_X4_tellHead_0 at hf
  refine cl_aload_n hx hb dX4_tellHead_0 rfl (lv_at hl.1 0 rfl) ?_
  refine cl_aload_n hx hb dX4_tellHead_1 rfl (lv_at hl.1 1 rfl) ?_
  refine cl_null hx hb dX4_tellHead_2 ?_
  obtain ⟨qσ1, hf⟩ := cc_t_s hf
  obtain ⟨σ1, kv2, z3, hσ1, hf⟩ := cc_cl_s hf
  obtain ⟨iz3, mσ1⟩ := hR 35 σ [x0, x1, (-1)] σ1 kv2 z3 hσ1
  have mσ1 : cw_Met l v yX4_head cX4_head 9 (some (.object "PureHouse$Head")) d [cR x0, cR x1, cR (-1)] σ σ1 kv2 (some (cR z3)) := mσ1 ix0 ix1 ⟨by decide, by decide⟩
  refine cw_cv (b := x0) (t := 5) (n := 2) (rest := []) (As := [cR x1, cR (-1)]) B mσ1 qσ1 ⟨by decide, by decide⟩ cgo_yX4_head cml_4_48 cin_yX4_head cse_yX4_head (by decide +kernel) (by decide) rfl hl.1.1 (Nat.le_of_ble_eq_true rfl) dX4_tellHead_3 rfl hw (fun h0 H locs cells slots hw => ?_) (fun h0 H locs cells slots q ce hw h1 h2 h3 => ?_)
  · rcases hf with ⟨-, hf⟩ | ⟨hk, -⟩
    · skip
      refine cl_astore_n (lv' := [(2, cR z3), (0, cR x0), (1, cR x1)]) hx hb dX4_tellHead_6 rfl hl (by decide) rfl (fun ls hl => ?_)
      refine cl_aload_n hx hb dX4_tellHead_7 rfl (lv_at hl.1 1 rfl) ?_
      refine cl_aload_n hx hb dX4_tellHead_8 rfl (lv_at hl.1 0 rfl) ?_
      obtain ⟨qσ4, hf⟩ := cc_t_s hf
      obtain ⟨σ4, kv5, z6, hσ4, hf⟩ := cc_cl_s hf
      obtain ⟨iz6, mσ4⟩ := hR 43 σ1 [x0, z3] σ4 kv5 z6 hσ4
      have mσ4 : cw_Met l v yX4_putFront cX4_putFront 2 none d [cR x0, cR z3] σ1 σ4 kv5 none := mσ4 ix0 iz3
      refine cw_cv (b := x0) (t := 5) (n := 1) (rest := []) (As := [cR z3]) B mσ4 qσ4 ⟨by decide, by decide⟩ cgo_yX4_putFront cml_4_52 cin_yX4_putFront cse_yX4_putFront (by decide +kernel) (by decide) rfl hl.1.1 (Nat.le_of_ble_eq_true rfl) dX4_tellHead_9 rfl hw (fun h0 H locs cells slots hw => ?_) (fun h0 H locs cells slots q ce hw h1 h2 h3 => ?_)
      · rcases hf with ⟨-, hf⟩ | ⟨hk, -⟩
        · skip
          refine cl_aload_n hx hb dX4_tellHead_12 rfl (lv_at hl.1 1 rfl) ?_
          refine lv_bipush (v := rI 32) hx hb dX4_tellHead_13 (by decide +kernel) ?_
          obtain ⟨qσ7, hf⟩ := cc_t_s hf
          obtain ⟨σ7, kv8, z9, hσ7, hf⟩ := cc_cl_s hf
          obtain ⟨iz9, mσ7⟩ := hR 41 σ4 [x0, 32] σ7 kv8 z9 hσ7
          have mσ7 : cw_Met l v yX4_put cX4_put 2 none d [cR x0, .int (rI 32)] σ4 σ7 kv8 none := mσ7 ix0 ⟨by decide, by decide⟩
          refine cw_cv (b := x0) (t := 5) (n := 1) (rest := []) (As := [.int (rI 32)]) B mσ7 qσ7 ⟨by decide, by decide⟩ cgo_yX4_put cml_4_56 cin_yX4_put cse_yX4_put (by decide +kernel) (by decide) rfl hl.1.1 (Nat.le_of_ble_eq_true rfl) dX4_tellHead_15 rfl hw (fun h0 H locs cells slots hw => ?_) (fun h0 H locs cells slots q ce hw h1 h2 h3 => ?_)
          · rcases hf with ⟨-, hf⟩ | ⟨hk, -⟩
            · skip
              refine cl_aload_n hx hb dX4_tellHead_18 rfl (lv_at hl.1 1 rfl) ?_
              refine cl_aload_n hx hb dX4_tellHead_19 rfl (lv_at hl.1 0 rfl) ?_
              obtain ⟨qσ10, hf⟩ := cc_t_s hf
              obtain ⟨σ10, kv11, z12, hσ10, hf⟩ := cc_cl_s hf
              obtain ⟨iz12, mσ10⟩ := hR 11 σ7 [z3] σ10 kv11 z12 hσ10
              have mσ10 : cw_Met l v yX1_isBinder cX1_isBinder 1 (some .boolean) d [cR z3] σ7 σ10 kv11 (some (.int (rI z12))) := mσ10 iz3
              refine cw_cv (b := z3) (t := 2) (n := 0) (rest := [cR x0]) (As := []) B mσ10 qσ10 ⟨by decide, by decide⟩ cgo_yX1_isBinder cml_4_60 cin_yX1_isBinder cse_yX1_isBinder (by decide +kernel) (by decide) rfl hl.1.1 (cl_cs (cl_1r cl_10) (Nat.le_of_ble_eq_true rfl)) dX4_tellHead_20 rfl hw (fun h0 H locs cells slots hw => ?_) (fun h0 H locs cells slots q ce hw h1 h2 h3 => ?_)
              · rcases hf with ⟨-, hf⟩ | ⟨hk, -⟩
                · skip
                  refine rn_if_eq (a := z12) (tgt := 30) hx hb iz12 dX4_tellHead_23 (by decide) (fun c13 => ?_) (fun c13 => ?_)
                  · replace hf := cc_if_t hf c13
                    refine cl_aload_n hx hb dX4_tellHead_30 rfl (lv_at hl.1 0 rfl) ?_
                    obtain ⟨z14, ez14, iz14, rz14, hf⟩ := cc_g_s hw hf
                    refine cw_get (val := cR z14) B hw rz14 ⟨by decide, by decide⟩ (by decide) cwi_2 cfl_4_66 ez14 rfl dX4_tellHead_31 ?_
                    obtain ⟨σ15, kv16, z17, hσ15, hf⟩ := cc_cl_s hf
                    obtain ⟨iz17, mσ15⟩ := hR 28 σ10 [z14] σ15 kv16 z17 hσ15
                    have mσ15 : cw_Met l v yX3_lengthOf cX3_lengthOf 3 (some .int) d [cR z14] σ10 σ15 kv16 (some (.int (rI z17))) := mσ15 iz14
                    refine cw_cs (n := 1) (rest := [cR x0]) (As := [cR z14]) B mσ15 cgo_yX3_lengthOf cml_4_70 cst_yX3_lengthOf (by decide +kernel) (by decide) rfl hl.1.1 (cl_cs (cl_1r cl_10) (Nat.le_of_ble_eq_true rfl)) dX4_tellHead_34 rfl hw (fun h0 H locs cells slots hw => ?_) (fun h0 H locs cells slots q ce hw h1 h2 h3 => ?_)
                    · rcases hf with ⟨-, hf⟩ | ⟨hk, -⟩
                      · skip
                        exact pw_X4_tellHead_37 rfl hR htr hd5 B hnh σ15 z17 x0 iz17 ix0 hf _ _ _ _ _ hw (cl_sub hl [] rfl)
                      · exact absurd h0 hk
                    · rcases hf with ⟨hk, -⟩ | ⟨-, hf⟩
                      · exact absurd hk h0
                      · cases hf
                        exact cw_xout B hnh h0 hw h1 h2 h3
                  · replace hf := cc_if_f hf c13
                    refine lv_iconst (v := rI 0) hx hb dX4_tellHead_26 rfl ?_
                    refine lv_goto (tgt := 37) hx hb dX4_tellHead_27 (by decide) ?_
                    exact pw_X4_tellHead_37 rfl hR htr hd5 B hnh σ10 0 x0 ⟨by decide, by decide⟩ ix0 hf _ _ _ _ _ hw (cl_sub hl [] rfl)
                · exact absurd h0 hk
              · rcases hf with ⟨hk, -⟩ | ⟨-, hf⟩
                · exact absurd hk h0
                · cases hf
                  exact cw_xout B hnh h0 hw h1 h2 h3
            · exact absurd h0 hk
          · rcases hf with ⟨hk, -⟩ | ⟨-, hf⟩
            · exact absurd hk h0
            · cases hf
              exact cw_xout B hnh h0 hw h1 h2 h3
        · exact absurd h0 hk
      · rcases hf with ⟨hk, -⟩ | ⟨-, hf⟩
        · exact absurd hk h0
        · cases hf
          exact cw_xout B hnh h0 hw h1 h2 h3
    · exact absurd h0 hk
  · rcases hf with ⟨hk, -⟩ | ⟨-, hf⟩
    · exact absurd hk h0
    · cases hf
      exact cw_xout B hnh h0 hw h1 h2 h3

set_option maxHeartbeats 4000000 in
set_option maxRecDepth 100000 in
theorem pm_X4_tellHead {v : cwE} {bd : Nat × Nat} {l : Launch} {d : Nat} {rec : Nat → CS → List Int → CO} (hbd : bd = (v.2.2.1, v.2.2.2.1)) (hR : cw_Rec l v d rec) (htr : l.stackTraces = false) (hd5 : 5 ≤ d) (σ σ' : CS) (x0 x1 : Int) (kd : Nat) (r : Int) (ix0 : inR x0) (ix1 : inR x1) (hf : pc_X4_tellHead_0 rec bd σ x0 x1 = some (σ', kd, r)) : cw_Met l v yX4_tellHead cX4_tellHead 3 none (d + 1) [cR x0, cR x1] σ σ' kd none := by
  refine cw_ofW (by decide +kernel) ?_
  intro p e s m args below meth c s₁ B hml hv
  obtain ⟨rfl, hM, hK⟩ := hv
  have hts := atoms_spec (ws := Cond.code yX4_tellHead cX4_tellHead 3 none :: cw_bw) B.pre
  have hB : cw_B v RX4 p s m _ meth c cX4_tellHead 3 none := ⟨B.exec, B.bytes, B.returns, hml, findClass_of_methodNamed B.named, fun w h => hts w (List.mem_cons_of_mem _ h), B.notSynchronized, hK⟩
  have hnh := cc_nh B (hts _ List.mem_cons_self)
  rw [lg_entry_eq]
  obtain ⟨ls, hls, hl⟩ := cl_ent [cR x0, cR x1] 3 (cl_1r (cl_1r cl_10)) (Nat.le_of_ble_eq_true rfl)
  rw [hls]
  exact pw_X4_tellHead_0 hbd hR htr hd5 hB hnh σ x0 x1 ix0 ix1 hf _ _ _ _ _ (cw_W0 hM) (cl_sub hl [0, 1] rfl)

set_option maxHeartbeats 4000000 in
set_option maxRecDepth 100000 in
theorem pw_X4_tellWhole_0 {v : cwE} {bd : Nat × Nat} {p : Program} {l : Launch} {e : Env} {s : State} {m : MethodId} {args : Array Value} {below : List Frame} {meth : Method} {c : Code} {d : Nat} {rec : Nat → CS → List Int → CO} {σ0 σ' : CS} {kd : Nat} {r : Int} (hbd : bd = (v.2.2.1, v.2.2.2.1)) (hR : cw_Rec l v d rec) (htr : l.stackTraces = false) (hd5 : 5 ≤ d) (B : cw_B v RX4 p s m args meth c cX4_tellWhole 2 none) (hnh : ∀ x ∈ c.exceptionTable.toList, False) : ∀ (σ : CS) (x0 x1 : Int), inR x0 → inR x1 → pc_X4_tellWhole_0 rec bd σ x0 x1 = some (σ', kd, r) → ∀ (H : Heap) (locs : List Loc) (cells slots : Nat) (ls : Array Slot), cw_W v s σ0 σ H locs cells slots → cl_has ls 2 [(0, cR x0), (1, cR x1)] → W p l e (cw_rm v (d + 1) σ0) s m args below meth c H locs cells slots (cw_Z below v σ0 σ' kd none args s) (F0 m 0 ls []) := by
  subst hbd
  obtain ⟨hx, hb, hr, hml, hown, hts, hlk, hK⟩ := id B
  intro σ x0 x1 ix0 ix1 hf H locs cells slots ls hw hl
  unfold pc_X4_tellWhole_0 at hf
  refine cl_aload_n hx hb dX4_tellWhole_0 rfl (lv_at hl.1 0 rfl) ?_
  refine cl_aload_n hx hb dX4_tellWhole_1 rfl (lv_at hl.1 1 rfl) ?_
  refine cl_null hx hb dX4_tellWhole_2 ?_
  refine lv_iconst (v := rI 0) hx hb dX4_tellWhole_3 rfl ?_
  refine lv_iconst (v := rI 0) hx hb dX4_tellWhole_4 rfl ?_
  refine lv_iconst (v := rI 0) hx hb dX4_tellWhole_5 rfl ?_
  obtain ⟨qσ1, hf⟩ := cc_t_s hf
  obtain ⟨σ1, kv2, z3, hσ1, hf⟩ := cc_cl_s hf
  obtain ⟨iz3, mσ1⟩ := hR 49 σ [x0, x1, (-1), 0, 0, 0] σ1 kv2 z3 hσ1
  have mσ1 : cw_Met l v yX4_tell cX4_tell 10 none d [cR x0, cR x1, cR (-1), .int (rI 0), .int (rI 0), .int (rI 0)] σ σ1 kv2 none := mσ1 ix0 ix1 ⟨by decide, by decide⟩ ⟨by decide, by decide⟩ ⟨by decide, by decide⟩ ⟨by decide, by decide⟩
  refine cw_cv (b := x0) (t := 5) (n := 5) (rest := []) (As := [cR x1, cR (-1), .int (rI 0), .int (rI 0), .int (rI 0)]) B mσ1 qσ1 ⟨by decide, by decide⟩ cgo_yX4_tell cml_4_44 cin_yX4_tell cse_yX4_tell (by decide +kernel) (by decide) rfl hl.1.1 (Nat.le_of_ble_eq_true rfl) dX4_tellWhole_6 rfl hw (fun h0 H locs cells slots hw => ?_) (fun h0 H locs cells slots q ce hw h1 h2 h3 => ?_)
  · rcases hf with ⟨-, hf⟩ | ⟨hk, -⟩
    · skip
      exact cw_retv B hf hw dX4_tellWhole_9
    · exact absurd h0 hk
  · rcases hf with ⟨hk, -⟩ | ⟨-, hf⟩
    · exact absurd hk h0
    · cases hf
      exact cw_xout B hnh h0 hw h1 h2 h3

set_option maxHeartbeats 4000000 in
set_option maxRecDepth 100000 in
theorem pm_X4_tellWhole {v : cwE} {bd : Nat × Nat} {l : Launch} {d : Nat} {rec : Nat → CS → List Int → CO} (hbd : bd = (v.2.2.1, v.2.2.2.1)) (hR : cw_Rec l v d rec) (htr : l.stackTraces = false) (hd5 : 5 ≤ d) (σ σ' : CS) (x0 x1 : Int) (kd : Nat) (r : Int) (ix0 : inR x0) (ix1 : inR x1) (hf : pc_X4_tellWhole_0 rec bd σ x0 x1 = some (σ', kd, r)) : cw_Met l v yX4_tellWhole cX4_tellWhole 2 none (d + 1) [cR x0, cR x1] σ σ' kd none := by
  refine cw_ofW (by decide +kernel) ?_
  intro p e s m args below meth c s₁ B hml hv
  obtain ⟨rfl, hM, hK⟩ := hv
  have hts := atoms_spec (ws := Cond.code yX4_tellWhole cX4_tellWhole 2 none :: cw_bw) B.pre
  have hB : cw_B v RX4 p s m _ meth c cX4_tellWhole 2 none := ⟨B.exec, B.bytes, B.returns, hml, findClass_of_methodNamed B.named, fun w h => hts w (List.mem_cons_of_mem _ h), B.notSynchronized, hK⟩
  have hnh := cc_nh B (hts _ List.mem_cons_self)
  rw [lg_entry_eq]
  obtain ⟨ls, hls, hl⟩ := cl_ent [cR x0, cR x1] 2 (cl_1r (cl_1r cl_10)) (Nat.le_of_ble_eq_true rfl)
  rw [hls]
  exact pw_X4_tellWhole_0 hbd hR htr hd5 hB hnh σ x0 x1 ix0 ix1 hf _ _ _ _ _ (cw_W0 hM) (cl_sub hl [0, 1] rfl)

set_option maxHeartbeats 4000000 in
set_option maxRecDepth 100000 in
theorem pw_X5_add_29 {v : cwE} {bd : Nat × Nat} {p : Program} {l : Launch} {e : Env} {s : State} {m : MethodId} {args : Array Value} {below : List Frame} {meth : Method} {c : Code} {d : Nat} {rec : Nat → CS → List Int → CO} {σ0 σ' : CS} {kd : Nat} {r : Int} (hbd : bd = (v.2.2.1, v.2.2.2.1)) (hR : cw_Rec l v d rec) (htr : l.stackTraces = false) (hd5 : 5 ≤ d) (B : cw_B v RX5 p s m args meth c cX5_add 5 none) (hnh : ∀ x ∈ c.exceptionTable.toList, False) : ∀ (n : Nat) (σ : CS) (x0 x1 x2 x3 x4 : Int), inR x0 → inR x1 → inR x2 → inR x3 → inR x4 → pc_X5_add_29 rec bd n σ x0 x1 x2 x3 x4 = some (σ', kd, r) → ∀ (H : Heap) (locs : List Loc) (cells slots : Nat) (ls : Array Slot), cw_W v s σ0 σ H locs cells slots → cl_has ls 5 [(0, cR x0), (1, cR x1), (2, .int (rI x2)), (3, .int (rI x3)), (4, .int (rI x4))] → W p l e (cw_rm v (d + 1) σ0) s m args below meth c H locs cells slots (cw_Z below v σ0 σ' kd none args s) (F0 m 29 ls []) := by
  subst hbd
  obtain ⟨hx, hb, hr, hml, hown, hts, hlk, hK⟩ := id B
  intro n
  induction n with
  | zero => intro σ x0 x1 x2 x3 x4 ix0 ix1 ix2 ix3 ix4 hf; cases hf
  | succ n ih =>
    intro σ x0 x1 x2 x3 x4 ix0 ix1 ix2 ix3 ix4 hf H locs cells slots ls hw hl
    unfold pc_X5_add_29 at hf
    refine lv_iload hx hb dX5_add_29 (lv_at hl.1 4 rfl) ?_
    refine lv_iload_n hx hb dX5_add_31 rfl (lv_at hl.1 3 rfl) ?_
    refine rn_icmp_ge (a := x4) (b := x3) (tgt := 62) hx hb ix4 ix3 dX5_add_32 (by decide) (fun c1 => ?_) (fun c1 => ?_)
    · replace hf := cc_if_t hf c1
      refine cl_aload_n hx hb dX5_add_62 rfl (lv_at hl.1 0 rfl) ?_
      obtain ⟨z2, ez2, iz2, rz2, hf⟩ := cc_g_s hw hf
      refine cw_get (val := cR z2) B hw rz2 ⟨by decide, by decide⟩ (by decide) cwi_6 cfl_5_19 ez2 rfl dX5_add_63 ?_
      refine cl_aload_n hx hb dX5_add_66 rfl (lv_at hl.1 0 rfl) ?_
      obtain ⟨z3, ez3, iz3, rz3, hf⟩ := cc_g_s hw hf
      refine cw_get (val := .int (rI z3)) B hw rz3 ⟨by decide, by decide⟩ (by decide) cwi_6 cfl_5_9 ez3 rfl dX5_add_67 ?_
      refine lv_iload_n hx hb dX5_add_70 rfl (lv_at hl.1 3 rfl) ?_
      obtain ⟨σ4, eσ4, rσ4, bσ4, hf⟩ := cc_w_s hf
      refine cw_astI B hw rσ4 iz3 bσ4 ix3 eσ4 dX5_add_71 (fun H locs hw => ?_)
      refine cl_aload_n hx hb dX5_add_72 rfl (lv_at hl.1 0 rfl) ?_
      refine lv_dup hx hb dX5_add_73 (cR_cat _) ?_
      obtain ⟨z5, ez5, iz5, rz5, hf⟩ := cc_g_s hw hf
      refine cw_get (val := .int (rI z5)) B hw rz5 ⟨by decide, by decide⟩ (by decide) cwi_6 cfl_5_9 ez5 rfl dX5_add_74 ?_
      refine lv_iconst (v := rI 1) hx hb dX5_add_77 rfl ?_
      obtain ⟨z6, ez6, iz6, hf⟩ := cc_ck_s hf
      refine rn_add hx hb ez6 dX5_add_78 ?_
      obtain ⟨σ7, eσ7, rσ7, hf⟩ := cc_p_s hf
      refine cw_put B hw rσ7 cwt_6 (by decide) rfl cfl_5_9 iz6 eσ7 rfl (cw_fv_n rfl rfl) dX5_add_79 (fun H locs hw => ?_)
      exact cw_retv B hf hw dX5_add_82
    · replace hf := cc_if_f hf c1
      refine cl_aload_n hx hb dX5_add_35 rfl (lv_at hl.1 0 rfl) ?_
      obtain ⟨z8, ez8, iz8, rz8, hf⟩ := cc_g_s hw hf
      refine cw_get (val := cR z8) B hw rz8 ⟨by decide, by decide⟩ (by decide) cwi_6 cfl_5_15 ez8 rfl dX5_add_36 ?_
      refine cl_aload_n hx hb dX5_add_39 rfl (lv_at hl.1 0 rfl) ?_
      obtain ⟨z9, ez9, iz9, rz9, hf⟩ := cc_g_s hw hf
      refine cw_get (val := .int (rI z9)) B hw rz9 ⟨by decide, by decide⟩ (by decide) cwi_6 cfl_5_9 ez9 rfl dX5_add_40 ?_
      refine lv_bipush (v := rI 12) hx hb dX5_add_43 (by decide +kernel) ?_
      obtain ⟨z10, ez10, iz10, hf⟩ := cc_ck_s hf
      refine rn_mul hx hb ez10 dX5_add_45 ?_
      refine lv_iload hx hb dX5_add_46 (lv_at hl.1 4 rfl) ?_
      obtain ⟨z11, ez11, iz11, hf⟩ := cc_ck_s hf
      refine rn_add hx hb ez11 dX5_add_48 ?_
      refine cl_aload_n hx hb dX5_add_49 rfl (lv_at hl.1 1 rfl) ?_
      refine lv_iload_n hx hb dX5_add_50 rfl (lv_at hl.1 2 rfl) ?_
      refine lv_iload hx hb dX5_add_51 (lv_at hl.1 4 rfl) ?_
      obtain ⟨z12, ez12, iz12, hf⟩ := cc_ck_s hf
      refine rn_add hx hb ez12 dX5_add_53 ?_
      obtain ⟨z13, ez13, iz13, rz13, bz13, hf⟩ := cc_r_s hw hf
      refine cw_aldB B hw rz13 iz12 bz13 ez13 dX5_add_54 ?_
      obtain ⟨σ14, eσ14, rσ14, bσ14, hf⟩ := cc_w_s hf
      refine cw_astB B hw rσ14 iz11 bσ14 eσ14 dX5_add_55 (fun H locs hw => ?_)
      obtain ⟨z15, ez15, iz15, hf⟩ := cc_ck_s hf
      refine cl_iinc (v := rI z15) (lv' := [(4, .int (rI z15)), (0, cR x0), (1, cR x1), (2, .int (rI x2)), (3, .int (rI x3))]) hx hb dX5_add_56 hl (k := 4) rfl (by rw [ez15]; exact rI_add _ _) (by decide) rfl (fun ls hl => ?_)
      refine lv_goto (tgt := 29) hx hb dX5_add_59 (by decide) ?_
      exact ih σ14 x0 x1 x2 x3 z15 ix0 ix1 ix2 ix3 iz15 hf _ _ _ _ _ hw (cl_sub hl [1, 2, 3, 4, 0] rfl)

set_option maxHeartbeats 4000000 in
set_option maxRecDepth 100000 in
theorem pw_X5_add_0 {v : cwE} {bd : Nat × Nat} {p : Program} {l : Launch} {e : Env} {s : State} {m : MethodId} {args : Array Value} {below : List Frame} {meth : Method} {c : Code} {d : Nat} {rec : Nat → CS → List Int → CO} {σ0 σ' : CS} {kd : Nat} {r : Int} (hbd : bd = (v.2.2.1, v.2.2.2.1)) (hR : cw_Rec l v d rec) (htr : l.stackTraces = false) (hd5 : 5 ≤ d) (B : cw_B v RX5 p s m args meth c cX5_add 5 none) (hnh : ∀ x ∈ c.exceptionTable.toList, False) : ∀ (σ : CS) (x0 x1 x2 x3 : Int), inR x0 → inR x1 → inR x2 → inR x3 → pc_X5_add_0 rec bd σ x0 x1 x2 x3 = some (σ', kd, r) → ∀ (H : Heap) (locs : List Loc) (cells slots : Nat) (ls : Array Slot), cw_W v s σ0 σ H locs cells slots → cl_has ls 5 [(0, cR x0), (1, cR x1), (2, .int (rI x2)), (3, .int (rI x3))] → W p l e (cw_rm v (d + 1) σ0) s m args below meth c H locs cells slots (cw_Z below v σ0 σ' kd none args s) (F0 m 0 ls []) := by
  subst hbd
  obtain ⟨hx, hb, hr, hml, hown, hts, hlk, hK⟩ := id B
  intro σ x0 x1 x2 x3 ix0 ix1 ix2 ix3 hf H locs cells slots ls hw hl
  unfold pc_X5_add_0 at hf
  refine cl_aload_n hx hb dX5_add_0 rfl (lv_at hl.1 0 rfl) ?_
  obtain ⟨qσ1, hf⟩ := cc_t_s hf
  obtain ⟨σ1, kv2, z3, hσ1, hf⟩ := cc_cl_s hf
  obtain ⟨iz3, mσ1⟩ := hR 57 σ [x0] σ1 kv2 z3 hσ1
  have mσ1 : cw_Met l v yX5_isFull cX5_isFull 1 (some .boolean) d [cR x0] σ σ1 kv2 (some (.int (rI z3))) := mσ1 ix0
  refine cw_cv (b := x0) (t := 6) (n := 0) (rest := []) (As := []) B mσ1 qσ1 ⟨by decide, by decide⟩ cgo_yX5_isFull cml_5_27 cin_yX5_isFull cse_yX5_isFull (by decide +kernel) (by decide) rfl hl.1.1 (Nat.le_of_ble_eq_true rfl) dX5_add_1 rfl hw (fun h0 H locs cells slots hw => ?_) (fun h0 H locs cells slots q ce hw h1 h2 h3 => ?_)
  · rcases hf with ⟨-, hf⟩ | ⟨hk, -⟩
    · skip
      refine rn_if_ne (a := z3) (tgt := 25) hx hb iz3 dX5_add_4 (by decide) (fun c4 => ?_) (fun c4 => ?_)
      · replace hf := cc_if_t hf c4
        exact cw_retv B hf hw dX5_add_25
      · replace hf := cc_if_f hf c4
        refine lv_iload_n hx hb dX5_add_7 rfl (lv_at hl.1 3 rfl) ?_
        refine lv_bipush (v := rI 12) hx hb dX5_add_8 (by decide +kernel) ?_
        refine rn_icmp_gt (a := x3) (b := 12) (tgt := 25) hx hb ix3 ⟨by decide, by decide⟩ dX5_add_10 (by decide) (fun c5 => ?_) (fun c5 => ?_)
        · replace hf := cc_if_t hf c5
          exact cw_retv B hf hw dX5_add_25
        · replace hf := cc_if_f hf c5
          refine lv_iload_n hx hb dX5_add_13 rfl (lv_at hl.1 2 rfl) ?_
          refine rn_if_lt (a := x2) (tgt := 25) hx hb ix2 dX5_add_14 (by decide) (fun c6 => ?_) (fun c6 => ?_)
          · replace hf := cc_if_t hf c6
            exact cw_retv B hf hw dX5_add_25
          · replace hf := cc_if_f hf c6
            refine lv_iload_n hx hb dX5_add_17 rfl (lv_at hl.1 2 rfl) ?_
            refine lv_iload_n hx hb dX5_add_18 rfl (lv_at hl.1 3 rfl) ?_
            obtain ⟨z7, ez7, iz7, hf⟩ := cc_ck_s hf
            refine rn_add hx hb ez7 dX5_add_19 ?_
            refine cl_aload_n hx hb dX5_add_20 rfl (lv_at hl.1 1 rfl) ?_
            obtain ⟨z8, ez8, iz8, rz8, hf⟩ := cc_l_s hf
            refine cw_len B hw rz8 (by decide) ez8 iz8 dX5_add_21 ?_
            refine rn_icmp_le (a := z7) (b := z8) (tgt := 26) hx hb iz7 iz8 dX5_add_22 (by decide) (fun c9 => ?_) (fun c9 => ?_)
            · replace hf := cc_if_t hf c9
              refine lv_iconst (v := rI 0) hx hb dX5_add_26 rfl ?_
              refine cl_istore (lv' := [(4, .int (rI 0)), (0, cR x0), (1, cR x1), (2, .int (rI x2)), (3, .int (rI x3))]) hx hb dX5_add_27 hl (by decide) rfl (fun ls hl => ?_)
              exact pw_X5_add_29 rfl hR htr hd5 B hnh 1100000 σ1 x0 x1 x2 x3 0 ix0 ix1 ix2 ix3 ⟨by decide, by decide⟩ hf _ _ _ _ _ hw (cl_sub hl [1, 2, 3, 4, 0] rfl)
            · replace hf := cc_if_f hf c9
              exact cw_retv B hf hw dX5_add_25
    · exact absurd h0 hk
  · rcases hf with ⟨hk, -⟩ | ⟨-, hf⟩
    · exact absurd hk h0
    · cases hf
      exact cw_xout B hnh h0 hw h1 h2 h3

set_option maxHeartbeats 4000000 in
set_option maxRecDepth 100000 in
theorem pm_X5_add {v : cwE} {bd : Nat × Nat} {l : Launch} {d : Nat} {rec : Nat → CS → List Int → CO} (hbd : bd = (v.2.2.1, v.2.2.2.1)) (hR : cw_Rec l v d rec) (htr : l.stackTraces = false) (hd5 : 5 ≤ d) (σ σ' : CS) (x0 x1 x2 x3 : Int) (kd : Nat) (r : Int) (ix0 : inR x0) (ix1 : inR x1) (ix2 : inR x2) (ix3 : inR x3) (hf : pc_X5_add_0 rec bd σ x0 x1 x2 x3 = some (σ', kd, r)) : cw_Met l v yX5_add cX5_add 5 none (d + 1) [cR x0, cR x1, .int (rI x2), .int (rI x3)] σ σ' kd none := by
  refine cw_ofW (by decide +kernel) ?_
  intro p e s m args below meth c s₁ B hml hv
  obtain ⟨rfl, hM, hK⟩ := hv
  have hts := atoms_spec (ws := Cond.code yX5_add cX5_add 5 none :: cw_bw) B.pre
  have hB : cw_B v RX5 p s m _ meth c cX5_add 5 none := ⟨B.exec, B.bytes, B.returns, hml, findClass_of_methodNamed B.named, fun w h => hts w (List.mem_cons_of_mem _ h), B.notSynchronized, hK⟩
  have hnh := cc_nh B (hts _ List.mem_cons_self)
  rw [lg_entry_eq]
  obtain ⟨ls, hls, hl⟩ := cl_ent [cR x0, cR x1, .int (rI x2), .int (rI x3)] 5 (cl_1r (cl_1r (cl_1i (cl_1i cl_10)))) (Nat.le_of_ble_eq_true rfl)
  rw [hls]
  exact pw_X5_add_0 hbd hR htr hd5 hB hnh σ x0 x1 x2 x3 ix0 ix1 ix2 ix3 hf _ _ _ _ _ (cw_W0 hM) (cl_sub hl [0, 1, 2, 3] rfl)

set_option maxHeartbeats 4000000 in
set_option maxRecDepth 100000 in
theorem pw_X5_agree_33 {v : cwE} {bd : Nat × Nat} {p : Program} {l : Launch} {e : Env} {s : State} {m : MethodId} {args : Array Value} {below : List Frame} {meth : Method} {c : Code} {d : Nat} {rec : Nat → CS → List Int → CO} {σ0 σ' : CS} {kd : Nat} {r : Int} (hbd : bd = (v.2.2.1, v.2.2.2.1)) (hR : cw_Rec l v d rec) (htr : l.stackTraces = false) (hd5 : 5 ≤ d) (B : cw_B v RX5 p s m args meth c cX5_agree 6 (some .boolean)) (hnh : ∀ x ∈ c.exceptionTable.toList, False) : ∀ (n : Nat) (σ : CS) (x0 x1 x2 x3 x4 x5 : Int), inR x0 → inR x1 → inR x2 → inR x3 → inR x4 → inR x5 → pc_X5_agree_33 rec bd n σ x0 x1 x2 x3 x4 x5 = some (σ', kd, r) → ∀ (H : Heap) (locs : List Loc) (cells slots : Nat) (ls : Array Slot), cw_W v s σ0 σ H locs cells slots → cl_has ls 6 [(0, cR x0), (1, .int (rI x1)), (2, cR x2), (3, .int (rI x3)), (4, .int (rI x4)), (5, .int (rI x5))] → W p l e (cw_rm v (d + 1) σ0) s m args below meth c H locs cells slots (cw_Z below v σ0 σ' kd (some (.int (rI r))) args s) (F0 m 33 ls []) := by
  subst hbd
  obtain ⟨hx, hb, hr, hml, hown, hts, hlk, hK⟩ := id B
  intro n
  induction n with
  | zero => intro σ x0 x1 x2 x3 x4 x5 ix0 ix1 ix2 ix3 ix4 ix5 hf; cases hf
  | succ n ih =>
    intro σ x0 x1 x2 x3 x4 x5 ix0 ix1 ix2 ix3 ix4 ix5 hf H locs cells slots ls hw hl
    unfold pc_X5_agree_33 at hf
    refine lv_iload hx hb dX5_agree_33 (lv_at hl.1 5 rfl) ?_
    refine lv_iload hx hb dX5_agree_35 (lv_at hl.1 4 rfl) ?_
    refine rn_icmp_ge (a := x5) (b := x4) (tgt := 63) hx hb ix5 ix4 dX5_agree_37 (by decide) (fun c1 => ?_) (fun c1 => ?_)
    · replace hf := cc_if_t hf c1
      refine lv_iconst (v := rI 1) hx hb dX5_agree_63 rfl ?_
      obtain ⟨h01, hf⟩ := cc_bo_s hf
      exact cw_retz B h01 hf hw dX5_agree_64
    · replace hf := cc_if_f hf c1
      refine cl_aload_n hx hb dX5_agree_40 rfl (lv_at hl.1 0 rfl) ?_
      refine lv_iload_n hx hb dX5_agree_41 rfl (lv_at hl.1 1 rfl) ?_
      refine lv_iload hx hb dX5_agree_42 (lv_at hl.1 5 rfl) ?_
      obtain ⟨z2, ez2, iz2, hf⟩ := cc_ck_s hf
      refine rn_add hx hb ez2 dX5_agree_44 ?_
      obtain ⟨z3, ez3, iz3, rz3, bz3, hf⟩ := cc_r_s hw hf
      refine cw_aldB B hw rz3 iz2 bz3 ez3 dX5_agree_45 ?_
      refine cl_aload_n hx hb dX5_agree_46 rfl (lv_at hl.1 2 rfl) ?_
      refine lv_iload_n hx hb dX5_agree_47 rfl (lv_at hl.1 3 rfl) ?_
      refine lv_iload hx hb dX5_agree_48 (lv_at hl.1 5 rfl) ?_
      obtain ⟨z4, ez4, iz4, hf⟩ := cc_ck_s hf
      refine rn_add hx hb ez4 dX5_agree_50 ?_
      obtain ⟨z5, ez5, iz5, rz5, bz5, hf⟩ := cc_r_s hw hf
      refine cw_aldB B hw rz5 iz4 bz5 ez5 dX5_agree_51 ?_
      refine rn_icmp_eq (a := z3) (b := z5) (tgt := 57) hx hb iz3 iz5 dX5_agree_52 (by decide) (fun c6 => ?_) (fun c6 => ?_)
      · replace hf := cc_if_t hf c6
        obtain ⟨z7, ez7, iz7, hf⟩ := cc_ck_s hf
        refine cl_iinc (v := rI z7) (lv' := [(5, .int (rI z7)), (0, cR x0), (1, .int (rI x1)), (2, cR x2), (3, .int (rI x3)), (4, .int (rI x4))]) hx hb dX5_agree_57 hl (k := 5) rfl (by rw [ez7]; exact rI_add _ _) (by decide) rfl (fun ls hl => ?_)
        refine lv_goto (tgt := 33) hx hb dX5_agree_60 (by decide) ?_
        exact ih σ x0 x1 x2 x3 x4 z7 ix0 ix1 ix2 ix3 ix4 iz7 hf _ _ _ _ _ hw (cl_sub hl [1, 2, 3, 4, 5, 0] rfl)
      · replace hf := cc_if_f hf c6
        refine lv_iconst (v := rI 0) hx hb dX5_agree_55 rfl ?_
        obtain ⟨h01, hf⟩ := cc_bo_s hf
        exact cw_retz B h01 hf hw dX5_agree_56

set_option maxHeartbeats 4000000 in
set_option maxRecDepth 100000 in
theorem pw_X5_agree_0 {v : cwE} {bd : Nat × Nat} {p : Program} {l : Launch} {e : Env} {s : State} {m : MethodId} {args : Array Value} {below : List Frame} {meth : Method} {c : Code} {d : Nat} {rec : Nat → CS → List Int → CO} {σ0 σ' : CS} {kd : Nat} {r : Int} (hbd : bd = (v.2.2.1, v.2.2.2.1)) (hR : cw_Rec l v d rec) (htr : l.stackTraces = false) (hd5 : 5 ≤ d) (B : cw_B v RX5 p s m args meth c cX5_agree 6 (some .boolean)) (hnh : ∀ x ∈ c.exceptionTable.toList, False) : ∀ (σ : CS) (x0 x1 x2 x3 x4 : Int), inR x0 → inR x1 → inR x2 → inR x3 → inR x4 → pc_X5_agree_0 rec bd σ x0 x1 x2 x3 x4 = some (σ', kd, r) → ∀ (H : Heap) (locs : List Loc) (cells slots : Nat) (ls : Array Slot), cw_W v s σ0 σ H locs cells slots → cl_has ls 6 [(0, cR x0), (1, .int (rI x1)), (2, cR x2), (3, .int (rI x3)), (4, .int (rI x4))] → W p l e (cw_rm v (d + 1) σ0) s m args below meth c H locs cells slots (cw_Z below v σ0 σ' kd (some (.int (rI r))) args s) (F0 m 0 ls []) := by
  subst hbd
  obtain ⟨hx, hb, hr, hml, hown, hts, hlk, hK⟩ := id B
  intro σ x0 x1 x2 x3 x4 ix0 ix1 ix2 ix3 ix4 hf H locs cells slots ls hw hl
  unfold pc_X5_agree_0 at hf
  refine lv_iload_n hx hb dX5_agree_0 rfl (lv_at hl.1 1 rfl) ?_
  refine rn_if_lt (a := x1) (tgt := 13) hx hb ix1 dX5_agree_1 (by decide) (fun c1 => ?_) (fun c1 => ?_)
  · replace hf := cc_if_t hf c1
    refine lv_iconst (v := rI 0) hx hb dX5_agree_13 rfl ?_
    obtain ⟨h01, hf⟩ := cc_bo_s hf
    exact cw_retz B h01 hf hw dX5_agree_14
  · replace hf := cc_if_f hf c1
    refine lv_iload_n hx hb dX5_agree_4 rfl (lv_at hl.1 1 rfl) ?_
    refine lv_iload hx hb dX5_agree_5 (lv_at hl.1 4 rfl) ?_
    obtain ⟨z2, ez2, iz2, hf⟩ := cc_ck_s hf
    refine rn_add hx hb ez2 dX5_agree_7 ?_
    refine cl_aload_n hx hb dX5_agree_8 rfl (lv_at hl.1 0 rfl) ?_
    obtain ⟨z3, ez3, iz3, rz3, hf⟩ := cc_l_s hf
    refine cw_len B hw rz3 (by decide) ez3 iz3 dX5_agree_9 ?_
    refine rn_icmp_le (a := z2) (b := z3) (tgt := 15) hx hb iz2 iz3 dX5_agree_10 (by decide) (fun c4 => ?_) (fun c4 => ?_)
    · replace hf := cc_if_t hf c4
      refine lv_iload_n hx hb dX5_agree_15 rfl (lv_at hl.1 3 rfl) ?_
      refine rn_if_lt (a := x3) (tgt := 28) hx hb ix3 dX5_agree_16 (by decide) (fun c5 => ?_) (fun c5 => ?_)
      · replace hf := cc_if_t hf c5
        refine lv_iconst (v := rI 0) hx hb dX5_agree_28 rfl ?_
        obtain ⟨h01, hf⟩ := cc_bo_s hf
        exact cw_retz B h01 hf hw dX5_agree_29
      · replace hf := cc_if_f hf c5
        refine lv_iload_n hx hb dX5_agree_19 rfl (lv_at hl.1 3 rfl) ?_
        refine lv_iload hx hb dX5_agree_20 (lv_at hl.1 4 rfl) ?_
        obtain ⟨z6, ez6, iz6, hf⟩ := cc_ck_s hf
        refine rn_add hx hb ez6 dX5_agree_22 ?_
        refine cl_aload_n hx hb dX5_agree_23 rfl (lv_at hl.1 2 rfl) ?_
        obtain ⟨z7, ez7, iz7, rz7, hf⟩ := cc_l_s hf
        refine cw_len B hw rz7 (by decide) ez7 iz7 dX5_agree_24 ?_
        refine rn_icmp_le (a := z6) (b := z7) (tgt := 30) hx hb iz6 iz7 dX5_agree_25 (by decide) (fun c8 => ?_) (fun c8 => ?_)
        · replace hf := cc_if_t hf c8
          refine lv_iconst (v := rI 0) hx hb dX5_agree_30 rfl ?_
          refine cl_istore (lv' := [(5, .int (rI 0)), (0, cR x0), (1, .int (rI x1)), (2, cR x2), (3, .int (rI x3)), (4, .int (rI x4))]) hx hb dX5_agree_31 hl (by decide) rfl (fun ls hl => ?_)
          exact pw_X5_agree_33 rfl hR htr hd5 B hnh 1100000 σ x0 x1 x2 x3 x4 0 ix0 ix1 ix2 ix3 ix4 ⟨by decide, by decide⟩ hf _ _ _ _ _ hw (cl_sub hl [1, 2, 3, 4, 5, 0] rfl)
        · replace hf := cc_if_f hf c8
          refine lv_iconst (v := rI 0) hx hb dX5_agree_28 rfl ?_
          obtain ⟨h01, hf⟩ := cc_bo_s hf
          exact cw_retz B h01 hf hw dX5_agree_29
    · replace hf := cc_if_f hf c4
      refine lv_iconst (v := rI 0) hx hb dX5_agree_13 rfl ?_
      obtain ⟨h01, hf⟩ := cc_bo_s hf
      exact cw_retz B h01 hf hw dX5_agree_14

set_option maxHeartbeats 4000000 in
set_option maxRecDepth 100000 in
theorem pm_X5_agree {v : cwE} {bd : Nat × Nat} {l : Launch} {d : Nat} {rec : Nat → CS → List Int → CO} (hbd : bd = (v.2.2.1, v.2.2.2.1)) (hR : cw_Rec l v d rec) (htr : l.stackTraces = false) (hd5 : 5 ≤ d) (σ σ' : CS) (x0 x1 x2 x3 x4 : Int) (kd : Nat) (r : Int) (ix0 : inR x0) (ix1 : inR x1) (ix2 : inR x2) (ix3 : inR x3) (ix4 : inR x4) (hf : pc_X5_agree_0 rec bd σ x0 x1 x2 x3 x4 = some (σ', kd, r)) : cw_Met l v yX5_agree cX5_agree 6 (some .boolean) (d + 1) [cR x0, .int (rI x1), cR x2, .int (rI x3), .int (rI x4)] σ σ' kd (some (.int (rI r))) := by
  refine cw_ofW (by decide +kernel) ?_
  intro p e s m args below meth c s₁ B hml hv
  obtain ⟨rfl, hM, hK⟩ := hv
  have hts := atoms_spec (ws := Cond.code yX5_agree cX5_agree 6 (some .boolean) :: cw_bw) B.pre
  have hB : cw_B v RX5 p s m _ meth c cX5_agree 6 (some .boolean) := ⟨B.exec, B.bytes, B.returns, hml, findClass_of_methodNamed B.named, fun w h => hts w (List.mem_cons_of_mem _ h), B.notSynchronized, hK⟩
  have hnh := cc_nh B (hts _ List.mem_cons_self)
  rw [lg_entry_eq]
  obtain ⟨ls, hls, hl⟩ := cl_ent [cR x0, .int (rI x1), cR x2, .int (rI x3), .int (rI x4)] 6 (cl_1r (cl_1i (cl_1r (cl_1i (cl_1i cl_10))))) (Nat.le_of_ble_eq_true rfl)
  rw [hls]
  exact pw_X5_agree_0 hbd hR htr hd5 hB hnh σ x0 x1 x2 x3 x4 ix0 ix1 ix2 ix3 ix4 hf _ _ _ _ _ (cw_W0 hM) (cl_sub hl [0, 1, 2, 3, 4] rfl)

set_option maxHeartbeats 4000000 in
set_option maxRecDepth 100000 in
theorem pw_X5_find_44 {v : cwE} {bd : Nat × Nat} {p : Program} {l : Launch} {e : Env} {s : State} {m : MethodId} {args : Array Value} {below : List Frame} {meth : Method} {c : Code} {d : Nat} {rec : Nat → CS → List Int → CO} {σ0 σ' : CS} {kd : Nat} {r : Int} (hbd : bd = (v.2.2.1, v.2.2.2.1)) (hR : cw_Rec l v d rec) (htr : l.stackTraces = false) (hd5 : 5 ≤ d) (B : cw_B v RX5 p s m args meth c cX5_find 5 (some .int)) (hnh : ∀ x ∈ c.exceptionTable.toList, False) (k3 : CS → Int → Int → Int → Int → Int → CO) (hk3 : ∀ (σ : CS) (x0 x1 x2 x3 x4 : Int), inR x0 → inR x1 → inR x2 → inR x3 → inR x4 → k3 σ x0 x1 x2 x3 x4 = some (σ', kd, r) → ∀ (H : Heap) (locs : List Loc) (cells slots : Nat) (ls : Array Slot), cw_W v s σ0 σ H locs cells slots → cl_has ls 5 [(0, cR x0), (1, cR x1), (2, .int (rI x2)), (3, .int (rI x3)), (4, .int (rI x4))] → W p l e (cw_rm v (d + 1) σ0) s m args below meth c H locs cells slots (cw_Z below v σ0 σ' kd (some (.int (rI r))) args s) (F0 m 3 ls [])) : ∀ (σ : CS) (x0 x1 x2 x3 x4 : Int), inR x0 → inR x1 → inR x2 → inR x3 → inR x4 → pc_X5_find_44 rec bd k3 σ x0 x1 x2 x3 x4 = some (σ', kd, r) → ∀ (H : Heap) (locs : List Loc) (cells slots : Nat) (ls : Array Slot), cw_W v s σ0 σ H locs cells slots → cl_has ls 5 [(0, cR x0), (1, cR x1), (2, .int (rI x2)), (3, .int (rI x3)), (4, .int (rI x4))] → W p l e (cw_rm v (d + 1) σ0) s m args below meth c H locs cells slots (cw_Z below v σ0 σ' kd (some (.int (rI r))) args s) (F0 m 44 ls []) := by
  subst hbd
  obtain ⟨hx, hb, hr, hml, hown, hts, hlk, hK⟩ := id B
  intro σ x0 x1 x2 x3 x4 ix0 ix1 ix2 ix3 ix4 hf H locs cells slots ls hw hl
  unfold pc_X5_find_44 at hf
  obtain ⟨z1, ez1, iz1, hf⟩ := cc_ck_s hf
  refine cl_iinc (v := rI z1) (lv' := [(4, .int (rI z1)), (0, cR x0), (1, cR x1), (2, .int (rI x2)), (3, .int (rI x3))]) hx hb dX5_find_44 hl (k := 4) rfl (by rw [ez1]; exact rI_add _ _) (by decide) rfl (fun ls hl => ?_)
  refine lv_goto (tgt := 3) hx hb dX5_find_47 (by decide) ?_
  exact hk3 σ x0 x1 x2 x3 z1 ix0 ix1 ix2 ix3 iz1 hf _ _ _ _ _ hw (cl_sub hl [1, 2, 3, 4, 0] rfl)

set_option maxHeartbeats 4000000 in
set_option maxRecDepth 100000 in
theorem pw_X5_find_3 {v : cwE} {bd : Nat × Nat} {p : Program} {l : Launch} {e : Env} {s : State} {m : MethodId} {args : Array Value} {below : List Frame} {meth : Method} {c : Code} {d : Nat} {rec : Nat → CS → List Int → CO} {σ0 σ' : CS} {kd : Nat} {r : Int} (hbd : bd = (v.2.2.1, v.2.2.2.1)) (hR : cw_Rec l v d rec) (htr : l.stackTraces = false) (hd5 : 5 ≤ d) (B : cw_B v RX5 p s m args meth c cX5_find 5 (some .int)) (hnh : ∀ x ∈ c.exceptionTable.toList, False) : ∀ (n : Nat) (σ : CS) (x0 x1 x2 x3 x4 : Int), inR x0 → inR x1 → inR x2 → inR x3 → inR x4 → pc_X5_find_3 rec bd n σ x0 x1 x2 x3 x4 = some (σ', kd, r) → ∀ (H : Heap) (locs : List Loc) (cells slots : Nat) (ls : Array Slot), cw_W v s σ0 σ H locs cells slots → cl_has ls 5 [(0, cR x0), (1, cR x1), (2, .int (rI x2)), (3, .int (rI x3)), (4, .int (rI x4))] → W p l e (cw_rm v (d + 1) σ0) s m args below meth c H locs cells slots (cw_Z below v σ0 σ' kd (some (.int (rI r))) args s) (F0 m 3 ls []) := by
  subst hbd
  obtain ⟨hx, hb, hr, hml, hown, hts, hlk, hK⟩ := id B
  intro n
  induction n with
  | zero => intro σ x0 x1 x2 x3 x4 ix0 ix1 ix2 ix3 ix4 hf; cases hf
  | succ n ih =>
    intro σ x0 x1 x2 x3 x4 ix0 ix1 ix2 ix3 ix4 hf H locs cells slots ls hw hl
    unfold pc_X5_find_3 at hf
    refine lv_iload hx hb dX5_find_3 (lv_at hl.1 4 rfl) ?_
    refine cl_aload_n hx hb dX5_find_5 rfl (lv_at hl.1 0 rfl) ?_
    obtain ⟨z1, ez1, iz1, rz1, hf⟩ := cc_g_s hw hf
    refine cw_get (val := .int (rI z1)) B hw rz1 ⟨by decide, by decide⟩ (by decide) cwi_6 cfl_5_9 ez1 rfl dX5_find_6 ?_
    refine rn_icmp_ge (a := x4) (b := z1) (tgt := 50) hx hb ix4 iz1 dX5_find_9 (by decide) (fun c2 => ?_) (fun c2 => ?_)
    · replace hf := cc_if_t hf c2
      refine lv_iconst (v := rI (-1)) hx hb dX5_find_50 rfl ?_
      exact cw_reti B hf hw dX5_find_51
    · replace hf := cc_if_f hf c2
      refine cl_aload_n hx hb dX5_find_12 rfl (lv_at hl.1 0 rfl) ?_
      obtain ⟨z3, ez3, iz3, rz3, hf⟩ := cc_g_s hw hf
      refine cw_get (val := cR z3) B hw rz3 ⟨by decide, by decide⟩ (by decide) cwi_6 cfl_5_19 ez3 rfl dX5_find_13 ?_
      refine lv_iload hx hb dX5_find_16 (lv_at hl.1 4 rfl) ?_
      obtain ⟨z4, ez4, iz4, rz4, bz4, hf⟩ := cc_r_s hw hf
      refine cw_aldI B hw rz4 ix4 bz4 ez4 dX5_find_18 ?_
      refine lv_iload_n hx hb dX5_find_19 rfl (lv_at hl.1 3 rfl) ?_
      refine rn_icmp_ne (a := z4) (b := x3) (tgt := 44) hx hb iz4 ix3 dX5_find_20 (by decide) (fun c5 => ?_) (fun c5 => ?_)
      · replace hf := cc_if_t hf c5
        exact pw_X5_find_44 rfl hR htr hd5 B hnh (pc_X5_find_3 rec (v.2.2.1, v.2.2.2.1) n) ih σ x0 x1 x2 x3 x4 ix0 ix1 ix2 ix3 ix4 hf _ _ _ _ _ hw (cl_sub hl [0, 1, 2, 3, 4] rfl)
      · replace hf := cc_if_f hf c5
        refine cl_aload_n hx hb dX5_find_23 rfl (lv_at hl.1 0 rfl) ?_
        obtain ⟨z6, ez6, iz6, rz6, hf⟩ := cc_g_s hw hf
        refine cw_get (val := cR z6) B hw rz6 ⟨by decide, by decide⟩ (by decide) cwi_6 cfl_5_15 ez6 rfl dX5_find_24 ?_
        refine lv_iload hx hb dX5_find_27 (lv_at hl.1 4 rfl) ?_
        refine lv_bipush (v := rI 12) hx hb dX5_find_29 (by decide +kernel) ?_
        obtain ⟨z7, ez7, iz7, hf⟩ := cc_ck_s hf
        refine rn_mul hx hb ez7 dX5_find_31 ?_
        refine cl_aload_n hx hb dX5_find_32 rfl (lv_at hl.1 1 rfl) ?_
        refine lv_iload_n hx hb dX5_find_33 rfl (lv_at hl.1 2 rfl) ?_
        refine lv_iload_n hx hb dX5_find_34 rfl (lv_at hl.1 3 rfl) ?_
        obtain ⟨σ8, kv9, z10, hσ8, hf⟩ := cc_cl_s hf
        obtain ⟨iz10, mσ8⟩ := hR 53 σ [z6, z7, x1, x2, x3] σ8 kv9 z10 hσ8
        have mσ8 : cw_Met l v yX5_agree cX5_agree 6 (some .boolean) d [cR z6, .int (rI z7), cR x1, .int (rI x2), .int (rI x3)] σ σ8 kv9 (some (.int (rI z10))) := mσ8 iz6 iz7 ix1 ix2 ix3
        refine cw_cs (n := 5) (rest := []) (As := [cR z6, .int (rI z7), cR x1, .int (rI x2), .int (rI x3)]) B mσ8 cgo_yX5_agree cml_5_23 cst_yX5_agree (by decide +kernel) (by decide) rfl hl.1.1 (Nat.le_of_ble_eq_true rfl) dX5_find_35 rfl hw (fun h0 H locs cells slots hw => ?_) (fun h0 H locs cells slots q ce hw h1 h2 h3 => ?_)
        · rcases hf with ⟨-, hf⟩ | ⟨hk, -⟩
          · skip
            refine rn_if_eq (a := z10) (tgt := 44) hx hb iz10 dX5_find_38 (by decide) (fun c11 => ?_) (fun c11 => ?_)
            · replace hf := cc_if_t hf c11
              exact pw_X5_find_44 rfl hR htr hd5 B hnh (pc_X5_find_3 rec (v.2.2.1, v.2.2.2.1) n) ih σ8 x0 x1 x2 x3 x4 ix0 ix1 ix2 ix3 ix4 hf _ _ _ _ _ hw (cl_sub hl [0, 1, 2, 3, 4] rfl)
            · replace hf := cc_if_f hf c11
              refine lv_iload hx hb dX5_find_41 (lv_at hl.1 4 rfl) ?_
              exact cw_reti B hf hw dX5_find_43
          · exact absurd h0 hk
        · rcases hf with ⟨hk, -⟩ | ⟨-, hf⟩
          · exact absurd hk h0
          · cases hf
            exact cw_xout B hnh h0 hw h1 h2 h3

set_option maxHeartbeats 4000000 in
set_option maxRecDepth 100000 in
theorem pw_X5_find_0 {v : cwE} {bd : Nat × Nat} {p : Program} {l : Launch} {e : Env} {s : State} {m : MethodId} {args : Array Value} {below : List Frame} {meth : Method} {c : Code} {d : Nat} {rec : Nat → CS → List Int → CO} {σ0 σ' : CS} {kd : Nat} {r : Int} (hbd : bd = (v.2.2.1, v.2.2.2.1)) (hR : cw_Rec l v d rec) (htr : l.stackTraces = false) (hd5 : 5 ≤ d) (B : cw_B v RX5 p s m args meth c cX5_find 5 (some .int)) (hnh : ∀ x ∈ c.exceptionTable.toList, False) : ∀ (σ : CS) (x0 x1 x2 x3 : Int), inR x0 → inR x1 → inR x2 → inR x3 → pc_X5_find_0 rec bd σ x0 x1 x2 x3 = some (σ', kd, r) → ∀ (H : Heap) (locs : List Loc) (cells slots : Nat) (ls : Array Slot), cw_W v s σ0 σ H locs cells slots → cl_has ls 5 [(0, cR x0), (1, cR x1), (2, .int (rI x2)), (3, .int (rI x3))] → W p l e (cw_rm v (d + 1) σ0) s m args below meth c H locs cells slots (cw_Z below v σ0 σ' kd (some (.int (rI r))) args s) (F0 m 0 ls []) := by
  subst hbd
  obtain ⟨hx, hb, hr, hml, hown, hts, hlk, hK⟩ := id B
  intro σ x0 x1 x2 x3 ix0 ix1 ix2 ix3 hf H locs cells slots ls hw hl
  unfold pc_X5_find_0 at hf
  refine lv_iconst (v := rI 0) hx hb dX5_find_0 rfl ?_
  refine cl_istore (lv' := [(4, .int (rI 0)), (0, cR x0), (1, cR x1), (2, .int (rI x2)), (3, .int (rI x3))]) hx hb dX5_find_1 hl (by decide) rfl (fun ls hl => ?_)
  exact pw_X5_find_3 rfl hR htr hd5 B hnh 1100000 σ x0 x1 x2 x3 0 ix0 ix1 ix2 ix3 ⟨by decide, by decide⟩ hf _ _ _ _ _ hw (cl_sub hl [1, 2, 3, 4, 0] rfl)

set_option maxHeartbeats 4000000 in
set_option maxRecDepth 100000 in
theorem pm_X5_find {v : cwE} {bd : Nat × Nat} {l : Launch} {d : Nat} {rec : Nat → CS → List Int → CO} (hbd : bd = (v.2.2.1, v.2.2.2.1)) (hR : cw_Rec l v d rec) (htr : l.stackTraces = false) (hd5 : 5 ≤ d) (σ σ' : CS) (x0 x1 x2 x3 : Int) (kd : Nat) (r : Int) (ix0 : inR x0) (ix1 : inR x1) (ix2 : inR x2) (ix3 : inR x3) (hf : pc_X5_find_0 rec bd σ x0 x1 x2 x3 = some (σ', kd, r)) : cw_Met l v yX5_find cX5_find 5 (some .int) (d + 1) [cR x0, cR x1, .int (rI x2), .int (rI x3)] σ σ' kd (some (.int (rI r))) := by
  refine cw_ofW (by decide +kernel) ?_
  intro p e s m args below meth c s₁ B hml hv
  obtain ⟨rfl, hM, hK⟩ := hv
  have hts := atoms_spec (ws := Cond.code yX5_find cX5_find 5 (some .int) :: cw_bw) B.pre
  have hB : cw_B v RX5 p s m _ meth c cX5_find 5 (some .int) := ⟨B.exec, B.bytes, B.returns, hml, findClass_of_methodNamed B.named, fun w h => hts w (List.mem_cons_of_mem _ h), B.notSynchronized, hK⟩
  have hnh := cc_nh B (hts _ List.mem_cons_self)
  rw [lg_entry_eq]
  obtain ⟨ls, hls, hl⟩ := cl_ent [cR x0, cR x1, .int (rI x2), .int (rI x3)] 5 (cl_1r (cl_1r (cl_1i (cl_1i cl_10)))) (Nat.le_of_ble_eq_true rfl)
  rw [hls]
  exact pw_X5_find_0 hbd hR htr hd5 hB hnh σ x0 x1 x2 x3 ix0 ix1 ix2 ix3 hf _ _ _ _ _ (cw_W0 hM) (cl_sub hl [0, 1, 2, 3] rfl)

set_option maxHeartbeats 4000000 in
set_option maxRecDepth 100000 in
theorem pw_X5_has_0 {v : cwE} {bd : Nat × Nat} {p : Program} {l : Launch} {e : Env} {s : State} {m : MethodId} {args : Array Value} {below : List Frame} {meth : Method} {c : Code} {d : Nat} {rec : Nat → CS → List Int → CO} {σ0 σ' : CS} {kd : Nat} {r : Int} (hbd : bd = (v.2.2.1, v.2.2.2.1)) (hR : cw_Rec l v d rec) (htr : l.stackTraces = false) (hd5 : 5 ≤ d) (B : cw_B v RX5 p s m args meth c cX5_has 2 (some .boolean)) (hnh : ∀ x ∈ c.exceptionTable.toList, False) : ∀ (σ : CS) (x0 x1 : Int), inR x0 → inR x1 → pc_X5_has_0 rec bd σ x0 x1 = some (σ', kd, r) → ∀ (H : Heap) (locs : List Loc) (cells slots : Nat) (ls : Array Slot), cw_W v s σ0 σ H locs cells slots → cl_has ls 2 [(0, cR x0), (1, .int (rI x1))] → W p l e (cw_rm v (d + 1) σ0) s m args below meth c H locs cells slots (cw_Z below v σ0 σ' kd (some (.int (rI r))) args s) (F0 m 0 ls []) := by
  subst hbd
  obtain ⟨hx, hb, hr, hml, hown, hts, hlk, hK⟩ := id B
  intro σ x0 x1 ix0 ix1 hf H locs cells slots ls hw hl
  unfold pc_X5_has_0 at hf
  refine lv_iload_n hx hb dX5_has_0 rfl (lv_at hl.1 1 rfl) ?_
  refine rn_if_lt (a := x1) (tgt := 16) hx hb ix1 dX5_has_1 (by decide) (fun c1 => ?_) (fun c1 => ?_)
  · replace hf := cc_if_t hf c1
    refine lv_iconst (v := rI 0) hx hb dX5_has_16 rfl ?_
    obtain ⟨h01, hf⟩ := cc_bo_s hf
    exact cw_retz B h01 hf hw dX5_has_17
  · replace hf := cc_if_f hf c1
    refine lv_iload_n hx hb dX5_has_4 rfl (lv_at hl.1 1 rfl) ?_
    refine cl_aload_n hx hb dX5_has_5 rfl (lv_at hl.1 0 rfl) ?_
    obtain ⟨z2, ez2, iz2, rz2, hf⟩ := cc_g_s hw hf
    refine cw_get (val := .int (rI z2)) B hw rz2 ⟨by decide, by decide⟩ (by decide) cwi_6 cfl_5_9 ez2 rfl dX5_has_6 ?_
    refine rn_icmp_ge (a := x1) (b := z2) (tgt := 16) hx hb ix1 iz2 dX5_has_9 (by decide) (fun c3 => ?_) (fun c3 => ?_)
    · replace hf := cc_if_t hf c3
      refine lv_iconst (v := rI 0) hx hb dX5_has_16 rfl ?_
      obtain ⟨h01, hf⟩ := cc_bo_s hf
      exact cw_retz B h01 hf hw dX5_has_17
    · replace hf := cc_if_f hf c3
      refine lv_iconst (v := rI 1) hx hb dX5_has_12 rfl ?_
      refine lv_goto (tgt := 17) hx hb dX5_has_13 (by decide) ?_
      obtain ⟨h01, hf⟩ := cc_bo_s hf
      exact cw_retz B h01 hf hw dX5_has_17

set_option maxHeartbeats 4000000 in
set_option maxRecDepth 100000 in
theorem pm_X5_has {v : cwE} {bd : Nat × Nat} {l : Launch} {d : Nat} {rec : Nat → CS → List Int → CO} (hbd : bd = (v.2.2.1, v.2.2.2.1)) (hR : cw_Rec l v d rec) (htr : l.stackTraces = false) (hd5 : 5 ≤ d) (σ σ' : CS) (x0 x1 : Int) (kd : Nat) (r : Int) (ix0 : inR x0) (ix1 : inR x1) (hf : pc_X5_has_0 rec bd σ x0 x1 = some (σ', kd, r)) : cw_Met l v yX5_has cX5_has 2 (some .boolean) (d + 1) [cR x0, .int (rI x1)] σ σ' kd (some (.int (rI r))) := by
  refine cw_ofW (by decide +kernel) ?_
  intro p e s m args below meth c s₁ B hml hv
  obtain ⟨rfl, hM, hK⟩ := hv
  have hts := atoms_spec (ws := Cond.code yX5_has cX5_has 2 (some .boolean) :: cw_bw) B.pre
  have hB : cw_B v RX5 p s m _ meth c cX5_has 2 (some .boolean) := ⟨B.exec, B.bytes, B.returns, hml, findClass_of_methodNamed B.named, fun w h => hts w (List.mem_cons_of_mem _ h), B.notSynchronized, hK⟩
  have hnh := cc_nh B (hts _ List.mem_cons_self)
  rw [lg_entry_eq]
  obtain ⟨ls, hls, hl⟩ := cl_ent [cR x0, .int (rI x1)] 2 (cl_1r (cl_1i cl_10)) (Nat.le_of_ble_eq_true rfl)
  rw [hls]
  exact pw_X5_has_0 hbd hR htr hd5 hB hnh σ x0 x1 ix0 ix1 hf _ _ _ _ _ (cw_W0 hM) (cl_sub hl [0, 1] rfl)

set_option maxHeartbeats 4000000 in
set_option maxRecDepth 100000 in
theorem pw_X5_init_0 {v : cwE} {bd : Nat × Nat} {p : Program} {l : Launch} {e : Env} {s : State} {m : MethodId} {args : Array Value} {below : List Frame} {meth : Method} {c : Code} {d : Nat} {rec : Nat → CS → List Int → CO} {σ0 σ' : CS} {kd : Nat} {r : Int} (hbd : bd = (v.2.2.1, v.2.2.2.1)) (hR : cw_Rec l v d rec) (htr : l.stackTraces = false) (hd5 : 5 ≤ d) (B : cw_B v RX5 p s m args meth c cX5_init 2 none) (hin : meth.name = "<init>") (hnh : ∀ x ∈ c.exceptionTable.toList, False) : ∀ (σ : CS) (x0 x1 : Int), inR x0 → inR x1 → pc_X5_init_0 rec bd σ x0 x1 = some (σ', kd, r) → ∀ (H : Heap) (locs : List Loc) (cells slots : Nat) (ls : Array Slot), cw_W v s σ0 σ H locs cells slots → cl_has ls 2 [(0, cR x0), (1, .int (rI x1))] → W p l e (cw_rm v (d + 1) σ0) s m args below meth c H locs cells slots (cw_Z below v σ0 σ' kd none args s) (F0 m 0 ls []) := by
  subst hbd
  obtain ⟨hx, hb, hr, hml, hown, hts, hlk, hK⟩ := id B
  intro σ x0 x1 ix0 ix1 hf H locs cells slots ls hw hl
  unfold pc_X5_init_0 at hf
  refine cl_aload_n hx hb dX5_init_0 rfl (lv_at hl.1 0 rfl) ?_
  obtain ⟨q0, hf⟩ := cc_t_s hf
  rw [cR_r q0.1]
  refine W.objInit hx hb hown (hts _ coi_5_3) (hts _ coi2) (hts _ coi3) rfl (hl.1.1.trans hml.symm) rfl dX5_init_1 (by show 1 ≤ d + 1; omega) (by show _ + 12 ≤ 100 * (d + 1); simp [JFrame.monitorRoom]; omega) ?_
  refine cl_aload_n hx hb dX5_init_4 rfl (lv_at hl.1 0 rfl) ?_
  refine lv_iconst (v := rI 0) hx hb dX5_init_5 rfl ?_
  obtain ⟨σ1, eσ1, rσ1, hf⟩ := cc_p_s hf
  refine cw_put B hw rσ1 cwt_6 (by decide) rfl cfl_5_9 ⟨by decide, by decide⟩ eσ1 rfl (cw_fv_n rfl rfl) dX5_init_6 (fun H locs hw => ?_)
  refine cl_aload_n hx hb dX5_init_9 rfl (lv_at hl.1 0 rfl) ?_
  refine lv_iload_n hx hb dX5_init_10 rfl (lv_at hl.1 1 rfl) ?_
  refine lv_bipush (v := rI 12) hx hb dX5_init_11 (by decide +kernel) ?_
  obtain ⟨z2, ez2, iz2, hf⟩ := cc_ck_s hf
  refine rn_mul hx hb ez2 dX5_init_13 ?_
  obtain ⟨σ3, z4, eσ3, ez4, iz4, qσ3, rσ3, hf⟩ := cc_na_s hf
  refine cw_newa (t := 20) B hw (Or.inl ⟨rfl, rfl⟩) cac_byte iz2 qσ3.1 qσ3.2 rσ3 eσ3 ez4 dX5_init_14 (fun H hw => ?_)
  obtain ⟨σ5, eσ5, rσ5, hf⟩ := cc_p_s hf
  refine cw_putF B hin hw rσ5 cwt_6 (by decide) rfl rfl rfl cfl_5_15 iz4 eσ5 rfl (cw_fv_r rfl (Or.inr ⟨_, rfl⟩)) dX5_init_16 (fun H locs hw => ?_)
  refine cl_aload_n hx hb dX5_init_19 rfl (lv_at hl.1 0 rfl) ?_
  refine lv_iload_n hx hb dX5_init_20 rfl (lv_at hl.1 1 rfl) ?_
  obtain ⟨σ6, z7, eσ6, ez7, iz7, qσ6, rσ6, hf⟩ := cc_na_s hf
  refine cw_newa (t := 21) B hw (Or.inr ⟨rfl, rfl⟩) cac_int ix1 qσ6.1 qσ6.2 rσ6 eσ6 ez7 dX5_init_21 (fun H hw => ?_)
  obtain ⟨σ8, eσ8, rσ8, hf⟩ := cc_p_s hf
  refine cw_putF B hin hw rσ8 cwt_6 (by decide) rfl rfl rfl cfl_5_19 iz7 eσ8 rfl (cw_fv_r rfl (Or.inr ⟨_, rfl⟩)) dX5_init_23 (fun H locs hw => ?_)
  exact cw_retv B hf hw dX5_init_26

set_option maxHeartbeats 4000000 in
set_option maxRecDepth 100000 in
theorem pm_X5_init {v : cwE} {bd : Nat × Nat} {l : Launch} {d : Nat} {rec : Nat → CS → List Int → CO} (hbd : bd = (v.2.2.1, v.2.2.2.1)) (hR : cw_Rec l v d rec) (htr : l.stackTraces = false) (hd5 : 5 ≤ d) (σ σ' : CS) (x0 x1 : Int) (kd : Nat) (r : Int) (ix0 : inR x0) (ix1 : inR x1) (hf : pc_X5_init_0 rec bd σ x0 x1 = some (σ', kd, r)) : cw_Met l v yX5_init cX5_init 2 none (d + 1) [cR x0, .int (rI x1)] σ σ' kd none := by
  refine cw_ofW (by decide +kernel) ?_
  intro p e s m args below meth c s₁ B hml hv
  obtain ⟨rfl, hM, hK⟩ := hv
  have hts := atoms_spec (ws := Cond.code yX5_init cX5_init 2 none :: cw_bw) B.pre
  have hB : cw_B v RX5 p s m _ meth c cX5_init 2 none := ⟨B.exec, B.bytes, B.returns, hml, findClass_of_methodNamed B.named, fun w h => hts w (List.mem_cons_of_mem _ h), B.notSynchronized, hK⟩
  have hnh := cc_nh B (hts _ List.mem_cons_self)
  rw [lg_entry_eq]
  obtain ⟨ls, hls, hl⟩ := cl_ent [cR x0, .int (rI x1)] 2 (cl_1r (cl_1i cl_10)) (Nat.le_of_ble_eq_true rfl)
  rw [hls]
  exact pw_X5_init_0 hbd hR htr hd5 hB (name_of_methodNamed B.named B.method).1 hnh σ x0 x1 ix0 ix1 hf _ _ _ _ _ (cw_W0 hM) (cl_sub hl [0, 1] rfl)

set_option maxHeartbeats 4000000 in
set_option maxRecDepth 100000 in
theorem pw_X5_isFull_0 {v : cwE} {bd : Nat × Nat} {p : Program} {l : Launch} {e : Env} {s : State} {m : MethodId} {args : Array Value} {below : List Frame} {meth : Method} {c : Code} {d : Nat} {rec : Nat → CS → List Int → CO} {σ0 σ' : CS} {kd : Nat} {r : Int} (hbd : bd = (v.2.2.1, v.2.2.2.1)) (hR : cw_Rec l v d rec) (htr : l.stackTraces = false) (hd5 : 5 ≤ d) (B : cw_B v RX5 p s m args meth c cX5_isFull 1 (some .boolean)) (hnh : ∀ x ∈ c.exceptionTable.toList, False) : ∀ (σ : CS) (x0 : Int), inR x0 → pc_X5_isFull_0 rec bd σ x0 = some (σ', kd, r) → ∀ (H : Heap) (locs : List Loc) (cells slots : Nat) (ls : Array Slot), cw_W v s σ0 σ H locs cells slots → cl_has ls 1 [(0, cR x0)] → W p l e (cw_rm v (d + 1) σ0) s m args below meth c H locs cells slots (cw_Z below v σ0 σ' kd (some (.int (rI r))) args s) (F0 m 0 ls []) := by
  subst hbd
  obtain ⟨hx, hb, hr, hml, hown, hts, hlk, hK⟩ := id B
  intro σ x0 ix0 hf H locs cells slots ls hw hl
  unfold pc_X5_isFull_0 at hf
  refine cl_aload_n hx hb dX5_isFull_0 rfl (lv_at hl.1 0 rfl) ?_
  obtain ⟨z1, ez1, iz1, rz1, hf⟩ := cc_g_s hw hf
  refine cw_get (val := .int (rI z1)) B hw rz1 ⟨by decide, by decide⟩ (by decide) cwi_6 cfl_5_9 ez1 rfl dX5_isFull_1 ?_
  refine cl_aload_n hx hb dX5_isFull_4 rfl (lv_at hl.1 0 rfl) ?_
  obtain ⟨z2, ez2, iz2, rz2, hf⟩ := cc_g_s hw hf
  refine cw_get (val := cR z2) B hw rz2 ⟨by decide, by decide⟩ (by decide) cwi_6 cfl_5_19 ez2 rfl dX5_isFull_5 ?_
  obtain ⟨z3, ez3, iz3, rz3, hf⟩ := cc_l_s hf
  refine cw_len B hw rz3 (by decide) ez3 iz3 dX5_isFull_8 ?_
  refine rn_icmp_lt (a := z1) (b := z3) (tgt := 16) hx hb iz1 iz3 dX5_isFull_9 (by decide) (fun c4 => ?_) (fun c4 => ?_)
  · replace hf := cc_if_t hf c4
    refine lv_iconst (v := rI 0) hx hb dX5_isFull_16 rfl ?_
    obtain ⟨h01, hf⟩ := cc_bo_s hf
    exact cw_retz B h01 hf hw dX5_isFull_17
  · replace hf := cc_if_f hf c4
    refine lv_iconst (v := rI 1) hx hb dX5_isFull_12 rfl ?_
    refine lv_goto (tgt := 17) hx hb dX5_isFull_13 (by decide) ?_
    obtain ⟨h01, hf⟩ := cc_bo_s hf
    exact cw_retz B h01 hf hw dX5_isFull_17

set_option maxHeartbeats 4000000 in
set_option maxRecDepth 100000 in
theorem pm_X5_isFull {v : cwE} {bd : Nat × Nat} {l : Launch} {d : Nat} {rec : Nat → CS → List Int → CO} (hbd : bd = (v.2.2.1, v.2.2.2.1)) (hR : cw_Rec l v d rec) (htr : l.stackTraces = false) (hd5 : 5 ≤ d) (σ σ' : CS) (x0 : Int) (kd : Nat) (r : Int) (ix0 : inR x0) (hf : pc_X5_isFull_0 rec bd σ x0 = some (σ', kd, r)) : cw_Met l v yX5_isFull cX5_isFull 1 (some .boolean) (d + 1) [cR x0] σ σ' kd (some (.int (rI r))) := by
  refine cw_ofW (by decide +kernel) ?_
  intro p e s m args below meth c s₁ B hml hv
  obtain ⟨rfl, hM, hK⟩ := hv
  have hts := atoms_spec (ws := Cond.code yX5_isFull cX5_isFull 1 (some .boolean) :: cw_bw) B.pre
  have hB : cw_B v RX5 p s m _ meth c cX5_isFull 1 (some .boolean) := ⟨B.exec, B.bytes, B.returns, hml, findClass_of_methodNamed B.named, fun w h => hts w (List.mem_cons_of_mem _ h), B.notSynchronized, hK⟩
  have hnh := cc_nh B (hts _ List.mem_cons_self)
  rw [lg_entry_eq]
  obtain ⟨ls, hls, hl⟩ := cl_ent [cR x0] 1 (cl_1r cl_10) (Nat.le_of_ble_eq_true rfl)
  rw [hls]
  exact pw_X5_isFull_0 hbd hR htr hd5 hB hnh σ x0 ix0 hf _ _ _ _ _ (cw_W0 hM) (cl_sub hl [0] rfl)

set_option maxHeartbeats 4000000 in
set_option maxRecDepth 100000 in
theorem pw_X5_signOf_0 {v : cwE} {bd : Nat × Nat} {p : Program} {l : Launch} {e : Env} {s : State} {m : MethodId} {args : Array Value} {below : List Frame} {meth : Method} {c : Code} {d : Nat} {rec : Nat → CS → List Int → CO} {σ0 σ' : CS} {kd : Nat} {r : Int} (hbd : bd = (v.2.2.1, v.2.2.2.1)) (hR : cw_Rec l v d rec) (htr : l.stackTraces = false) (hd5 : 5 ≤ d) (B : cw_B v RX5 p s m args meth c cX5_signOf 3 (some .int)) (hnh : ∀ x ∈ c.exceptionTable.toList, False) : ∀ (σ : CS) (x0 x1 x2 : Int), inR x0 → inR x1 → inR x2 → pc_X5_signOf_0 rec bd σ x0 x1 x2 = some (σ', kd, r) → ∀ (H : Heap) (locs : List Loc) (cells slots : Nat) (ls : Array Slot), cw_W v s σ0 σ H locs cells slots → cl_has ls 3 [(0, cR x0), (1, .int (rI x1)), (2, .int (rI x2))] → W p l e (cw_rm v (d + 1) σ0) s m args below meth c H locs cells slots (cw_Z below v σ0 σ' kd (some (.int (rI r))) args s) (F0 m 0 ls []) := by
  subst hbd
  obtain ⟨hx, hb, hr, hml, hown, hts, hlk, hK⟩ := id B
  intro σ x0 x1 x2 ix0 ix1 ix2 hf H locs cells slots ls hw hl
  unfold pc_X5_signOf_0 at hf
  refine cl_aload_n hx hb dX5_signOf_0 rfl (lv_at hl.1 0 rfl) ?_
  refine lv_iload_n hx hb dX5_signOf_1 rfl (lv_at hl.1 1 rfl) ?_
  obtain ⟨qσ1, hf⟩ := cc_t_s hf
  obtain ⟨σ1, kv2, z3, hσ1, hf⟩ := cc_cl_s hf
  obtain ⟨iz3, mσ1⟩ := hR 55 σ [x0, x1] σ1 kv2 z3 hσ1
  have mσ1 : cw_Met l v yX5_has cX5_has 2 (some .boolean) d [cR x0, .int (rI x1)] σ σ1 kv2 (some (.int (rI z3))) := mσ1 ix0 ix1
  refine cw_cv (b := x0) (t := 6) (n := 1) (rest := []) (As := [.int (rI x1)]) B mσ1 qσ1 ⟨by decide, by decide⟩ cgo_yX5_has cml_5_31 cin_yX5_has cse_yX5_has (by decide +kernel) (by decide) rfl hl.1.1 (Nat.le_of_ble_eq_true rfl) dX5_signOf_2 rfl hw (fun h0 H locs cells slots hw => ?_) (fun h0 H locs cells slots q ce hw h1 h2 h3 => ?_)
  · rcases hf with ⟨-, hf⟩ | ⟨hk, -⟩
    · skip
      refine rn_if_eq (a := z3) (tgt := 22) hx hb iz3 dX5_signOf_5 (by decide) (fun c4 => ?_) (fun c4 => ?_)
      · replace hf := cc_if_t hf c4
        refine lv_iconst (v := rI (-1)) hx hb dX5_signOf_22 rfl ?_
        exact cw_reti B hf hw dX5_signOf_23
      · replace hf := cc_if_f hf c4
        refine lv_iload_n hx hb dX5_signOf_8 rfl (lv_at hl.1 2 rfl) ?_
        refine rn_if_lt (a := x2) (tgt := 22) hx hb ix2 dX5_signOf_9 (by decide) (fun c5 => ?_) (fun c5 => ?_)
        · replace hf := cc_if_t hf c5
          refine lv_iconst (v := rI (-1)) hx hb dX5_signOf_22 rfl ?_
          exact cw_reti B hf hw dX5_signOf_23
        · replace hf := cc_if_f hf c5
          refine lv_iload_n hx hb dX5_signOf_12 rfl (lv_at hl.1 2 rfl) ?_
          refine cl_aload_n hx hb dX5_signOf_13 rfl (lv_at hl.1 0 rfl) ?_
          obtain ⟨z6, ez6, iz6, rz6, hf⟩ := cc_g_s hw hf
          refine cw_get (val := cR z6) B hw rz6 ⟨by decide, by decide⟩ (by decide) cwi_6 cfl_5_19 ez6 rfl dX5_signOf_14 ?_
          refine lv_iload_n hx hb dX5_signOf_17 rfl (lv_at hl.1 1 rfl) ?_
          obtain ⟨z7, ez7, iz7, rz7, bz7, hf⟩ := cc_r_s hw hf
          refine cw_aldI B hw rz7 ix1 bz7 ez7 dX5_signOf_18 ?_
          refine rn_icmp_lt (a := x2) (b := z7) (tgt := 24) hx hb ix2 iz7 dX5_signOf_19 (by decide) (fun c8 => ?_) (fun c8 => ?_)
          · replace hf := cc_if_t hf c8
            refine cl_aload_n hx hb dX5_signOf_24 rfl (lv_at hl.1 0 rfl) ?_
            obtain ⟨z9, ez9, iz9, rz9, hf⟩ := cc_g_s hw hf
            refine cw_get (val := cR z9) B hw rz9 ⟨by decide, by decide⟩ (by decide) cwi_6 cfl_5_15 ez9 rfl dX5_signOf_25 ?_
            refine lv_iload_n hx hb dX5_signOf_28 rfl (lv_at hl.1 1 rfl) ?_
            refine lv_bipush (v := rI 12) hx hb dX5_signOf_29 (by decide +kernel) ?_
            obtain ⟨z10, ez10, iz10, hf⟩ := cc_ck_s hf
            refine rn_mul hx hb ez10 dX5_signOf_31 ?_
            refine lv_iload_n hx hb dX5_signOf_32 rfl (lv_at hl.1 2 rfl) ?_
            obtain ⟨z11, ez11, iz11, hf⟩ := cc_ck_s hf
            refine rn_add hx hb ez11 dX5_signOf_33 ?_
            obtain ⟨z12, ez12, iz12, rz12, bz12, hf⟩ := cc_r_s hw hf
            refine cw_aldB B hw rz12 iz11 bz12 ez12 dX5_signOf_34 ?_
            exact cw_reti B hf hw dX5_signOf_35
          · replace hf := cc_if_f hf c8
            refine lv_iconst (v := rI (-1)) hx hb dX5_signOf_22 rfl ?_
            exact cw_reti B hf hw dX5_signOf_23
    · exact absurd h0 hk
  · rcases hf with ⟨hk, -⟩ | ⟨-, hf⟩
    · exact absurd hk h0
    · cases hf
      exact cw_xout B hnh h0 hw h1 h2 h3

set_option maxHeartbeats 4000000 in
set_option maxRecDepth 100000 in
theorem pm_X5_signOf {v : cwE} {bd : Nat × Nat} {l : Launch} {d : Nat} {rec : Nat → CS → List Int → CO} (hbd : bd = (v.2.2.1, v.2.2.2.1)) (hR : cw_Rec l v d rec) (htr : l.stackTraces = false) (hd5 : 5 ≤ d) (σ σ' : CS) (x0 x1 x2 : Int) (kd : Nat) (r : Int) (ix0 : inR x0) (ix1 : inR x1) (ix2 : inR x2) (hf : pc_X5_signOf_0 rec bd σ x0 x1 x2 = some (σ', kd, r)) : cw_Met l v yX5_signOf cX5_signOf 3 (some .int) (d + 1) [cR x0, .int (rI x1), .int (rI x2)] σ σ' kd (some (.int (rI r))) := by
  refine cw_ofW (by decide +kernel) ?_
  intro p e s m args below meth c s₁ B hml hv
  obtain ⟨rfl, hM, hK⟩ := hv
  have hts := atoms_spec (ws := Cond.code yX5_signOf cX5_signOf 3 (some .int) :: cw_bw) B.pre
  have hB : cw_B v RX5 p s m _ meth c cX5_signOf 3 (some .int) := ⟨B.exec, B.bytes, B.returns, hml, findClass_of_methodNamed B.named, fun w h => hts w (List.mem_cons_of_mem _ h), B.notSynchronized, hK⟩
  have hnh := cc_nh B (hts _ List.mem_cons_self)
  rw [lg_entry_eq]
  obtain ⟨ls, hls, hl⟩ := cl_ent [cR x0, .int (rI x1), .int (rI x2)] 3 (cl_1r (cl_1i (cl_1i cl_10))) (Nat.le_of_ble_eq_true rfl)
  rw [hls]
  exact pw_X5_signOf_0 hbd hR htr hd5 hB hnh σ x0 x1 x2 ix0 ix1 ix2 hf _ _ _ _ _ (cw_W0 hM) (cl_sub hl [0, 1, 2] rfl)

set_option maxHeartbeats 4000000 in
set_option maxRecDepth 100000 in
theorem pw_X6_binder_0 {v : cwE} {bd : Nat × Nat} {p : Program} {l : Launch} {e : Env} {s : State} {m : MethodId} {args : Array Value} {below : List Frame} {meth : Method} {c : Code} {d : Nat} {rec : Nat → CS → List Int → CO} {σ0 σ' : CS} {kd : Nat} {r : Int} (hbd : bd = (v.2.2.1, v.2.2.2.1)) (hR : cw_Rec l v d rec) (htr : l.stackTraces = false) (hd5 : 5 ≤ d) (B : cw_B v RX6 p s m args meth c cX6_binder 5 (some (.object "PureHouse$Node"))) (hnh : ∀ x ∈ c.exceptionTable.toList, False) : ∀ (σ : CS) (x0 x1 x2 x3 : Int), inR x0 → inR x1 → inR x2 → inR x3 → pc_X6_binder_0 rec bd σ x0 x1 x2 x3 = some (σ', kd, r) → ∀ (H : Heap) (locs : List Loc) (cells slots : Nat) (ls : Array Slot), cw_W v s σ0 σ H locs cells slots → cl_has ls 5 [(0, .int (rI x0)), (1, .int (rI x1)), (2, cR x2), (3, cR x3)] → W p l e (cw_rm v (d + 1) σ0) s m args below meth c H locs cells slots (cw_Z below v σ0 σ' kd (some (cR r)) args s) (F0 m 0 ls []) := by
  subst hbd
  obtain ⟨hx, hb, hr, hml, hown, hts, hlk, hK⟩ := id B
  intro σ x0 x1 x2 x3 ix0 ix1 ix2 ix3 hf H locs cells slots ls hw hl
  unfold pc_X6_binder_0 at hf
  obtain ⟨σ1, z2, eσ1, ez2, iz2, rσ1, hf⟩ := cc_n_s hf
  refine cw_new B hw cwt_7 rfl cwd_7 cnl_6_10 cni_7 cnz_7 rσ1 eσ1 ez2 dX6_binder_0 (fun H hw => ?_)
  refine lv_dup hx hb dX6_binder_3 (cR_cat _) ?_
  refine lv_iload_n hx hb dX6_binder_4 rfl (lv_at hl.1 0 rfl) ?_
  refine lv_iload_n hx hb dX6_binder_5 rfl (lv_at hl.1 1 rfl) ?_
  obtain ⟨qσ3, hf⟩ := cc_t_s hf
  obtain ⟨σ3, z5, hσ3, hf⟩ := cc_ci_s hf
  obtain ⟨iz5, mσ3⟩ := hR 60 σ1 [z2, x0, x1] σ3 0 z5 hσ3
  have mσ3 : cw_Met l v yX6_init cX6_init 3 none d [cR z2, .int (rI x0), .int (rI x1)] σ1 σ3 0 none := mσ3 iz2 ix0 ix1
  refine cw_ci (b := z2) (n := 2) (rest := [cR z2]) (As := [.int (rI x0), .int (rI x1)]) B mσ3 qσ3.1 rfl cgo_yX6_init cml_6_47 cin_yX6_init (by decide +kernel) (by decide) rfl hl.1.1 (cl_cs (cl_1r cl_10) (Nat.le_of_ble_eq_true rfl)) dX6_binder_6 rfl hw (fun H locs cells slots hw => ?_)
  refine cl_astore (lv' := [(4, cR z2), (0, .int (rI x0)), (1, .int (rI x1)), (2, cR x2), (3, cR x3)]) hx hb dX6_binder_9 hl (by decide) rfl (fun ls hl => ?_)
  refine cl_aload hx hb dX6_binder_11 (lv_at hl.1 0 rfl) ?_
  refine cl_aload_n hx hb dX6_binder_13 rfl (lv_at hl.1 3 rfl) ?_
  obtain ⟨σ6, eσ6, rσ6, hf⟩ := cc_p_s hf
  refine cw_put B hw rσ6 cwt_7 (by decide) rfl cfl_6_24 ix2 eσ6 rfl (cw_fv_r rfl (Or.inl ⟨_, rfl⟩)) dX6_binder_14 (fun H locs hw => ?_)
  refine cl_aload hx hb dX6_binder_17 (lv_at hl.1 0 rfl) ?_
  refine cl_aload_n hx hb dX6_binder_19 rfl (lv_at hl.1 4 rfl) ?_
  obtain ⟨σ7, eσ7, rσ7, hf⟩ := cc_p_s hf
  refine cw_put B hw rσ7 cwt_7 (by decide) rfl cfl_6_28 ix3 eσ7 rfl (cw_fv_r rfl (Or.inl ⟨_, rfl⟩)) dX6_binder_20 (fun H locs hw => ?_)
  refine cl_aload hx hb dX6_binder_23 (lv_at hl.1 0 rfl) ?_
  exact cw_reta B hf hw dX6_binder_25

set_option maxHeartbeats 4000000 in
set_option maxRecDepth 100000 in
theorem pm_X6_binder {v : cwE} {bd : Nat × Nat} {l : Launch} {d : Nat} {rec : Nat → CS → List Int → CO} (hbd : bd = (v.2.2.1, v.2.2.2.1)) (hR : cw_Rec l v d rec) (htr : l.stackTraces = false) (hd5 : 5 ≤ d) (σ σ' : CS) (x0 x1 x2 x3 : Int) (kd : Nat) (r : Int) (ix0 : inR x0) (ix1 : inR x1) (ix2 : inR x2) (ix3 : inR x3) (hf : pc_X6_binder_0 rec bd σ x0 x1 x2 x3 = some (σ', kd, r)) : cw_Met l v yX6_binder cX6_binder 5 (some (.object "PureHouse$Node")) (d + 1) [.int (rI x0), .int (rI x1), cR x2, cR x3] σ σ' kd (some (cR r)) := by
  refine cw_ofW (by decide +kernel) ?_
  intro p e s m args below meth c s₁ B hml hv
  obtain ⟨rfl, hM, hK⟩ := hv
  have hts := atoms_spec (ws := Cond.code yX6_binder cX6_binder 5 (some (.object "PureHouse$Node")) :: cw_bw) B.pre
  have hB : cw_B v RX6 p s m _ meth c cX6_binder 5 (some (.object "PureHouse$Node")) := ⟨B.exec, B.bytes, B.returns, hml, findClass_of_methodNamed B.named, fun w h => hts w (List.mem_cons_of_mem _ h), B.notSynchronized, hK⟩
  have hnh := cc_nh B (hts _ List.mem_cons_self)
  rw [lg_entry_eq]
  obtain ⟨ls, hls, hl⟩ := cl_ent [.int (rI x0), .int (rI x1), cR x2, cR x3] 5 (cl_1i (cl_1i (cl_1r (cl_1r cl_10)))) (Nat.le_of_ble_eq_true rfl)
  rw [hls]
  exact pw_X6_binder_0 hbd hR htr hd5 hB hnh σ x0 x1 x2 x3 ix0 ix1 ix2 ix3 hf _ _ _ _ _ (cw_W0 hM) (cl_sub hl [0, 1, 2, 3] rfl)

set_option maxHeartbeats 4000000 in
set_option maxRecDepth 100000 in
theorem pw_X6_init_0 {v : cwE} {bd : Nat × Nat} {p : Program} {l : Launch} {e : Env} {s : State} {m : MethodId} {args : Array Value} {below : List Frame} {meth : Method} {c : Code} {d : Nat} {rec : Nat → CS → List Int → CO} {σ0 σ' : CS} {kd : Nat} {r : Int} (hbd : bd = (v.2.2.1, v.2.2.2.1)) (hR : cw_Rec l v d rec) (htr : l.stackTraces = false) (hd5 : 5 ≤ d) (B : cw_B v RX6 p s m args meth c cX6_init 3 none) (hin : meth.name = "<init>") (hnh : ∀ x ∈ c.exceptionTable.toList, False) : ∀ (σ : CS) (x0 x1 x2 : Int), inR x0 → inR x1 → inR x2 → pc_X6_init_0 rec bd σ x0 x1 x2 = some (σ', kd, r) → ∀ (H : Heap) (locs : List Loc) (cells slots : Nat) (ls : Array Slot), cw_W v s σ0 σ H locs cells slots → cl_has ls 3 [(0, cR x0), (1, .int (rI x1)), (2, .int (rI x2))] → W p l e (cw_rm v (d + 1) σ0) s m args below meth c H locs cells slots (cw_Z below v σ0 σ' kd none args s) (F0 m 0 ls []) := by
  subst hbd
  obtain ⟨hx, hb, hr, hml, hown, hts, hlk, hK⟩ := id B
  intro σ x0 x1 x2 ix0 ix1 ix2 hf H locs cells slots ls hw hl
  unfold pc_X6_init_0 at hf
  refine cl_aload_n hx hb dX6_init_0 rfl (lv_at hl.1 0 rfl) ?_
  obtain ⟨q0, hf⟩ := cc_t_s hf
  rw [cR_r q0.1]
  refine W.objInit hx hb hown (hts _ coi_6_3) (hts _ coi2) (hts _ coi3) rfl (hl.1.1.trans hml.symm) rfl dX6_init_1 (by show 1 ≤ d + 1; omega) (by show _ + 12 ≤ 100 * (d + 1); simp [JFrame.monitorRoom]; omega) ?_
  refine cl_aload_n hx hb dX6_init_4 rfl (lv_at hl.1 0 rfl) ?_
  refine lv_iconst (v := rI (-1)) hx hb dX6_init_5 rfl ?_
  obtain ⟨σ1, eσ1, rσ1, hf⟩ := cc_p_s hf
  refine cw_put B hw rσ1 cwt_7 (by decide) rfl cfl_6_9 ⟨by decide, by decide⟩ eσ1 rfl (cw_fv_n rfl rfl) dX6_init_6 (fun H locs hw => ?_)
  refine cl_aload_n hx hb dX6_init_9 rfl (lv_at hl.1 0 rfl) ?_
  refine lv_iconst (v := rI (-1)) hx hb dX6_init_10 rfl ?_
  obtain ⟨σ2, eσ2, rσ2, hf⟩ := cc_p_s hf
  refine cw_put B hw rσ2 cwt_7 (by decide) rfl cfl_6_15 ⟨by decide, by decide⟩ eσ2 rfl (cw_fv_n rfl rfl) dX6_init_11 (fun H locs hw => ?_)
  refine cl_aload_n hx hb dX6_init_14 rfl (lv_at hl.1 0 rfl) ?_
  refine lv_iconst (v := rI 0) hx hb dX6_init_15 rfl ?_
  obtain ⟨σ3, eσ3, rσ3, hf⟩ := cc_p_s hf
  refine cw_put B hw rσ3 cwt_7 (by decide) rfl cfl_6_18 ⟨by decide, by decide⟩ eσ3 rfl (cw_fv_n rfl rfl) dX6_init_16 (fun H locs hw => ?_)
  refine cl_aload_n hx hb dX6_init_19 rfl (lv_at hl.1 0 rfl) ?_
  refine lv_iconst (v := rI 0) hx hb dX6_init_20 rfl ?_
  obtain ⟨σ4, eσ4, rσ4, hf⟩ := cc_p_s hf
  refine cw_put B hw rσ4 cwt_7 (by decide) rfl cfl_6_21 ⟨by decide, by decide⟩ eσ4 rfl (cw_fv_n rfl rfl) dX6_init_21 (fun H locs hw => ?_)
  refine cl_aload_n hx hb dX6_init_24 rfl (lv_at hl.1 0 rfl) ?_
  refine cl_null hx hb dX6_init_25 ?_
  obtain ⟨σ5, eσ5, rσ5, hf⟩ := cc_p_s hf
  refine cw_put B hw rσ5 cwt_7 (by decide) rfl cfl_6_24 ⟨by decide, by decide⟩ eσ5 rfl (cw_fv_r rfl (Or.inl ⟨_, rfl⟩)) dX6_init_26 (fun H locs hw => ?_)
  refine cl_aload_n hx hb dX6_init_29 rfl (lv_at hl.1 0 rfl) ?_
  refine cl_null hx hb dX6_init_30 ?_
  obtain ⟨σ6, eσ6, rσ6, hf⟩ := cc_p_s hf
  refine cw_put B hw rσ6 cwt_7 (by decide) rfl cfl_6_28 ⟨by decide, by decide⟩ eσ6 rfl (cw_fv_r rfl (Or.inl ⟨_, rfl⟩)) dX6_init_31 (fun H locs hw => ?_)
  refine cl_aload_n hx hb dX6_init_34 rfl (lv_at hl.1 0 rfl) ?_
  refine cl_null hx hb dX6_init_35 ?_
  obtain ⟨σ7, eσ7, rσ7, hf⟩ := cc_p_s hf
  refine cw_put B hw rσ7 cwt_7 (by decide) rfl cfl_6_31 ⟨by decide, by decide⟩ eσ7 rfl (cw_fv_r rfl (Or.inr ⟨_, rfl⟩)) dX6_init_36 (fun H locs hw => ?_)
  refine cl_aload_n hx hb dX6_init_39 rfl (lv_at hl.1 0 rfl) ?_
  refine lv_iconst (v := rI (-1)) hx hb dX6_init_40 rfl ?_
  obtain ⟨σ8, eσ8, rσ8, hf⟩ := cc_p_s hf
  refine cw_put B hw rσ8 cwt_7 (by decide) rfl cfl_6_35 ⟨by decide, by decide⟩ eσ8 rfl (cw_fv_n rfl rfl) dX6_init_41 (fun H locs hw => ?_)
  refine cl_aload_n hx hb dX6_init_44 rfl (lv_at hl.1 0 rfl) ?_
  refine lv_iconst (v := rI (-1)) hx hb dX6_init_45 rfl ?_
  obtain ⟨σ9, eσ9, rσ9, hf⟩ := cc_p_s hf
  refine cw_put B hw rσ9 cwt_7 (by decide) rfl cfl_6_38 ⟨by decide, by decide⟩ eσ9 rfl (cw_fv_n rfl rfl) dX6_init_46 (fun H locs hw => ?_)
  refine cl_aload_n hx hb dX6_init_49 rfl (lv_at hl.1 0 rfl) ?_
  refine lv_iload_n hx hb dX6_init_50 rfl (lv_at hl.1 1 rfl) ?_
  obtain ⟨σ10, eσ10, rσ10, hf⟩ := cc_p_s hf
  refine cw_put B hw rσ10 cwt_7 (by decide) rfl cfl_6_41 ix1 eσ10 rfl (cw_fv_n rfl rfl) dX6_init_51 (fun H locs hw => ?_)
  refine cl_aload_n hx hb dX6_init_54 rfl (lv_at hl.1 0 rfl) ?_
  refine lv_iload_n hx hb dX6_init_55 rfl (lv_at hl.1 2 rfl) ?_
  obtain ⟨σ11, eσ11, rσ11, hf⟩ := cc_p_s hf
  refine cw_put B hw rσ11 cwt_7 (by decide) rfl cfl_6_44 ix2 eσ11 rfl (cw_fv_n rfl rfl) dX6_init_56 (fun H locs hw => ?_)
  exact cw_retv B hf hw dX6_init_59

set_option maxHeartbeats 4000000 in
set_option maxRecDepth 100000 in
theorem pm_X6_init {v : cwE} {bd : Nat × Nat} {l : Launch} {d : Nat} {rec : Nat → CS → List Int → CO} (hbd : bd = (v.2.2.1, v.2.2.2.1)) (hR : cw_Rec l v d rec) (htr : l.stackTraces = false) (hd5 : 5 ≤ d) (σ σ' : CS) (x0 x1 x2 : Int) (kd : Nat) (r : Int) (ix0 : inR x0) (ix1 : inR x1) (ix2 : inR x2) (hf : pc_X6_init_0 rec bd σ x0 x1 x2 = some (σ', kd, r)) : cw_Met l v yX6_init cX6_init 3 none (d + 1) [cR x0, .int (rI x1), .int (rI x2)] σ σ' kd none := by
  refine cw_ofW (by decide +kernel) ?_
  intro p e s m args below meth c s₁ B hml hv
  obtain ⟨rfl, hM, hK⟩ := hv
  have hts := atoms_spec (ws := Cond.code yX6_init cX6_init 3 none :: cw_bw) B.pre
  have hB : cw_B v RX6 p s m _ meth c cX6_init 3 none := ⟨B.exec, B.bytes, B.returns, hml, findClass_of_methodNamed B.named, fun w h => hts w (List.mem_cons_of_mem _ h), B.notSynchronized, hK⟩
  have hnh := cc_nh B (hts _ List.mem_cons_self)
  rw [lg_entry_eq]
  obtain ⟨ls, hls, hl⟩ := cl_ent [cR x0, .int (rI x1), .int (rI x2)] 3 (cl_1r (cl_1i (cl_1i cl_10))) (Nat.le_of_ble_eq_true rfl)
  rw [hls]
  exact pw_X6_init_0 hbd hR htr hd5 hB (name_of_methodNamed B.named B.method).1 hnh σ x0 x1 x2 ix0 ix1 ix2 hf _ _ _ _ _ (cw_W0 hM) (cl_sub hl [0, 1, 2] rfl)

set_option maxHeartbeats 4000000 in
set_option maxRecDepth 100000 in
theorem pw_X6_keepSorts_0 {v : cwE} {bd : Nat × Nat} {p : Program} {l : Launch} {e : Env} {s : State} {m : MethodId} {args : Array Value} {below : List Frame} {meth : Method} {c : Code} {d : Nat} {rec : Nat → CS → List Int → CO} {σ0 σ' : CS} {kd : Nat} {r : Int} (hbd : bd = (v.2.2.1, v.2.2.2.1)) (hR : cw_Rec l v d rec) (htr : l.stackTraces = false) (hd5 : 5 ≤ d) (B : cw_B v RX6 p s m args meth c cX6_keepSorts 3 none) (hnh : ∀ x ∈ c.exceptionTable.toList, False) : ∀ (σ : CS) (x0 x1 x2 : Int), inR x0 → inR x1 → inR x2 → pc_X6_keepSorts_0 rec bd σ x0 x1 x2 = some (σ', kd, r) → ∀ (H : Heap) (locs : List Loc) (cells slots : Nat) (ls : Array Slot), cw_W v s σ0 σ H locs cells slots → cl_has ls 3 [(0, cR x0), (1, .int (rI x1)), (2, .int (rI x2))] → W p l e (cw_rm v (d + 1) σ0) s m args below meth c H locs cells slots (cw_Z below v σ0 σ' kd none args s) (F0 m 0 ls []) := by
  subst hbd
  obtain ⟨hx, hb, hr, hml, hown, hts, hlk, hK⟩ := id B
  intro σ x0 x1 x2 ix0 ix1 ix2 hf H locs cells slots ls hw hl
  unfold pc_X6_keepSorts_0 at hf
  refine cl_aload_n hx hb dX6_keepSorts_0 rfl (lv_at hl.1 0 rfl) ?_
  refine lv_iload_n hx hb dX6_keepSorts_1 rfl (lv_at hl.1 1 rfl) ?_
  obtain ⟨σ1, eσ1, rσ1, hf⟩ := cc_p_s hf
  refine cw_put B hw rσ1 cwt_7 (by decide) rfl cfl_6_35 ix1 eσ1 rfl (cw_fv_n rfl rfl) dX6_keepSorts_2 (fun H locs hw => ?_)
  refine cl_aload_n hx hb dX6_keepSorts_5 rfl (lv_at hl.1 0 rfl) ?_
  refine lv_iload_n hx hb dX6_keepSorts_6 rfl (lv_at hl.1 2 rfl) ?_
  obtain ⟨σ2, eσ2, rσ2, hf⟩ := cc_p_s hf
  refine cw_put B hw rσ2 cwt_7 (by decide) rfl cfl_6_38 ix2 eσ2 rfl (cw_fv_n rfl rfl) dX6_keepSorts_7 (fun H locs hw => ?_)
  exact cw_retv B hf hw dX6_keepSorts_10

set_option maxHeartbeats 4000000 in
set_option maxRecDepth 100000 in
theorem pm_X6_keepSorts {v : cwE} {bd : Nat × Nat} {l : Launch} {d : Nat} {rec : Nat → CS → List Int → CO} (hbd : bd = (v.2.2.1, v.2.2.2.1)) (hR : cw_Rec l v d rec) (htr : l.stackTraces = false) (hd5 : 5 ≤ d) (σ σ' : CS) (x0 x1 x2 : Int) (kd : Nat) (r : Int) (ix0 : inR x0) (ix1 : inR x1) (ix2 : inR x2) (hf : pc_X6_keepSorts_0 rec bd σ x0 x1 x2 = some (σ', kd, r)) : cw_Met l v yX6_keepSorts cX6_keepSorts 3 none (d + 1) [cR x0, .int (rI x1), .int (rI x2)] σ σ' kd none := by
  refine cw_ofW (by decide +kernel) ?_
  intro p e s m args below meth c s₁ B hml hv
  obtain ⟨rfl, hM, hK⟩ := hv
  have hts := atoms_spec (ws := Cond.code yX6_keepSorts cX6_keepSorts 3 none :: cw_bw) B.pre
  have hB : cw_B v RX6 p s m _ meth c cX6_keepSorts 3 none := ⟨B.exec, B.bytes, B.returns, hml, findClass_of_methodNamed B.named, fun w h => hts w (List.mem_cons_of_mem _ h), B.notSynchronized, hK⟩
  have hnh := cc_nh B (hts _ List.mem_cons_self)
  rw [lg_entry_eq]
  obtain ⟨ls, hls, hl⟩ := cl_ent [cR x0, .int (rI x1), .int (rI x2)] 3 (cl_1r (cl_1i (cl_1i cl_10))) (Nat.le_of_ble_eq_true rfl)
  rw [hls]
  exact pw_X6_keepSorts_0 hbd hR htr hd5 hB hnh σ x0 x1 x2 ix0 ix1 ix2 hf _ _ _ _ _ (cw_W0 hM) (cl_sub hl [0, 1, 2] rfl)

set_option maxHeartbeats 4000000 in
set_option maxRecDepth 100000 in
theorem pw_X6_leaf_0 {v : cwE} {bd : Nat × Nat} {p : Program} {l : Launch} {e : Env} {s : State} {m : MethodId} {args : Array Value} {below : List Frame} {meth : Method} {c : Code} {d : Nat} {rec : Nat → CS → List Int → CO} {σ0 σ' : CS} {kd : Nat} {r : Int} (hbd : bd = (v.2.2.1, v.2.2.2.1)) (hR : cw_Rec l v d rec) (htr : l.stackTraces = false) (hd5 : 5 ≤ d) (B : cw_B v RX6 p s m args meth c cX6_leaf 2 (some (.object "PureHouse$Node"))) (hnh : ∀ x ∈ c.exceptionTable.toList, False) : ∀ (σ : CS) (x0 x1 : Int), inR x0 → inR x1 → pc_X6_leaf_0 rec bd σ x0 x1 = some (σ', kd, r) → ∀ (H : Heap) (locs : List Loc) (cells slots : Nat) (ls : Array Slot), cw_W v s σ0 σ H locs cells slots → cl_has ls 2 [(0, .int (rI x0)), (1, .int (rI x1))] → W p l e (cw_rm v (d + 1) σ0) s m args below meth c H locs cells slots (cw_Z below v σ0 σ' kd (some (cR r)) args s) (F0 m 0 ls []) := by
  subst hbd
  obtain ⟨hx, hb, hr, hml, hown, hts, hlk, hK⟩ := id B
  intro σ x0 x1 ix0 ix1 hf H locs cells slots ls hw hl
  unfold pc_X6_leaf_0 at hf
  obtain ⟨σ1, z2, eσ1, ez2, iz2, rσ1, hf⟩ := cc_n_s hf
  refine cw_new B hw cwt_7 rfl cwd_7 cnl_6_10 cni_7 cnz_7 rσ1 eσ1 ez2 dX6_leaf_0 (fun H hw => ?_)
  refine lv_dup hx hb dX6_leaf_3 (cR_cat _) ?_
  refine lv_iload_n hx hb dX6_leaf_4 rfl (lv_at hl.1 0 rfl) ?_
  refine lv_iload_n hx hb dX6_leaf_5 rfl (lv_at hl.1 1 rfl) ?_
  obtain ⟨qσ3, hf⟩ := cc_t_s hf
  obtain ⟨σ3, z5, hσ3, hf⟩ := cc_ci_s hf
  obtain ⟨iz5, mσ3⟩ := hR 60 σ1 [z2, x0, x1] σ3 0 z5 hσ3
  have mσ3 : cw_Met l v yX6_init cX6_init 3 none d [cR z2, .int (rI x0), .int (rI x1)] σ1 σ3 0 none := mσ3 iz2 ix0 ix1
  refine cw_ci (b := z2) (n := 2) (rest := [cR z2]) (As := [.int (rI x0), .int (rI x1)]) B mσ3 qσ3.1 rfl cgo_yX6_init cml_6_47 cin_yX6_init (by decide +kernel) (by decide) rfl hl.1.1 (cl_cs (cl_1r cl_10) (Nat.le_of_ble_eq_true rfl)) dX6_leaf_6 rfl hw (fun H locs cells slots hw => ?_)
  exact cw_reta B hf hw dX6_leaf_9

