set_option maxHeartbeats 4000000 in
set_option maxRecDepth 100000 in
theorem ps_readStatement_0 {v : rfE} {p : Program} {l : Launch} {e : Env} {s : State} {m : MethodId} {args : Array Value} {below : List Frame} {meth : Method} {c : Code} {d : Nat} {rec : Nat → RS → List Int → Option (RS × Int)} {σ' : RS} {r : Int} (hR : rf_Rec l v d rec) (B : rf_B v p s m args meth c cX12_readStatement 1 none) : ∀ (σ : RS), pf_readStatement_0 rec σ = some (σ', r) → ∀ (H : Heap) (locs : List Loc) (ls : Array Slot), rf_W v s σ H locs → lv_has ls 1 [(0, .ref (rf_h v))] → W p l e (rf_rm (d + 1)) s m args below meth c H locs 0 0 (MQ below (rf_Q v σ' none) args s 0 0 (rf_F v)) (F0 m 0 ls []) := by
  obtain ⟨hx, hb, hr, hml, hown, hts, hlk, hK, hD⟩ := id B
  intro σ hf H locs ls hw hl
  unfold pf_readStatement_0 at hf
  refine lv_aload_n hx hb dX12_readStatement_0 rfl (lv_at hl 0 rfl) ?_
  refine lv_aload_n hx hb dX12_readStatement_1 rfl (lv_at hl 0 rfl) ?_
  obtain ⟨z1, ez1, iz1, hf⟩ := rf_gi_s hw hf
  refine rf_geti B hw 9 (by decide) rfl lk_200 ez1 dX12_readStatement_2 ?_
  obtain ⟨σ2, eσ2, hf⟩ := rf_pi_s hf
  refine rf_put B hw 77 (by decide) rfl rfl lk_275 iz1 eσ2 rfl rfl dX12_readStatement_5 (fun H locs hw => ?_)
  refine lv_aload_n hx hb dX12_readStatement_8 rfl (lv_at hl 0 rfl) ?_
  refine lv_aload_n hx hb dX12_readStatement_9 rfl (lv_at hl 0 rfl) ?_
  obtain ⟨z3, ez3, iz3, hf⟩ := rf_gi_s hw hf
  refine rf_geti B hw 7 (by decide) rfl lk_203 ez3 dX12_readStatement_10 ?_
  refine lv_iconst (v := rI 1) hx hb dX12_readStatement_13 rfl ?_
  refine rn_icmp_ne (a := z3) (b := 1) (tgt := 24) hx hb iz3 ⟨by decide, by decide⟩ dX12_readStatement_14 (by decide) (fun c4 => ?_) (fun c4 => ?_)
  · replace hf := rf_if_t hf c4
    refine lv_iconst (v := rI (-1)) hx hb dX12_readStatement_24 rfl ?_
    exact ps_readStatement_25 hR B σ2 (-1) ⟨by decide, by decide⟩ hf _ _ _ hw (lv_sub hl [0] rfl)
  · replace hf := rf_if_f hf c4
    refine lv_aload_n hx hb dX12_readStatement_17 rfl (lv_at hl 0 rfl) ?_
    obtain ⟨z5, ez5, iz5, hf⟩ := rf_gi_s hw hf
    refine rf_geti B hw 11 (by decide) rfl lk_206 ez5 dX12_readStatement_18 ?_
    refine lv_goto (tgt := 25) hx hb dX12_readStatement_21 (by decide) ?_
    exact ps_readStatement_25 hR B σ2 z5 iz5 hf _ _ _ hw (lv_sub hl [0] rfl)

set_option maxHeartbeats 4000000 in
set_option maxRecDepth 100000 in
theorem pm_readStatement {v : rfE} (hD : rf_D v) {l : Launch} {d : Nat} {rec : Nat → RS → List Int → Option (RS × Int)} (hR : rf_Rec l v d rec) (σ σ' : RS) (r : Int) (hf : pf_readStatement_0 rec σ = some (σ', r)) : rf_Met l v yX12_readStatement cX12_readStatement 1 none (d + 1) [.ref (rf_h v)] σ σ' none := by
  refine Met.ofW (cc := cX12_readStatement) (maxL := 1) (ret := none) (by decide +kernel) rfl ?_
  intro p e s m args below meth c s₁ B hml hv
  obtain ⟨rfl, hM, hK⟩ := hv
  have hts := atoms_spec (ws := Cond.code yX12_readStatement cX12_readStatement 1 none :: rf_bw) B.pre
  have hB : rf_B v p s m _ meth c cX12_readStatement 1 none := ⟨B.exec, B.bytes, B.returns, hml, findClass_of_methodNamed B.named, fun w h => hts w (List.mem_cons_of_mem _ h), B.notSynchronized, hK, hD⟩
  have hl := lv_entry ([.ref (rf_h v)]) (n := 1) (Nat.le_of_ble_eq_true rfl)
  rw [lg_entry_eq]
  generalize (lg_sl ([.ref (rf_h v)]) ++ List.replicate (1 - (lg_sl ([.ref (rf_h v)])).length) Slot.unset).toArray = ls at hl ⊢
  exact ps_readStatement_0 hR hB σ hf _ _ _ ⟨hM, rfl, fun _ _ => rfl, fun q h => by cases h⟩ (lv_sub hl [0] rfl)

set_option maxHeartbeats 4000000 in
set_option maxRecDepth 100000 in
theorem ps_readTold_0 {v : rfE} {p : Program} {l : Launch} {e : Env} {s : State} {m : MethodId} {args : Array Value} {below : List Frame} {meth : Method} {c : Code} {d : Nat} {rec : Nat → RS → List Int → Option (RS × Int)} {σ' : RS} {r : Int} (hR : rf_Rec l v d rec) (B : rf_B v p s m args meth c cX12_readTold 1 none) : ∀ (σ : RS), pf_readTold_0 rec σ = some (σ', r) → ∀ (H : Heap) (locs : List Loc) (ls : Array Slot), rf_W v s σ H locs → lv_has ls 1 [(0, .ref (rf_h v))] → W p l e (rf_rm (d + 1)) s m args below meth c H locs 0 0 (MQ below (rf_Q v σ' none) args s 0 0 (rf_F v)) (F0 m 0 ls []) := by
  obtain ⟨hx, hb, hr, hml, hown, hts, hlk, hK, hD⟩ := id B
  intro σ hf H locs ls hw hl
  unfold pf_readTold_0 at hf
  refine lv_aload_n hx hb dX12_readTold_0 rfl (lv_at hl 0 rfl) ?_
  refine lv_aload_n hx hb dX12_readTold_1 rfl (lv_at hl 0 rfl) ?_
  obtain ⟨σ1, z2, hσ1, hf⟩ := rf_cl_s hf
  obtain ⟨iz2, mσ1⟩ := hR 19 σ [] σ1 z2 hσ1
  have mσ1 : rf_Met l v yX12_nameNode cX12_nameNode 2 (some .int) d [.ref (rf_h v)] σ σ1 (some (.int (rI z2))) := mσ1
  refine rf_cv (n := 0) (rest := [.ref (rf_h v)]) (As := []) B mσ1 g_249_nameNode (by decide +kernel) (by decide) rfl hl.1 (Nat.le_of_ble_eq_true rfl) dX12_readTold_2 rfl hw (fun H locs hw => ?_)
  obtain ⟨σ3, eσ3, hf⟩ := rf_pi_s hf
  refine rf_put B hw 80 (by decide) rfl rfl lk_290 iz2 eσ3 rfl rfl dX12_readTold_5 (fun H locs hw => ?_)
  refine lv_aload_n hx hb dX12_readTold_8 rfl (lv_at hl 0 rfl) ?_
  obtain ⟨z4, ez4, iz4, hf⟩ := rf_gi_s hw hf
  refine rf_geti B hw 72 (by decide) rfl lk_150 ez4 dX12_readTold_9 ?_
  refine rn_if_eq (a := z4) (tgt := 16) hx hb iz4 dX12_readTold_12 (by decide) (fun c5 => ?_) (fun c5 => ?_)
  · replace hf := rf_if_t hf c5
    refine lv_aload_n hx hb dX12_readTold_16 rfl (lv_at hl 0 rfl) ?_
    refine lv_bipush (v := rI 58) hx hb dX12_readTold_17 (by decide +kernel) ?_
    obtain ⟨σ6, z7, hσ6, hf⟩ := rf_cl_s hf
    obtain ⟨iz7, mσ6⟩ := hR 13 σ3 [58] σ6 z7 hσ6
    have mσ6 : rf_Met l v yX12_isSign cX12_isSign 2 (some .boolean) d [.ref (rf_h v), .int (rI 58)] σ3 σ6 (some (.int (rI z7))) := mσ6 ⟨by decide, by decide⟩
    refine rf_cv (n := 1) (rest := []) (As := [.int (rI 58)]) B mσ6 g_228_isSign (by decide +kernel) (by decide) rfl hl.1 (Nat.le_of_ble_eq_true rfl) dX12_readTold_19 rfl hw (fun H locs hw => ?_)
    refine rn_if_eq (a := z7) (tgt := 71) hx hb iz7 dX12_readTold_22 (by decide) (fun c8 => ?_) (fun c8 => ?_)
    · replace hf := rf_if_t hf c8
      refine lv_aload_n hx hb dX12_readTold_71 rfl (lv_at hl 0 rfl) ?_
      refine lv_sipush (v := rI 256) hx hb dX12_readTold_72 (by decide +kernel) ?_
      obtain ⟨σ9, z10, hσ9, hf⟩ := rf_cl_s hf
      obtain ⟨iz10, mσ9⟩ := hR 16 σ6 [256] σ9 z10 hσ9
      have mσ9 : rf_Met l v yX12_need cX12_need 2 none d [.ref (rf_h v), .int (rI 256)] σ6 σ9 none := mσ9 ⟨by decide, by decide⟩
      refine rf_cv (n := 1) (rest := []) (As := [.int (rI 256)]) B mσ9 g_252_need (by decide +kernel) (by decide) rfl hl.1 (Nat.le_of_ble_eq_true rfl) dX12_readTold_75 rfl hw (fun H locs hw => ?_)
      refine lv_aload_n hx hb dX12_readTold_78 rfl (lv_at hl 0 rfl) ?_
      refine lv_aload_n hx hb dX12_readTold_79 rfl (lv_at hl 0 rfl) ?_
      refine lv_iconst (v := rI 0) hx hb dX12_readTold_80 rfl ?_
      obtain ⟨σ11, z12, hσ11, hf⟩ := rf_cl_s hf
      obtain ⟨iz12, mσ11⟩ := hR 20 σ9 [0] σ11 z12 hσ11
      have mσ11 : rf_Met l v yX12_readTerm cX12_readTerm 7 (some .int) d [.ref (rf_h v), .int (rI 0)] σ9 σ11 (some (.int (rI z12))) := mσ11 ⟨by decide, by decide⟩
      refine rf_cv (n := 1) (rest := [.ref (rf_h v)]) (As := [.int (rI 0)]) B mσ11 g_255_readTerm (by decide +kernel) (by decide) rfl hl.1 (Nat.le_of_ble_eq_true rfl) dX12_readTold_81 rfl hw (fun H locs hw => ?_)
      obtain ⟨σ13, eσ13, hf⟩ := rf_pi_s hf
      refine rf_put B hw 78 (by decide) rfl rfl lk_281 iz12 eσ13 rfl rfl dX12_readTold_84 (fun H locs hw => ?_)
      exact rf_retv B hf hw dX12_readTold_87
    · replace hf := rf_if_f hf c8
      refine lv_aload_n hx hb dX12_readTold_25 rfl (lv_at hl 0 rfl) ?_
      obtain ⟨σ14, z15, hσ14, hf⟩ := rf_cl_s hf
      obtain ⟨iz15, mσ14⟩ := hR 10 σ6 [] σ14 z15 hσ14
      have mσ14 : rf_Met l v yX12_next cX12_next 4 none d [.ref (rf_h v)] σ6 σ14 none := mσ14
      refine rf_cv (n := 0) (rest := []) (As := []) B mσ14 g_231_next (by decide +kernel) (by decide) rfl hl.1 (Nat.le_of_ble_eq_true rfl) dX12_readTold_26 rfl hw (fun H locs hw => ?_)
      refine lv_aload_n hx hb dX12_readTold_29 rfl (lv_at hl 0 rfl) ?_
      refine lv_aload_n hx hb dX12_readTold_30 rfl (lv_at hl 0 rfl) ?_
      refine lv_iconst (v := rI 0) hx hb dX12_readTold_31 rfl ?_
      obtain ⟨σ16, z17, hσ16, hf⟩ := rf_cl_s hf
      obtain ⟨iz17, mσ16⟩ := hR 20 σ14 [0] σ16 z17 hσ16
      have mσ16 : rf_Met l v yX12_readTerm cX12_readTerm 7 (some .int) d [.ref (rf_h v), .int (rI 0)] σ14 σ16 (some (.int (rI z17))) := mσ16 ⟨by decide, by decide⟩
      refine rf_cv (n := 1) (rest := [.ref (rf_h v)]) (As := [.int (rI 0)]) B mσ16 g_255_readTerm (by decide +kernel) (by decide) rfl hl.1 (Nat.le_of_ble_eq_true rfl) dX12_readTold_32 rfl hw (fun H locs hw => ?_)
      obtain ⟨σ18, eσ18, hf⟩ := rf_pi_s hf
      refine rf_put B hw 79 (by decide) rfl rfl lk_284 iz17 eσ18 rfl rfl dX12_readTold_35 (fun H locs hw => ?_)
      refine lv_aload_n hx hb dX12_readTold_38 rfl (lv_at hl 0 rfl) ?_
      obtain ⟨z19, ez19, iz19, hf⟩ := rf_gi_s hw hf
      refine rf_geti B hw 72 (by decide) rfl lk_150 ez19 dX12_readTold_39 ?_
      refine rn_if_ne (a := z19) (tgt := 87) hx hb iz19 dX12_readTold_42 (by decide) (fun c20 => ?_) (fun c20 => ?_)
      · replace hf := rf_if_t hf c20
        exact rf_retv B hf hw dX12_readTold_87
      · replace hf := rf_if_f hf c20
        refine lv_aload_n hx hb dX12_readTold_45 rfl (lv_at hl 0 rfl) ?_
        refine lv_sipush (v := rI 256) hx hb dX12_readTold_46 (by decide +kernel) ?_
        obtain ⟨σ21, z22, hσ21, hf⟩ := rf_cl_s hf
        obtain ⟨iz22, mσ21⟩ := hR 13 σ18 [256] σ21 z22 hσ21
        have mσ21 : rf_Met l v yX12_isSign cX12_isSign 2 (some .boolean) d [.ref (rf_h v), .int (rI 256)] σ18 σ21 (some (.int (rI z22))) := mσ21 ⟨by decide, by decide⟩
        refine rf_cv (n := 1) (rest := []) (As := [.int (rI 256)]) B mσ21 g_228_isSign (by decide +kernel) (by decide) rfl hl.1 (Nat.le_of_ble_eq_true rfl) dX12_readTold_49 rfl hw (fun H locs hw => ?_)
        refine rn_if_eq (a := z22) (tgt := 87) hx hb iz22 dX12_readTold_52 (by decide) (fun c23 => ?_) (fun c23 => ?_)
        · replace hf := rf_if_t hf c23
          exact rf_retv B hf hw dX12_readTold_87
        · replace hf := rf_if_f hf c23
          refine lv_aload_n hx hb dX12_readTold_55 rfl (lv_at hl 0 rfl) ?_
          obtain ⟨σ24, z25, hσ24, hf⟩ := rf_cl_s hf
          obtain ⟨iz25, mσ24⟩ := hR 10 σ21 [] σ24 z25 hσ24
          have mσ24 : rf_Met l v yX12_next cX12_next 4 none d [.ref (rf_h v)] σ21 σ24 none := mσ24
          refine rf_cv (n := 0) (rest := []) (As := []) B mσ24 g_231_next (by decide +kernel) (by decide) rfl hl.1 (Nat.le_of_ble_eq_true rfl) dX12_readTold_56 rfl hw (fun H locs hw => ?_)
          refine lv_aload_n hx hb dX12_readTold_59 rfl (lv_at hl 0 rfl) ?_
          refine lv_aload_n hx hb dX12_readTold_60 rfl (lv_at hl 0 rfl) ?_
          refine lv_iconst (v := rI 0) hx hb dX12_readTold_61 rfl ?_
          obtain ⟨σ26, z27, hσ26, hf⟩ := rf_cl_s hf
          obtain ⟨iz27, mσ26⟩ := hR 20 σ24 [0] σ26 z27 hσ26
          have mσ26 : rf_Met l v yX12_readTerm cX12_readTerm 7 (some .int) d [.ref (rf_h v), .int (rI 0)] σ24 σ26 (some (.int (rI z27))) := mσ26 ⟨by decide, by decide⟩
          refine rf_cv (n := 1) (rest := [.ref (rf_h v)]) (As := [.int (rI 0)]) B mσ26 g_255_readTerm (by decide +kernel) (by decide) rfl hl.1 (Nat.le_of_ble_eq_true rfl) dX12_readTold_62 rfl hw (fun H locs hw => ?_)
          obtain ⟨σ28, eσ28, hf⟩ := rf_pi_s hf
          refine rf_put B hw 78 (by decide) rfl rfl lk_281 iz27 eσ28 rfl rfl dX12_readTold_65 (fun H locs hw => ?_)
          refine lv_goto (tgt := 87) hx hb dX12_readTold_68 (by decide) ?_
          exact rf_retv B hf hw dX12_readTold_87
  · replace hf := rf_if_f hf c5
    exact rf_retv B hf hw dX12_readTold_15

set_option maxHeartbeats 4000000 in
set_option maxRecDepth 100000 in
theorem pm_readTold {v : rfE} (hD : rf_D v) {l : Launch} {d : Nat} {rec : Nat → RS → List Int → Option (RS × Int)} (hR : rf_Rec l v d rec) (σ σ' : RS) (r : Int) (hf : pf_readTold_0 rec σ = some (σ', r)) : rf_Met l v yX12_readTold cX12_readTold 1 none (d + 1) [.ref (rf_h v)] σ σ' none := by
  refine Met.ofW (cc := cX12_readTold) (maxL := 1) (ret := none) (by decide +kernel) rfl ?_
  intro p e s m args below meth c s₁ B hml hv
  obtain ⟨rfl, hM, hK⟩ := hv
  have hts := atoms_spec (ws := Cond.code yX12_readTold cX12_readTold 1 none :: rf_bw) B.pre
  have hB : rf_B v p s m _ meth c cX12_readTold 1 none := ⟨B.exec, B.bytes, B.returns, hml, findClass_of_methodNamed B.named, fun w h => hts w (List.mem_cons_of_mem _ h), B.notSynchronized, hK, hD⟩
  have hl := lv_entry ([.ref (rf_h v)]) (n := 1) (Nat.le_of_ble_eq_true rfl)
  rw [lg_entry_eq]
  generalize (lg_sl ([.ref (rf_h v)]) ++ List.replicate (1 - (lg_sl ([.ref (rf_h v)])).length) Slot.unset).toArray = ls at hl ⊢
  exact ps_readTold_0 hR hB σ hf _ _ _ ⟨hM, rfl, fun _ _ => rfl, fun q h => by cases h⟩ (lv_sub hl [0] rfl)

set_option maxHeartbeats 4000000 in
set_option maxRecDepth 100000 in
theorem ps_readAll_14 {v : rfE} {p : Program} {l : Launch} {e : Env} {s : State} {m : MethodId} {args : Array Value} {below : List Frame} {meth : Method} {c : Code} {d : Nat} {rec : Nat → RS → List Int → Option (RS × Int)} {σ' : RS} {r : Int} (hR : rf_Rec l v d rec) (B : rf_B v p s m args meth c cX12_readAll 1 none) : ∀ (n : Nat) (σ : RS), pf_readAll_14 rec n σ = some (σ', r) → ∀ (H : Heap) (locs : List Loc) (ls : Array Slot), rf_W v s σ H locs → lv_has ls 1 [(0, .ref (rf_h v))] → W p l e (rf_rm (d + 1)) s m args below meth c H locs 0 0 (MQ below (rf_Q v σ' none) args s 0 0 (rf_F v)) (F0 m 14 ls []) := by
  obtain ⟨hx, hb, hr, hml, hown, hts, hlk, hK, hD⟩ := id B
  intro n
  induction n with
  | zero => intro σ hf; cases hf
  | succ n ih =>
    intro σ hf H locs ls hw hl
    unfold pf_readAll_14 at hf
    refine lv_aload_n hx hb dX12_readAll_14 rfl (lv_at hl 0 rfl) ?_
    obtain ⟨z1, ez1, iz1, hf⟩ := rf_gi_s hw hf
    refine rf_geti B hw 72 (by decide) rfl lk_150 ez1 dX12_readAll_15 ?_
    refine rn_if_ne (a := z1) (tgt := 48) hx hb iz1 dX12_readAll_18 (by decide) (fun c2 => ?_) (fun c2 => ?_)
    · replace hf := rf_if_t hf c2
      exact rf_retv B hf hw dX12_readAll_48
    · replace hf := rf_if_f hf c2
      refine lv_aload_n hx hb dX12_readAll_21 rfl (lv_at hl 0 rfl) ?_
      obtain ⟨z3, ez3, iz3, hf⟩ := rf_gi_s hw hf
      refine rf_geti B hw 7 (by decide) rfl lk_203 ez3 dX12_readAll_22 ?_
      refine rn_if_eq (a := z3) (tgt := 48) hx hb iz3 dX12_readAll_25 (by decide) (fun c4 => ?_) (fun c4 => ?_)
      · replace hf := rf_if_t hf c4
        exact rf_retv B hf hw dX12_readAll_48
      · replace hf := rf_if_f hf c4
        refine lv_aload_n hx hb dX12_readAll_28 rfl (lv_at hl 0 rfl) ?_
        obtain ⟨σ5, z6, hσ5, hf⟩ := rf_cl_s hf
        obtain ⟨iz6, mσ5⟩ := hR 25 σ [] σ5 z6 hσ5
        have mσ5 : rf_Met l v yX12_readStatement cX12_readStatement 1 none d [.ref (rf_h v)] σ σ5 none := mσ5
        refine rf_cv (n := 0) (rest := []) (As := []) B mσ5 g_299_readStatement (by decide +kernel) (by decide) rfl hl.1 (Nat.le_of_ble_eq_true rfl) dX12_readAll_29 rfl hw (fun H locs hw => ?_)
        refine lv_aload_n hx hb dX12_readAll_32 rfl (lv_at hl 0 rfl) ?_
        obtain ⟨z7, ez7, iz7, hf⟩ := rf_gi_s hw hf
        refine rf_geti B hw 72 (by decide) rfl lk_150 ez7 dX12_readAll_33 ?_
        refine rn_if_ne (a := z7) (tgt := 14) hx hb iz7 dX12_readAll_36 (by decide) (fun c8 => ?_) (fun c8 => ?_)
        · replace hf := rf_if_t hf c8
          exact ih σ5 hf _ _ _ hw (lv_sub hl [0] rfl)
        · replace hf := rf_if_f hf c8
          refine lv_aload_n hx hb dX12_readAll_39 rfl (lv_at hl 0 rfl) ?_
          refine lv_bipush (v := rI 59) hx hb dX12_readAll_40 (by decide +kernel) ?_
          obtain ⟨σ9, z10, hσ9, hf⟩ := rf_cl_s hf
          obtain ⟨iz10, mσ9⟩ := hR 16 σ5 [59] σ9 z10 hσ9
          have mσ9 : rf_Met l v yX12_need cX12_need 2 none d [.ref (rf_h v), .int (rI 59)] σ5 σ9 none := mσ9 ⟨by decide, by decide⟩
          refine rf_cv (n := 1) (rest := []) (As := [.int (rI 59)]) B mσ9 g_252_need (by decide +kernel) (by decide) rfl hl.1 (Nat.le_of_ble_eq_true rfl) dX12_readAll_42 rfl hw (fun H locs hw => ?_)
          refine lv_goto (tgt := 14) hx hb dX12_readAll_45 (by decide) ?_
          exact ih σ9 hf _ _ _ hw (lv_sub hl [0] rfl)

set_option maxHeartbeats 4000000 in
set_option maxRecDepth 100000 in
theorem ps_readAll_0 {v : rfE} {p : Program} {l : Launch} {e : Env} {s : State} {m : MethodId} {args : Array Value} {below : List Frame} {meth : Method} {c : Code} {d : Nat} {rec : Nat → RS → List Int → Option (RS × Int)} {σ' : RS} {r : Int} (hR : rf_Rec l v d rec) (B : rf_B v p s m args meth c cX12_readAll 1 none) : ∀ (σ : RS), pf_readAll_0 rec σ = some (σ', r) → ∀ (H : Heap) (locs : List Loc) (ls : Array Slot), rf_W v s σ H locs → lv_has ls 1 [(0, .ref (rf_h v))] → W p l e (rf_rm (d + 1)) s m args below meth c H locs 0 0 (MQ below (rf_Q v σ' none) args s 0 0 (rf_F v)) (F0 m 0 ls []) := by
  obtain ⟨hx, hb, hr, hml, hown, hts, hlk, hK, hD⟩ := id B
  intro σ hf H locs ls hw hl
  unfold pf_readAll_0 at hf
  refine lv_aload_n hx hb dX12_readAll_0 rfl (lv_at hl 0 rfl) ?_
  refine lv_iconst (v := rI 0) hx hb dX12_readAll_1 rfl ?_
  obtain ⟨b012, hf⟩ := rf_bo_s hf
  obtain ⟨σ1, eσ1, hf⟩ := rf_pi_s hf
  refine rf_put B hw 15 (by decide) rfl rfl lk_237 ⟨by decide, by decide⟩ eσ1 (rf_narZ b012) (rf_fitZ b012) dX12_readAll_2 (fun H locs hw => ?_)
  refine lv_aload_n hx hb dX12_readAll_5 rfl (lv_at hl 0 rfl) ?_
  refine lv_iconst (v := rI 0) hx hb dX12_readAll_6 rfl ?_
  obtain ⟨σ3, eσ3, hf⟩ := rf_pi_s hf
  refine rf_put B hw 6 (by decide) rfl rfl lk_193 ⟨by decide, by decide⟩ eσ3 rfl rfl dX12_readAll_7 (fun H locs hw => ?_)
  refine lv_aload_n hx hb dX12_readAll_10 rfl (lv_at hl 0 rfl) ?_
  obtain ⟨σ4, z5, hσ4, hf⟩ := rf_cl_s hf
  obtain ⟨iz5, mσ4⟩ := hR 10 σ3 [] σ4 z5 hσ4
  have mσ4 : rf_Met l v yX12_next cX12_next 4 none d [.ref (rf_h v)] σ3 σ4 none := mσ4
  refine rf_cv (n := 0) (rest := []) (As := []) B mσ4 g_231_next (by decide +kernel) (by decide) rfl hl.1 (Nat.le_of_ble_eq_true rfl) dX12_readAll_11 rfl hw (fun H locs hw => ?_)
  exact ps_readAll_14 hR B 200000 σ4 hf _ _ _ hw (lv_sub hl [0] rfl)

set_option maxHeartbeats 4000000 in
set_option maxRecDepth 100000 in
theorem pm_readAll {v : rfE} (hD : rf_D v) {l : Launch} {d : Nat} {rec : Nat → RS → List Int → Option (RS × Int)} (hR : rf_Rec l v d rec) (σ σ' : RS) (r : Int) (hf : pf_readAll_0 rec σ = some (σ', r)) : rf_Met l v yX12_readAll cX12_readAll 1 none (d + 1) [.ref (rf_h v)] σ σ' none := by
  refine Met.ofW (cc := cX12_readAll) (maxL := 1) (ret := none) (by decide +kernel) rfl ?_
  intro p e s m args below meth c s₁ B hml hv
  obtain ⟨rfl, hM, hK⟩ := hv
  have hts := atoms_spec (ws := Cond.code yX12_readAll cX12_readAll 1 none :: rf_bw) B.pre
  have hB : rf_B v p s m _ meth c cX12_readAll 1 none := ⟨B.exec, B.bytes, B.returns, hml, findClass_of_methodNamed B.named, fun w h => hts w (List.mem_cons_of_mem _ h), B.notSynchronized, hK, hD⟩
  have hl := lv_entry ([.ref (rf_h v)]) (n := 1) (Nat.le_of_ble_eq_true rfl)
  rw [lg_entry_eq]
  generalize (lg_sl ([.ref (rf_h v)]) ++ List.replicate (1 - (lg_sl ([.ref (rf_h v)])).length) Slot.unset).toArray = ls at hl ⊢
  exact ps_readAll_0 hR hB σ hf _ _ _ ⟨hM, rfl, fun _ _ => rfl, fun q h => by cases h⟩ (lv_sub hl [0] rfl)

set_option maxHeartbeats 4000000 in
set_option maxRecDepth 100000 in
theorem ps_may_53 {v : rfE} {p : Program} {l : Launch} {e : Env} {s : State} {m : MethodId} {args : Array Value} {below : List Frame} {meth : Method} {c : Code} {d : Nat} {rec : Nat → RS → List Int → Option (RS × Int)} {σ' : RS} {r : Int} (hR : rf_Rec l v d rec) (B : rf_B v p s m args meth c cX12_may 1 (some .boolean)) : ∀ (σ : RS), pf_may_53 rec σ = some (σ', r) → ∀ (H : Heap) (locs : List Loc) (ls : Array Slot), rf_W v s σ H locs → lv_has ls 1 [(0, .ref (rf_h v))] → W p l e (rf_rm (d + 1)) s m args below meth c H locs 0 0 (MQ below (rf_Q v σ' (some (.int (rI r)))) args s 0 0 (rf_F v)) (F0 m 53 ls []) := by
  obtain ⟨hx, hb, hr, hml, hown, hts, hlk, hK, hD⟩ := id B
  intro σ hf H locs ls hw hl
  unfold pf_may_53 at hf
  refine lv_aload_n hx hb dX12_may_53 rfl (lv_at hl 0 rfl) ?_
  obtain ⟨z1, ez1, iz1, hf⟩ := rf_gi_s hw hf
  refine rf_geti B hw 72 (by decide) rfl lk_150 ez1 dX12_may_54 ?_
  refine rn_if_eq (a := z1) (tgt := 62) hx hb iz1 dX12_may_57 (by decide) (fun c2 => ?_) (fun c2 => ?_)
  · replace hf := rf_if_t hf c2
    refine lv_aload_n hx hb dX12_may_62 rfl (lv_at hl 0 rfl) ?_
    refine lv_dup hx hb dX12_may_63 rfl ?_
    obtain ⟨z3, ez3, iz3, hf⟩ := rf_gi_s hw hf
    refine rf_geti B hw 64 (by decide) rfl lk_302 ez3 dX12_may_64 ?_
    refine lv_iconst (v := rI 1) hx hb dX12_may_67 rfl ?_
    obtain ⟨z4, ez4, iz4, hf⟩ := rf_ck_s hf
    refine rn_add hx hb ez4 dX12_may_68 ?_
    obtain ⟨σ5, eσ5, hf⟩ := rf_pi_s hf
    refine rf_put B hw 64 (by decide) rfl rfl lk_302 iz4 eσ5 rfl rfl dX12_may_69 (fun H locs hw => ?_)
    refine lv_aload_n hx hb dX12_may_72 rfl (lv_at hl 0 rfl) ?_
    refine lv_dup hx hb dX12_may_73 rfl ?_
    obtain ⟨z6, ez6, iz6, hf⟩ := rf_gi_s hw hf
    refine rf_geti B hw 65 (by decide) rfl lk_305 ez6 dX12_may_74 ?_
    refine lv_iconst (v := rI 1) hx hb dX12_may_77 rfl ?_
    obtain ⟨z7, ez7, iz7, hf⟩ := rf_ck_s hf
    refine rn_add hx hb ez7 dX12_may_78 ?_
    obtain ⟨σ8, eσ8, hf⟩ := rf_pi_s hf
    refine rf_put B hw 65 (by decide) rfl rfl lk_305 iz7 eσ8 rfl rfl dX12_may_79 (fun H locs hw => ?_)
    refine lv_iconst (v := rI 1) hx hb dX12_may_82 rfl ?_
    obtain ⟨h01, hf⟩ := rf_bo_s hf
    exact rf_retz B h01 hf hw dX12_may_83
  · replace hf := rf_if_f hf c2
    refine lv_iconst (v := rI 0) hx hb dX12_may_60 rfl ?_
    obtain ⟨h01, hf⟩ := rf_bo_s hf
    exact rf_retz B h01 hf hw dX12_may_61

set_option maxHeartbeats 4000000 in
set_option maxRecDepth 100000 in
theorem ps_may_0 {v : rfE} {p : Program} {l : Launch} {e : Env} {s : State} {m : MethodId} {args : Array Value} {below : List Frame} {meth : Method} {c : Code} {d : Nat} {rec : Nat → RS → List Int → Option (RS × Int)} {σ' : RS} {r : Int} (hR : rf_Rec l v d rec) (B : rf_B v p s m args meth c cX12_may 1 (some .boolean)) : ∀ (σ : RS), pf_may_0 rec σ = some (σ', r) → ∀ (H : Heap) (locs : List Loc) (ls : Array Slot), rf_W v s σ H locs → lv_has ls 1 [(0, .ref (rf_h v))] → W p l e (rf_rm (d + 1)) s m args below meth c H locs 0 0 (MQ below (rf_Q v σ' (some (.int (rI r)))) args s 0 0 (rf_F v)) (F0 m 0 ls []) := by
  obtain ⟨hx, hb, hr, hml, hown, hts, hlk, hK, hD⟩ := id B
  intro σ hf H locs ls hw hl
  unfold pf_may_0 at hf
  refine lv_aload_n hx hb dX12_may_0 rfl (lv_at hl 0 rfl) ?_
  obtain ⟨z1, ez1, iz1, hf⟩ := rf_gi_s hw hf
  refine rf_geti B hw 72 (by decide) rfl lk_150 ez1 dX12_may_1 ?_
  refine rn_if_eq (a := z1) (tgt := 9) hx hb iz1 dX12_may_4 (by decide) (fun c2 => ?_) (fun c2 => ?_)
  · replace hf := rf_if_t hf c2
    refine lv_aload_n hx hb dX12_may_9 rfl (lv_at hl 0 rfl) ?_
    obtain ⟨z3, ez3, iz3, hf⟩ := rf_gi_s hw hf
    refine rf_geti B hw 64 (by decide) rfl lk_302 ez3 dX12_may_10 ?_
    refine lv_aload_n hx hb dX12_may_13 rfl (lv_at hl 0 rfl) ?_
    obtain ⟨z4, ez4, iz4, hf⟩ := rf_gi_s hw hf
    refine rf_geti B hw 63 (by decide) rfl lk_137 ez4 dX12_may_14 ?_
    refine rn_icmp_ne (a := z3) (b := z4) (tgt := 33) hx hb iz3 iz4 dX12_may_17 (by decide) (fun c5 => ?_) (fun c5 => ?_)
    · replace hf := rf_if_t hf c5
      refine lv_aload_n hx hb dX12_may_33 rfl (lv_at hl 0 rfl) ?_
      obtain ⟨z6, ez6, iz6, hf⟩ := rf_gi_s hw hf
      refine rf_geti B hw 65 (by decide) rfl lk_305 ez6 dX12_may_34 ?_
      refine lv_ldcw (v := rI 60000) hx hb hown (hts _ lc_308) dX12_may_37 ?_
      refine rn_icmp_ne (a := z6) (b := 60000) (tgt := 53) hx hb iz6 ⟨by decide, by decide⟩ dX12_may_40 (by decide) (fun c7 => ?_) (fun c7 => ?_)
      · replace hf := rf_if_t hf c7
        exact ps_may_53 hR B σ hf _ _ _ hw (lv_sub hl [0] rfl)
      · replace hf := rf_if_f hf c7
        refine lv_aload_n hx hb dX12_may_43 rfl (lv_at hl 0 rfl) ?_
        refine lv_bipush (v := rI 14) hx hb dX12_may_44 (by decide +kernel) ?_
        refine lv_aload_n hx hb dX12_may_46 rfl (lv_at hl 0 rfl) ?_
        obtain ⟨z8, ez8, iz8, hf⟩ := rf_gi_s hw hf
        refine rf_geti B hw 77 (by decide) rfl lk_275 ez8 dX12_may_47 ?_
        obtain ⟨σ9, z10, hσ9, hf⟩ := rf_cl_s hf
        obtain ⟨iz10, mσ9⟩ := hR 3 σ [14, z8] σ9 z10 hσ9
        have mσ9 : rf_Met l v yX12_wrong cX12_wrong 3 none d [.ref (rf_h v), .int (rI 14), .int (rI z8)] σ σ9 none := mσ9 ⟨by decide, by decide⟩ iz8
        refine rf_cv (n := 2) (rest := []) (As := [.int (rI 14), .int (rI z8)]) B mσ9 g_218_wrong (by decide +kernel) (by decide) rfl hl.1 (Nat.le_of_ble_eq_true rfl) dX12_may_50 rfl hw (fun H locs hw => ?_)
        exact ps_may_53 hR B σ9 hf _ _ _ hw (lv_sub hl [0] rfl)
    · replace hf := rf_if_f hf c5
      refine lv_aload_n hx hb dX12_may_20 rfl (lv_at hl 0 rfl) ?_
      refine lv_bipush (v := rI 12) hx hb dX12_may_21 (by decide +kernel) ?_
      refine lv_aload_n hx hb dX12_may_23 rfl (lv_at hl 0 rfl) ?_
      obtain ⟨z11, ez11, iz11, hf⟩ := rf_gi_s hw hf
      refine rf_geti B hw 77 (by decide) rfl lk_275 ez11 dX12_may_24 ?_
      obtain ⟨σ12, z13, hσ12, hf⟩ := rf_cl_s hf
      obtain ⟨iz13, mσ12⟩ := hR 3 σ [12, z11] σ12 z13 hσ12
      have mσ12 : rf_Met l v yX12_wrong cX12_wrong 3 none d [.ref (rf_h v), .int (rI 12), .int (rI z11)] σ σ12 none := mσ12 ⟨by decide, by decide⟩ iz11
      refine rf_cv (n := 2) (rest := []) (As := [.int (rI 12), .int (rI z11)]) B mσ12 g_218_wrong (by decide +kernel) (by decide) rfl hl.1 (Nat.le_of_ble_eq_true rfl) dX12_may_27 rfl hw (fun H locs hw => ?_)
      refine lv_goto (tgt := 53) hx hb dX12_may_30 (by decide) ?_
      exact ps_may_53 hR B σ12 hf _ _ _ hw (lv_sub hl [0] rfl)
  · replace hf := rf_if_f hf c2
    refine lv_iconst (v := rI 0) hx hb dX12_may_7 rfl ?_
    obtain ⟨h01, hf⟩ := rf_bo_s hf
    exact rf_retz B h01 hf hw dX12_may_8

set_option maxHeartbeats 4000000 in
set_option maxRecDepth 100000 in
theorem pm_may {v : rfE} (hD : rf_D v) {l : Launch} {d : Nat} {rec : Nat → RS → List Int → Option (RS × Int)} (hR : rf_Rec l v d rec) (σ σ' : RS) (r : Int) (hf : pf_may_0 rec σ = some (σ', r)) : rf_Met l v yX12_may cX12_may 1 (some .boolean) (d + 1) [.ref (rf_h v)] σ σ' (some (.int (rI r))) := by
  refine Met.ofW (cc := cX12_may) (maxL := 1) (ret := (some .boolean)) (by decide +kernel) rfl ?_
  intro p e s m args below meth c s₁ B hml hv
  obtain ⟨rfl, hM, hK⟩ := hv
  have hts := atoms_spec (ws := Cond.code yX12_may cX12_may 1 (some .boolean) :: rf_bw) B.pre
  have hB : rf_B v p s m _ meth c cX12_may 1 (some .boolean) := ⟨B.exec, B.bytes, B.returns, hml, findClass_of_methodNamed B.named, fun w h => hts w (List.mem_cons_of_mem _ h), B.notSynchronized, hK, hD⟩
  have hl := lv_entry ([.ref (rf_h v)]) (n := 1) (Nat.le_of_ble_eq_true rfl)
  rw [lg_entry_eq]
  generalize (lg_sl ([.ref (rf_h v)]) ++ List.replicate (1 - (lg_sl ([.ref (rf_h v)])).length) Slot.unset).toArray = ls at hl ⊢
  exact ps_may_0 hR hB σ hf _ _ _ ⟨hM, rfl, fun _ _ => rfl, fun q h => by cases h⟩ (lv_sub hl [0] rfl)

set_option maxHeartbeats 4000000 in
set_option maxRecDepth 100000 in
theorem ps_look_23 {v : rfE} {p : Program} {l : Launch} {e : Env} {s : State} {m : MethodId} {args : Array Value} {below : List Frame} {meth : Method} {c : Code} {d : Nat} {rec : Nat → RS → List Int → Option (RS × Int)} {σ' : RS} {r : Int} (hR : rf_Rec l v d rec) (B : rf_B v p s m args meth c cX12_look 2 (some .boolean)) : ∀ (σ : RS), pf_look_23 rec σ = some (σ', r) → ∀ (H : Heap) (locs : List Loc) (ls : Array Slot), rf_W v s σ H locs → lv_has ls 2 [(0, .ref (rf_h v))] → W p l e (rf_rm (d + 1)) s m args below meth c H locs 0 0 (MQ below (rf_Q v σ' (some (.int (rI r)))) args s 0 0 (rf_F v)) (F0 m 23 ls []) := by
  obtain ⟨hx, hb, hr, hml, hown, hts, hlk, hK, hD⟩ := id B
  intro σ hf H locs ls hw hl
  unfold pf_look_23 at hf
  refine lv_aload_n hx hb dX12_look_23 rfl (lv_at hl 0 rfl) ?_
  obtain ⟨σ1, z2, hσ1, hf⟩ := rf_cl_s hf
  obtain ⟨iz2, mσ1⟩ := hR 28 σ [] σ1 z2 hσ1
  have mσ1 : rf_Met l v yX12_may cX12_may 1 (some .boolean) d [.ref (rf_h v)] σ σ1 (some (.int (rI z2))) := mσ1
  refine rf_cv (n := 0) (rest := []) (As := []) B mσ1 g_309_may (by decide +kernel) (by decide) rfl hl.1 (Nat.le_of_ble_eq_true rfl) dX12_look_24 rfl hw (fun H locs hw => ?_)
  refine rn_if_ne (a := z2) (tgt := 32) hx hb iz2 dX12_look_27 (by decide) (fun c3 => ?_) (fun c3 => ?_)
  · replace hf := rf_if_t hf c3
    refine lv_aload_n hx hb dX12_look_32 rfl (lv_at hl 0 rfl) ?_
    refine lv_dup hx hb dX12_look_33 rfl ?_
    obtain ⟨z4, ez4, iz4, hf⟩ := rf_gi_s hw hf
    refine rf_geti B hw 71 (by decide) rfl lk_312 ez4 dX12_look_34 ?_
    refine lv_iconst (v := rI 1) hx hb dX12_look_37 rfl ?_
    obtain ⟨z5, ez5, iz5, hf⟩ := rf_ck_s hf
    refine rn_add hx hb ez5 dX12_look_38 ?_
    obtain ⟨σ6, eσ6, hf⟩ := rf_pi_s hf
    refine rf_put B hw 71 (by decide) rfl rfl lk_312 iz5 eσ6 rfl rfl dX12_look_39 (fun H locs hw => ?_)
    refine lv_iconst (v := rI 1) hx hb dX12_look_42 rfl ?_
    obtain ⟨h01, hf⟩ := rf_bo_s hf
    exact rf_retz B h01 hf hw dX12_look_43
  · replace hf := rf_if_f hf c3
    refine lv_iconst (v := rI 0) hx hb dX12_look_30 rfl ?_
    obtain ⟨h01, hf⟩ := rf_bo_s hf
    exact rf_retz B h01 hf hw dX12_look_31

set_option maxHeartbeats 4000000 in
set_option maxRecDepth 100000 in
theorem ps_look_0 {v : rfE} {p : Program} {l : Launch} {e : Env} {s : State} {m : MethodId} {args : Array Value} {below : List Frame} {meth : Method} {c : Code} {d : Nat} {rec : Nat → RS → List Int → Option (RS × Int)} {σ' : RS} {r : Int} (hR : rf_Rec l v d rec) (B : rf_B v p s m args meth c cX12_look 2 (some .boolean)) : ∀ (σ : RS) (x1 : Int), inR x1 → pf_look_0 rec σ x1 = some (σ', r) → ∀ (H : Heap) (locs : List Loc) (ls : Array Slot), rf_W v s σ H locs → lv_has ls 2 [(0, .ref (rf_h v)), (1, .int (rI x1))] → W p l e (rf_rm (d + 1)) s m args below meth c H locs 0 0 (MQ below (rf_Q v σ' (some (.int (rI r)))) args s 0 0 (rf_F v)) (F0 m 0 ls []) := by
  obtain ⟨hx, hb, hr, hml, hown, hts, hlk, hK, hD⟩ := id B
  intro σ x1 ix1 hf H locs ls hw hl
  unfold pf_look_0 at hf
  refine lv_aload_n hx hb dX12_look_0 rfl (lv_at hl 0 rfl) ?_
  obtain ⟨z1, ez1, iz1, hf⟩ := rf_gi_s hw hf
  refine rf_geti B hw 72 (by decide) rfl lk_150 ez1 dX12_look_1 ?_
  refine rn_if_ne (a := z1) (tgt := 23) hx hb iz1 dX12_look_4 (by decide) (fun c2 => ?_) (fun c2 => ?_)
  · replace hf := rf_if_t hf c2
    exact ps_look_23 hR B σ hf _ _ _ hw (lv_sub hl [0] rfl)
  · replace hf := rf_if_f hf c2
    refine lv_iload_n hx hb dX12_look_7 rfl (lv_at hl 1 rfl) ?_
    refine lv_bipush (v := rI 100) hx hb dX12_look_8 (by decide +kernel) ?_
    refine rn_icmp_lt (a := x1) (b := 100) (tgt := 23) hx hb ix1 ⟨by decide, by decide⟩ dX12_look_10 (by decide) (fun c3 => ?_) (fun c3 => ?_)
    · replace hf := rf_if_t hf c3
      exact ps_look_23 hR B σ hf _ _ _ hw (lv_sub hl [0] rfl)
    · replace hf := rf_if_f hf c3
      refine lv_aload_n hx hb dX12_look_13 rfl (lv_at hl 0 rfl) ?_
      refine lv_bipush (v := rI 13) hx hb dX12_look_14 (by decide +kernel) ?_
      refine lv_aload_n hx hb dX12_look_16 rfl (lv_at hl 0 rfl) ?_
      obtain ⟨z4, ez4, iz4, hf⟩ := rf_gi_s hw hf
      refine rf_geti B hw 77 (by decide) rfl lk_275 ez4 dX12_look_17 ?_
      obtain ⟨σ5, z6, hσ5, hf⟩ := rf_cl_s hf
      obtain ⟨iz6, mσ5⟩ := hR 3 σ [13, z4] σ5 z6 hσ5
      have mσ5 : rf_Met l v yX12_wrong cX12_wrong 3 none d [.ref (rf_h v), .int (rI 13), .int (rI z4)] σ σ5 none := mσ5 ⟨by decide, by decide⟩ iz4
      refine rf_cv (n := 2) (rest := []) (As := [.int (rI 13), .int (rI z4)]) B mσ5 g_218_wrong (by decide +kernel) (by decide) rfl hl.1 (Nat.le_of_ble_eq_true rfl) dX12_look_20 rfl hw (fun H locs hw => ?_)
      exact ps_look_23 hR B σ5 hf _ _ _ hw (lv_sub hl [0] rfl)

set_option maxHeartbeats 4000000 in
set_option maxRecDepth 100000 in
theorem pm_look {v : rfE} (hD : rf_D v) {l : Launch} {d : Nat} {rec : Nat → RS → List Int → Option (RS × Int)} (hR : rf_Rec l v d rec) (σ σ' : RS) (x1 r : Int) (ix1 : inR x1) (hf : pf_look_0 rec σ x1 = some (σ', r)) : rf_Met l v yX12_look cX12_look 2 (some .boolean) (d + 1) [.ref (rf_h v), .int (rI x1)] σ σ' (some (.int (rI r))) := by
  refine Met.ofW (cc := cX12_look) (maxL := 2) (ret := (some .boolean)) (by decide +kernel) rfl ?_
  intro p e s m args below meth c s₁ B hml hv
  obtain ⟨rfl, hM, hK⟩ := hv
  have hts := atoms_spec (ws := Cond.code yX12_look cX12_look 2 (some .boolean) :: rf_bw) B.pre
  have hB : rf_B v p s m _ meth c cX12_look 2 (some .boolean) := ⟨B.exec, B.bytes, B.returns, hml, findClass_of_methodNamed B.named, fun w h => hts w (List.mem_cons_of_mem _ h), B.notSynchronized, hK, hD⟩
  have hl := lv_entry ([.ref (rf_h v), .int (rI x1)]) (n := 2) (Nat.le_of_ble_eq_true rfl)
  rw [lg_entry_eq]
  generalize (lg_sl ([.ref (rf_h v), .int (rI x1)]) ++ List.replicate (2 - (lg_sl ([.ref (rf_h v), .int (rI x1)])).length) Slot.unset).toArray = ls at hl ⊢
  exact ps_look_0 hR hB σ x1 ix1 hf _ _ _ ⟨hM, rfl, fun _ _ => rfl, fun q h => by cases h⟩ (lv_sub hl [0, 1] rfl)

set_option maxHeartbeats 4000000 in
set_option maxRecDepth 100000 in
theorem ps_cell_0 {v : rfE} {p : Program} {l : Launch} {e : Env} {s : State} {m : MethodId} {args : Array Value} {below : List Frame} {meth : Method} {c : Code} {d : Nat} {rec : Nat → RS → List Int → Option (RS × Int)} {σ' : RS} {r : Int} (hR : rf_Rec l v d rec) (B : rf_B v p s m args meth c cX12_cell 5 (some .int)) : ∀ (σ : RS) (x1 x2 x3 x4 : Int), inR x1 → inR x2 → inR x3 → inR x4 → pf_cell_0 rec σ x1 x2 x3 x4 = some (σ', r) → ∀ (H : Heap) (locs : List Loc) (ls : Array Slot), rf_W v s σ H locs → lv_has ls 5 [(0, .ref (rf_h v)), (1, .int (rI x1)), (2, .int (rI x2)), (3, .int (rI x3)), (4, .int (rI x4))] → W p l e (rf_rm (d + 1)) s m args below meth c H locs 0 0 (MQ below (rf_Q v σ' (some (.int (rI r)))) args s 0 0 (rf_F v)) (F0 m 0 ls []) := by
  obtain ⟨hx, hb, hr, hml, hown, hts, hlk, hK, hD⟩ := id B
  intro σ x1 x2 x3 x4 ix1 ix2 ix3 ix4 hf H locs ls hw hl
  unfold pf_cell_0 at hf
  refine lv_aload_n hx hb dX12_cell_0 rfl (lv_at hl 0 rfl) ?_
  refine rf_get (val := .ref (rf_ad v 44)) B hw 44 (by decide) lk_113 rfl dX12_cell_1 ?_
  refine lv_aload_n hx hb dX12_cell_4 rfl (lv_at hl 0 rfl) ?_
  obtain ⟨z1, ez1, iz1, hf⟩ := rf_gi_s hw hf
  refine rf_geti B hw 48 (by decide) rfl lk_125 ez1 dX12_cell_5 ?_
  refine lv_iload_n hx hb dX12_cell_8 rfl (lv_at hl 1 rfl) ?_
  obtain ⟨σ2, eσ2, rσ2, hf⟩ := rf_wr_s hf
  refine rf_ast B hw iz1 ix1 rσ2 eσ2 dX12_cell_9 (fun H locs hw => ?_)
  refine lv_aload_n hx hb dX12_cell_10 rfl (lv_at hl 0 rfl) ?_
  refine rf_get (val := .ref (rf_ad v 45)) B hw 45 (by decide) lk_116 rfl dX12_cell_11 ?_
  refine lv_aload_n hx hb dX12_cell_14 rfl (lv_at hl 0 rfl) ?_
  obtain ⟨z3, ez3, iz3, hf⟩ := rf_gi_s hw hf
  refine rf_geti B hw 48 (by decide) rfl lk_125 ez3 dX12_cell_15 ?_
  refine lv_iload_n hx hb dX12_cell_18 rfl (lv_at hl 2 rfl) ?_
  obtain ⟨σ4, eσ4, rσ4, hf⟩ := rf_wr_s hf
  refine rf_ast B hw iz3 ix2 rσ4 eσ4 dX12_cell_19 (fun H locs hw => ?_)
  refine lv_aload_n hx hb dX12_cell_20 rfl (lv_at hl 0 rfl) ?_
  refine rf_get (val := .ref (rf_ad v 46)) B hw 46 (by decide) lk_119 rfl dX12_cell_21 ?_
  refine lv_aload_n hx hb dX12_cell_24 rfl (lv_at hl 0 rfl) ?_
  obtain ⟨z5, ez5, iz5, hf⟩ := rf_gi_s hw hf
  refine rf_geti B hw 48 (by decide) rfl lk_125 ez5 dX12_cell_25 ?_
  refine lv_iload_n hx hb dX12_cell_28 rfl (lv_at hl 3 rfl) ?_
  obtain ⟨σ6, eσ6, rσ6, hf⟩ := rf_wr_s hf
  refine rf_ast B hw iz5 ix3 rσ6 eσ6 dX12_cell_29 (fun H locs hw => ?_)
  refine lv_aload_n hx hb dX12_cell_30 rfl (lv_at hl 0 rfl) ?_
  refine rf_get (val := .ref (rf_ad v 47)) B hw 47 (by decide) lk_122 rfl dX12_cell_31 ?_
  refine lv_aload_n hx hb dX12_cell_34 rfl (lv_at hl 0 rfl) ?_
  obtain ⟨z7, ez7, iz7, hf⟩ := rf_gi_s hw hf
  refine rf_geti B hw 48 (by decide) rfl lk_125 ez7 dX12_cell_35 ?_
  refine lv_iload hx hb dX12_cell_38 (lv_at hl 4 rfl) ?_
  obtain ⟨σ8, eσ8, rσ8, hf⟩ := rf_wr_s hf
  refine rf_ast B hw iz7 ix4 rσ8 eσ8 dX12_cell_40 (fun H locs hw => ?_)
  refine lv_aload_n hx hb dX12_cell_41 rfl (lv_at hl 0 rfl) ?_
  refine lv_dup hx hb dX12_cell_42 rfl ?_
  obtain ⟨z9, ez9, iz9, hf⟩ := rf_gi_s hw hf
  refine rf_geti B hw 48 (by decide) rfl lk_125 ez9 dX12_cell_43 ?_
  refine lv_iconst (v := rI 1) hx hb dX12_cell_46 rfl ?_
  obtain ⟨z10, ez10, iz10, hf⟩ := rf_ck_s hf
  refine rn_add hx hb ez10 dX12_cell_47 ?_
  obtain ⟨σ11, eσ11, hf⟩ := rf_pi_s hf
  refine rf_put B hw 48 (by decide) rfl rfl lk_125 iz10 eσ11 rfl rfl dX12_cell_48 (fun H locs hw => ?_)
  refine lv_aload_n hx hb dX12_cell_51 rfl (lv_at hl 0 rfl) ?_
  obtain ⟨z12, ez12, iz12, hf⟩ := rf_gi_s hw hf
  refine rf_geti B hw 48 (by decide) rfl lk_125 ez12 dX12_cell_52 ?_
  refine lv_iconst (v := rI 1) hx hb dX12_cell_55 rfl ?_
  obtain ⟨z13, ez13, iz13, hf⟩ := rf_ck_s hf
  refine rn_sub hx hb ez13 dX12_cell_56 ?_
  exact rf_reti B hf hw dX12_cell_57

set_option maxHeartbeats 4000000 in
set_option maxRecDepth 100000 in
theorem pm_cell {v : rfE} (hD : rf_D v) {l : Launch} {d : Nat} {rec : Nat → RS → List Int → Option (RS × Int)} (hR : rf_Rec l v d rec) (σ σ' : RS) (x1 x2 x3 x4 r : Int) (ix1 : inR x1) (ix2 : inR x2) (ix3 : inR x3) (ix4 : inR x4) (hf : pf_cell_0 rec σ x1 x2 x3 x4 = some (σ', r)) : rf_Met l v yX12_cell cX12_cell 5 (some .int) (d + 1) [.ref (rf_h v), .int (rI x1), .int (rI x2), .int (rI x3), .int (rI x4)] σ σ' (some (.int (rI r))) := by
  refine Met.ofW (cc := cX12_cell) (maxL := 5) (ret := (some .int)) (by decide +kernel) rfl ?_
  intro p e s m args below meth c s₁ B hml hv
  obtain ⟨rfl, hM, hK⟩ := hv
  have hts := atoms_spec (ws := Cond.code yX12_cell cX12_cell 5 (some .int) :: rf_bw) B.pre
  have hB : rf_B v p s m _ meth c cX12_cell 5 (some .int) := ⟨B.exec, B.bytes, B.returns, hml, findClass_of_methodNamed B.named, fun w h => hts w (List.mem_cons_of_mem _ h), B.notSynchronized, hK, hD⟩
  have hl := lv_entry ([.ref (rf_h v), .int (rI x1), .int (rI x2), .int (rI x3), .int (rI x4)]) (n := 5) (Nat.le_of_ble_eq_true rfl)
  rw [lg_entry_eq]
  generalize (lg_sl ([.ref (rf_h v), .int (rI x1), .int (rI x2), .int (rI x3), .int (rI x4)]) ++ List.replicate (5 - (lg_sl ([.ref (rf_h v), .int (rI x1), .int (rI x2), .int (rI x3), .int (rI x4)])).length) Slot.unset).toArray = ls at hl ⊢
  exact ps_cell_0 hR hB σ x1 x2 x3 x4 ix1 ix2 ix3 ix4 hf _ _ _ ⟨hM, rfl, fun _ _ => rfl, fun q h => by cases h⟩ (lv_sub hl [0, 1, 2, 3, 4] rfl)

set_option maxHeartbeats 4000000 in
set_option maxRecDepth 100000 in
theorem ps_find_36 {v : rfE} {p : Program} {l : Launch} {e : Env} {s : State} {m : MethodId} {args : Array Value} {below : List Frame} {meth : Method} {c : Code} {d : Nat} {rec : Nat → RS → List Int → Option (RS × Int)} {σ' : RS} {r : Int} (hR : rf_Rec l v d rec) (B : rf_B v p s m args meth c cX12_find 4 none) : ∀ (σ : RS) (x3 t0 : Int), inR x3 → inR t0 → pf_find_36 rec σ x3 t0 = some (σ', r) → ∀ (H : Heap) (locs : List Loc) (ls : Array Slot), rf_W v s σ H locs → lv_has ls 4 [(0, .ref (rf_h v)), (3, .int (rI x3))] → W p l e (rf_rm (d + 1)) s m args below meth c H locs 0 0 (MQ below (rf_Q v σ' none) args s 0 0 (rf_F v)) (F0 m 36 ls [.int (rI t0), .ref (rf_h v)]) := by
  obtain ⟨hx, hb, hr, hml, hown, hts, hlk, hK, hD⟩ := id B
  intro σ x3 t0 ix3 it0 hf H locs ls hw hl
  unfold pf_find_36 at hf
  obtain ⟨b012, hf⟩ := rf_bo_s hf
  obtain ⟨σ1, eσ1, hf⟩ := rf_pi_s hf
  refine rf_put B hw 56 (by decide) rfl rfl lk_315 it0 eσ1 (rf_narZ b012) (rf_fitZ b012) dX12_find_36 (fun H locs hw => ?_)
  refine lv_aload_n hx hb dX12_find_39 rfl (lv_at hl 0 rfl) ?_
  obtain ⟨z3, ez3, iz3, hf⟩ := rf_gi_s hw hf
  refine rf_geti B hw 56 (by decide) rfl lk_315 ez3 dX12_find_40 ?_
  refine rn_if_eq (a := z3) (tgt := 66) hx hb iz3 dX12_find_43 (by decide) (fun c4 => ?_) (fun c4 => ?_)
  · replace hf := rf_if_t hf c4
    exact rf_retv B hf hw dX12_find_66
  · replace hf := rf_if_f hf c4
    refine lv_aload_n hx hb dX12_find_46 rfl (lv_at hl 0 rfl) ?_
    refine lv_aload_n hx hb dX12_find_47 rfl (lv_at hl 0 rfl) ?_
    refine rf_get (val := .ref (rf_ad v 46)) B hw 46 (by decide) lk_119 rfl dX12_find_48 ?_
    refine lv_iload_n hx hb dX12_find_51 rfl (lv_at hl 1 rfl) ?_
    obtain ⟨z5, ez5, iz5, rz5, hf⟩ := rf_rd_s hw hf
    refine rf_ald B hw ix3 rz5 ez5 dX12_find_52 ?_
    obtain ⟨σ6, eσ6, hf⟩ := rf_pi_s hf
    refine rf_put B hw 54 (by decide) rfl rfl lk_318 iz5 eσ6 rfl rfl dX12_find_53 (fun H locs hw => ?_)
    refine lv_aload_n hx hb dX12_find_56 rfl (lv_at hl 0 rfl) ?_
    refine lv_aload_n hx hb dX12_find_57 rfl (lv_at hl 0 rfl) ?_
    refine rf_get (val := .ref (rf_ad v 47)) B hw 47 (by decide) lk_122 rfl dX12_find_58 ?_
    refine lv_iload_n hx hb dX12_find_61 rfl (lv_at hl 1 rfl) ?_
    obtain ⟨z7, ez7, iz7, rz7, hf⟩ := rf_rd_s hw hf
    refine rf_ald B hw ix3 rz7 ez7 dX12_find_62 ?_
    obtain ⟨σ8, eσ8, hf⟩ := rf_pi_s hf
    refine rf_put B hw 55 (by decide) rfl rfl lk_321 iz7 eσ8 rfl rfl dX12_find_63 (fun H locs hw => ?_)
    exact rf_retv B hf hw dX12_find_66

set_option maxHeartbeats 4000000 in
set_option maxRecDepth 100000 in
theorem ps_find_26 {v : rfE} {p : Program} {l : Launch} {e : Env} {s : State} {m : MethodId} {args : Array Value} {below : List Frame} {meth : Method} {c : Code} {d : Nat} {rec : Nat → RS → List Int → Option (RS × Int)} {σ' : RS} {r : Int} (hR : rf_Rec l v d rec) (B : rf_B v p s m args meth c cX12_find 4 none) : ∀ (σ : RS) (x3 : Int), inR x3 → pf_find_26 rec σ x3 = some (σ', r) → ∀ (H : Heap) (locs : List Loc) (ls : Array Slot), rf_W v s σ H locs → lv_has ls 4 [(0, .ref (rf_h v)), (3, .int (rI x3))] → W p l e (rf_rm (d + 1)) s m args below meth c H locs 0 0 (MQ below (rf_Q v σ' none) args s 0 0 (rf_F v)) (F0 m 26 ls []) := by
  obtain ⟨hx, hb, hr, hml, hown, hts, hlk, hK, hD⟩ := id B
  intro σ x3 ix3 hf H locs ls hw hl
  unfold pf_find_26 at hf
  refine lv_aload_n hx hb dX12_find_26 rfl (lv_at hl 0 rfl) ?_
  refine lv_iload_n hx hb dX12_find_27 rfl (lv_at hl 1 rfl) ?_
  refine rn_if_eq (a := x3) (tgt := 35) hx hb ix3 dX12_find_28 (by decide) (fun c1 => ?_) (fun c1 => ?_)
  · replace hf := rf_if_t hf c1
    refine lv_iconst (v := rI 0) hx hb dX12_find_35 rfl ?_
    exact ps_find_36 hR B σ x3 0 ix3 ⟨by decide, by decide⟩ hf _ _ _ hw (lv_sub hl [0, 1] rfl)
  · replace hf := rf_if_f hf c1
    refine lv_iconst (v := rI 1) hx hb dX12_find_31 rfl ?_
    refine lv_goto (tgt := 36) hx hb dX12_find_32 (by decide) ?_
    exact ps_find_36 hR B σ x3 1 ix3 ⟨by decide, by decide⟩ hf _ _ _ hw (lv_sub hl [0, 1] rfl)

set_option maxHeartbeats 4000000 in
set_option maxRecDepth 100000 in
theorem ps_find_2 {v : rfE} {p : Program} {l : Launch} {e : Env} {s : State} {m : MethodId} {args : Array Value} {below : List Frame} {meth : Method} {c : Code} {d : Nat} {rec : Nat → RS → List Int → Option (RS × Int)} {σ' : RS} {r : Int} (hR : rf_Rec l v d rec) (B : rf_B v p s m args meth c cX12_find 4 none) : ∀ (n : Nat) (σ : RS) (x1 x3 : Int), inR x1 → inR x3 → pf_find_2 rec n σ x1 x3 = some (σ', r) → ∀ (H : Heap) (locs : List Loc) (ls : Array Slot), rf_W v s σ H locs → lv_has ls 4 [(0, .ref (rf_h v)), (1, .int (rI x1)), (3, .int (rI x3))] → W p l e (rf_rm (d + 1)) s m args below meth c H locs 0 0 (MQ below (rf_Q v σ' none) args s 0 0 (rf_F v)) (F0 m 2 ls []) := by
  obtain ⟨hx, hb, hr, hml, hown, hts, hlk, hK, hD⟩ := id B
  intro n
  induction n with
  | zero => intro σ x1 x3 ix1 ix3 hf; cases hf
  | succ n ih =>
    intro σ x1 x3 ix1 ix3 hf H locs ls hw hl
    unfold pf_find_2 at hf
    refine lv_iload_n hx hb dX12_find_2 rfl (lv_at hl 2 rfl) ?_
    refine rn_if_eq (a := x3) (tgt := 26) hx hb ix3 dX12_find_3 (by decide) (fun c1 => ?_) (fun c1 => ?_)
    · replace hf := rf_if_t hf c1
      exact ps_find_26 hR B σ x3 ix3 hf _ _ _ hw (lv_sub hl [0, 2] rfl)
    · replace hf := rf_if_f hf c1
      refine lv_aload_n hx hb dX12_find_6 rfl (lv_at hl 0 rfl) ?_
      refine rf_get (val := .ref (rf_ad v 45)) B hw 45 (by decide) lk_116 rfl dX12_find_7 ?_
      refine lv_iload_n hx hb dX12_find_10 rfl (lv_at hl 2 rfl) ?_
      obtain ⟨z2, ez2, iz2, rz2, hf⟩ := rf_rd_s hw hf
      refine rf_ald B hw ix3 rz2 ez2 dX12_find_11 ?_
      refine lv_iload_n hx hb dX12_find_12 rfl (lv_at hl 1 rfl) ?_
      refine rn_icmp_eq (a := z2) (b := x1) (tgt := 26) hx hb iz2 ix1 dX12_find_13 (by decide) (fun c3 => ?_) (fun c3 => ?_)
      · replace hf := rf_if_t hf c3
        exact ps_find_26 hR B σ x3 ix3 hf _ _ _ hw (lv_sub hl [0, 2] rfl)
      · replace hf := rf_if_f hf c3
        refine lv_aload_n hx hb dX12_find_16 rfl (lv_at hl 0 rfl) ?_
        refine rf_get (val := .ref (rf_ad v 44)) B hw 44 (by decide) lk_113 rfl dX12_find_17 ?_
        refine lv_iload_n hx hb dX12_find_20 rfl (lv_at hl 2 rfl) ?_
        obtain ⟨z4, ez4, iz4, rz4, hf⟩ := rf_rd_s hw hf
        refine rf_ald B hw ix3 rz4 ez4 dX12_find_21 ?_
        refine lv_istore_n (lv' := [(3, .int (rI z4)), (0, .ref (rf_h v)), (1, .int (rI x1))]) hx hb dX12_find_22 rfl hl (by decide) rfl (fun ls hl => ?_)
        refine lv_goto (tgt := 2) hx hb dX12_find_23 (by decide) ?_
        exact ih σ x1 z4 ix1 iz4 hf _ _ _ hw (lv_sub hl [1, 2, 0] rfl)

set_option maxHeartbeats 4000000 in
set_option maxRecDepth 100000 in
theorem ps_find_0 {v : rfE} {p : Program} {l : Launch} {e : Env} {s : State} {m : MethodId} {args : Array Value} {below : List Frame} {meth : Method} {c : Code} {d : Nat} {rec : Nat → RS → List Int → Option (RS × Int)} {σ' : RS} {r : Int} (hR : rf_Rec l v d rec) (B : rf_B v p s m args meth c cX12_find 4 none) : ∀ (σ : RS) (x1 x2 : Int), inR x1 → inR x2 → pf_find_0 rec σ x1 x2 = some (σ', r) → ∀ (H : Heap) (locs : List Loc) (ls : Array Slot), rf_W v s σ H locs → lv_has ls 4 [(0, .ref (rf_h v)), (1, .int (rI x1)), (2, .int (rI x2))] → W p l e (rf_rm (d + 1)) s m args below meth c H locs 0 0 (MQ below (rf_Q v σ' none) args s 0 0 (rf_F v)) (F0 m 0 ls []) := by
  obtain ⟨hx, hb, hr, hml, hown, hts, hlk, hK, hD⟩ := id B
  intro σ x1 x2 ix1 ix2 hf H locs ls hw hl
  unfold pf_find_0 at hf
  refine lv_iload_n hx hb dX12_find_0 rfl (lv_at hl 2 rfl) ?_
  refine lv_istore_n (lv' := [(3, .int (rI x2)), (0, .ref (rf_h v)), (1, .int (rI x1)), (2, .int (rI x2))]) hx hb dX12_find_1 rfl hl (by decide) rfl (fun ls hl => ?_)
  exact ps_find_2 hR B 200000 σ x1 x2 ix1 ix2 hf _ _ _ hw (lv_sub hl [1, 2, 0] rfl)

set_option maxHeartbeats 4000000 in
set_option maxRecDepth 100000 in
theorem pm_find {v : rfE} (hD : rf_D v) {l : Launch} {d : Nat} {rec : Nat → RS → List Int → Option (RS × Int)} (hR : rf_Rec l v d rec) (σ σ' : RS) (x1 x2 r : Int) (ix1 : inR x1) (ix2 : inR x2) (hf : pf_find_0 rec σ x1 x2 = some (σ', r)) : rf_Met l v yX12_find cX12_find 4 none (d + 1) [.ref (rf_h v), .int (rI x1), .int (rI x2)] σ σ' none := by
  refine Met.ofW (cc := cX12_find) (maxL := 4) (ret := none) (by decide +kernel) rfl ?_
  intro p e s m args below meth c s₁ B hml hv
  obtain ⟨rfl, hM, hK⟩ := hv
  have hts := atoms_spec (ws := Cond.code yX12_find cX12_find 4 none :: rf_bw) B.pre
  have hB : rf_B v p s m _ meth c cX12_find 4 none := ⟨B.exec, B.bytes, B.returns, hml, findClass_of_methodNamed B.named, fun w h => hts w (List.mem_cons_of_mem _ h), B.notSynchronized, hK, hD⟩
  have hl := lv_entry ([.ref (rf_h v), .int (rI x1), .int (rI x2)]) (n := 4) (Nat.le_of_ble_eq_true rfl)
  rw [lg_entry_eq]
  generalize (lg_sl ([.ref (rf_h v), .int (rI x1), .int (rI x2)]) ++ List.replicate (4 - (lg_sl ([.ref (rf_h v), .int (rI x1), .int (rI x2)])).length) Slot.unset).toArray = ls at hl ⊢
  exact ps_find_0 hR hB σ x1 x2 ix1 ix2 hf _ _ _ ⟨hM, rfl, fun _ _ => rfl, fun q h => by cases h⟩ (lv_sub hl [0, 1, 2] rfl)

set_option maxHeartbeats 4000000 in
set_option maxRecDepth 100000 in
theorem ps_head_428 {v : rfE} {p : Program} {l : Launch} {e : Env} {s : State} {m : MethodId} {args : Array Value} {below : List Frame} {meth : Method} {c : Code} {d : Nat} {rec : Nat → RS → List Int → Option (RS × Int)} {σ' : RS} {r : Int} (hR : rf_Rec l v d rec) (B : rf_B v p s m args meth c cX12_head 8 none) (k25 : RS → Int → Int → Int → Int → Option (RS × Int)) (hk25 : ∀ (σ : RS) (x3 x4 x5 x6 : Int), inR x3 → inR x4 → inR x5 → inR x6 → k25 σ x3 x4 x5 x6 = some (σ', r) → ∀ (H : Heap) (locs : List Loc) (ls : Array Slot), rf_W v s σ H locs → lv_has ls 8 [(0, .ref (rf_h v)), (3, .int (rI x3)), (4, .int (rI x4)), (5, .int (rI x5)), (6, .int (rI x6))] → W p l e (rf_rm (d + 1)) s m args below meth c H locs 0 0 (MQ below (rf_Q v σ' none) args s 0 0 (rf_F v)) (F0 m 25 ls [])) : ∀ (σ : RS) (x3 x4 x5 x6 : Int), inR x3 → inR x4 → inR x5 → inR x6 → pf_head_428 rec k25 σ x3 x4 x5 x6 = some (σ', r) → ∀ (H : Heap) (locs : List Loc) (ls : Array Slot), rf_W v s σ H locs → lv_has ls 8 [(0, .ref (rf_h v)), (3, .int (rI x3)), (4, .int (rI x4)), (5, .int (rI x5)), (6, .int (rI x6))] → W p l e (rf_rm (d + 1)) s m args below meth c H locs 0 0 (MQ below (rf_Q v σ' none) args s 0 0 (rf_F v)) (F0 m 428 ls []) := by
  obtain ⟨hx, hb, hr, hml, hown, hts, hlk, hK, hD⟩ := id B
  intro σ x3 x4 x5 x6 ix3 ix4 ix5 ix6 hf H locs ls hw hl
  unfold pf_head_428 at hf
  refine lv_goto (tgt := 25) hx hb dX12_head_428 (by decide) ?_
  exact hk25 σ x3 x4 x5 x6 ix3 ix4 ix5 ix6 hf _ _ _ hw (lv_sub hl [0, 1, 2, 3, 4] rfl)

set_option maxHeartbeats 4000000 in
set_option maxRecDepth 100000 in
theorem ps_head_173 {v : rfE} {p : Program} {l : Launch} {e : Env} {s : State} {m : MethodId} {args : Array Value} {below : List Frame} {meth : Method} {c : Code} {d : Nat} {rec : Nat → RS → List Int → Option (RS × Int)} {σ' : RS} {r : Int} (hR : rf_Rec l v d rec) (B : rf_B v p s m args meth c cX12_head 8 none) (k25 : RS → Int → Int → Int → Int → Option (RS × Int)) (hk25 : ∀ (σ : RS) (x3 x4 x5 x6 : Int), inR x3 → inR x4 → inR x5 → inR x6 → k25 σ x3 x4 x5 x6 = some (σ', r) → ∀ (H : Heap) (locs : List Loc) (ls : Array Slot), rf_W v s σ H locs → lv_has ls 8 [(0, .ref (rf_h v)), (3, .int (rI x3)), (4, .int (rI x4)), (5, .int (rI x5)), (6, .int (rI x6))] → W p l e (rf_rm (d + 1)) s m args below meth c H locs 0 0 (MQ below (rf_Q v σ' none) args s 0 0 (rf_F v)) (F0 m 25 ls [])) : ∀ (σ : RS) (x3 x4 x5 x6 : Int), inR x3 → inR x4 → inR x5 → inR x6 → pf_head_173 rec k25 σ x3 x4 x5 x6 = some (σ', r) → ∀ (H : Heap) (locs : List Loc) (ls : Array Slot), rf_W v s σ H locs → lv_has ls 8 [(0, .ref (rf_h v)), (3, .int (rI x3)), (4, .int (rI x4)), (5, .int (rI x5)), (6, .int (rI x6))] → W p l e (rf_rm (d + 1)) s m args below meth c H locs 0 0 (MQ below (rf_Q v σ' none) args s 0 0 (rf_F v)) (F0 m 173 ls []) := by
  obtain ⟨hx, hb, hr, hml, hown, hts, hlk, hK, hD⟩ := id B
  intro σ x3 x4 x5 x6 ix3 ix4 ix5 ix6 hf H locs ls hw hl
  unfold pf_head_173 at hf
  refine lv_aload_n hx hb dX12_head_173 rfl (lv_at hl 0 rfl) ?_
  obtain ⟨z1, ez1, iz1, hf⟩ := rf_gi_s hw hf
  refine rf_geti B hw 56 (by decide) rfl lk_315 ez1 dX12_head_174 ?_
  refine rn_if_eq (a := z1) (tgt := 428) hx hb iz1 dX12_head_177 (by decide) (fun c2 => ?_) (fun c2 => ?_)
  · replace hf := rf_if_t hf c2
    exact ps_head_428 hR B k25 hk25 σ x3 x4 x5 x6 ix3 ix4 ix5 ix6 hf _ _ _ hw (lv_sub hl [0, 1, 2, 3, 4] rfl)
  · replace hf := rf_if_f hf c2
    refine lv_aload_n hx hb dX12_head_180 rfl (lv_at hl 0 rfl) ?_
    obtain ⟨σ3, z4, hσ3, hf⟩ := rf_cl_s hf
    obtain ⟨iz4, mσ3⟩ := hR 28 σ [] σ3 z4 hσ3
    have mσ3 : rf_Met l v yX12_may cX12_may 1 (some .boolean) d [.ref (rf_h v)] σ σ3 (some (.int (rI z4))) := mσ3
    refine rf_cv (n := 0) (rest := []) (As := []) B mσ3 g_309_may (by decide +kernel) (by decide) rfl hl.1 (Nat.le_of_ble_eq_true rfl) dX12_head_181 rfl hw (fun H locs hw => ?_)
    refine rn_if_eq (a := z4) (tgt := 428) hx hb iz4 dX12_head_184 (by decide) (fun c5 => ?_) (fun c5 => ?_)
    · replace hf := rf_if_t hf c5
      exact ps_head_428 hR B k25 hk25 σ3 x3 x4 x5 x6 ix3 ix4 ix5 ix6 hf _ _ _ hw (lv_sub hl [0, 1, 2, 3, 4] rfl)
    · replace hf := rf_if_f hf c5
      refine lv_aload_n hx hb dX12_head_187 rfl (lv_at hl 0 rfl) ?_
      refine lv_dup hx hb dX12_head_188 rfl ?_
      obtain ⟨z6, ez6, iz6, hf⟩ := rf_gi_s hw hf
      refine rf_geti B hw 70 (by decide) rfl lk_333 ez6 dX12_head_189 ?_
      refine lv_iconst (v := rI 1) hx hb dX12_head_192 rfl ?_
      obtain ⟨z7, ez7, iz7, hf⟩ := rf_ck_s hf
      refine rn_add hx hb ez7 dX12_head_193 ?_
      obtain ⟨σ8, eσ8, hf⟩ := rf_pi_s hf
      refine rf_put B hw 70 (by decide) rfl rfl lk_333 iz7 eσ8 rfl rfl dX12_head_194 (fun H locs hw => ?_)
      refine lv_aload_n hx hb dX12_head_197 rfl (lv_at hl 0 rfl) ?_
      obtain ⟨z9, ez9, iz9, hf⟩ := rf_gi_s hw hf
      refine rf_geti B hw 54 (by decide) rfl lk_318 ez9 dX12_head_198 ?_
      refine lv_istore (lv' := [(4, .int (rI z9)), (0, .ref (rf_h v)), (3, .int (rI x3)), (5, .int (rI x5)), (6, .int (rI x6))]) hx hb dX12_head_201 hl (by decide) rfl (fun ls hl => ?_)
      refine lv_aload_n hx hb dX12_head_203 rfl (lv_at hl 1 rfl) ?_
      obtain ⟨z10, ez10, iz10, hf⟩ := rf_gi_s hw hf
      refine rf_geti B hw 55 (by decide) rfl lk_321 ez10 dX12_head_204 ?_
      refine lv_istore (lv' := [(5, .int (rI z10)), (4, .int (rI z9)), (0, .ref (rf_h v)), (3, .int (rI x3)), (6, .int (rI x6))]) hx hb dX12_head_207 hl (by decide) rfl (fun ls hl => ?_)
      refine lv_iconst (v := rI 1) hx hb dX12_head_209 rfl ?_
      refine lv_istore (lv' := [(6, .int (rI 1)), (5, .int (rI z10)), (4, .int (rI z9)), (0, .ref (rf_h v)), (3, .int (rI x3))]) hx hb dX12_head_210 hl (by decide) rfl (fun ls hl => ?_)
      refine lv_goto (tgt := 428) hx hb dX12_head_212 (by decide) ?_
      exact ps_head_428 hR B k25 hk25 σ8 x3 z9 z10 1 ix3 iz9 iz10 ⟨by decide, by decide⟩ hf _ _ _ hw (lv_sub hl [3, 4, 2, 1, 0] rfl)

set_option maxHeartbeats 4000000 in
set_option maxRecDepth 100000 in
theorem ps_head_367 {v : rfE} {p : Program} {l : Launch} {e : Env} {s : State} {m : MethodId} {args : Array Value} {below : List Frame} {meth : Method} {c : Code} {d : Nat} {rec : Nat → RS → List Int → Option (RS × Int)} {σ' : RS} {r : Int} (hR : rf_Rec l v d rec) (B : rf_B v p s m args meth c cX12_head 8 none) (k25 : RS → Int → Int → Int → Int → Option (RS × Int)) (hk25 : ∀ (σ : RS) (x3 x4 x5 x6 : Int), inR x3 → inR x4 → inR x5 → inR x6 → k25 σ x3 x4 x5 x6 = some (σ', r) → ∀ (H : Heap) (locs : List Loc) (ls : Array Slot), rf_W v s σ H locs → lv_has ls 8 [(0, .ref (rf_h v)), (3, .int (rI x3)), (4, .int (rI x4)), (5, .int (rI x5)), (6, .int (rI x6))] → W p l e (rf_rm (d + 1)) s m args below meth c H locs 0 0 (MQ below (rf_Q v σ' none) args s 0 0 (rf_F v)) (F0 m 25 ls [])) : ∀ (σ : RS) (x3 x4 x5 x6 x7 : Int), inR x3 → inR x4 → inR x5 → inR x6 → inR x7 → pf_head_367 rec k25 σ x3 x4 x5 x6 x7 = some (σ', r) → ∀ (H : Heap) (locs : List Loc) (ls : Array Slot), rf_W v s σ H locs → lv_has ls 8 [(0, .ref (rf_h v)), (3, .int (rI x3)), (4, .int (rI x4)), (5, .int (rI x5)), (6, .int (rI x6)), (7, .int (rI x7))] → W p l e (rf_rm (d + 1)) s m args below meth c H locs 0 0 (MQ below (rf_Q v σ' none) args s 0 0 (rf_F v)) (F0 m 367 ls []) := by
  obtain ⟨hx, hb, hr, hml, hown, hts, hlk, hK, hD⟩ := id B
  intro σ x3 x4 x5 x6 x7 ix3 ix4 ix5 ix6 ix7 hf H locs ls hw hl
  unfold pf_head_367 at hf
  refine lv_iload hx hb dX12_head_367 (lv_at hl 5 rfl) ?_
  refine lv_bipush (v := rI 6) hx hb dX12_head_369 (by decide +kernel) ?_
  refine rn_icmp_ne (a := x7) (b := 6) (tgt := 428) hx hb ix7 ⟨by decide, by decide⟩ dX12_head_371 (by decide) (fun c1 => ?_) (fun c1 => ?_)
  · replace hf := rf_if_t hf c1
    exact ps_head_428 hR B k25 hk25 σ x3 x4 x5 x6 ix3 ix4 ix5 ix6 hf _ _ _ hw (lv_sub hl [0, 1, 2, 3, 4] rfl)
  · replace hf := rf_if_f hf c1
    refine lv_aload_n hx hb dX12_head_374 rfl (lv_at hl 0 rfl) ?_
    obtain ⟨σ2, z3, hσ2, hf⟩ := rf_cl_s hf
    obtain ⟨iz3, mσ2⟩ := hR 28 σ [] σ2 z3 hσ2
    have mσ2 : rf_Met l v yX12_may cX12_may 1 (some .boolean) d [.ref (rf_h v)] σ σ2 (some (.int (rI z3))) := mσ2
    refine rf_cv (n := 0) (rest := []) (As := []) B mσ2 g_309_may (by decide +kernel) (by decide) rfl hl.1 (Nat.le_of_ble_eq_true rfl) dX12_head_375 rfl hw (fun H locs hw => ?_)
    refine lv_istore (lv' := [(6, .int (rI z3)), (0, .ref (rf_h v)), (3, .int (rI x3)), (4, .int (rI x4)), (5, .int (rI x5)), (7, .int (rI x7))]) hx hb dX12_head_378 hl (by decide) rfl (fun ls hl => ?_)
    refine lv_iload hx hb dX12_head_380 (lv_at hl 0 rfl) ?_
    refine rn_if_eq (a := z3) (tgt := 428) hx hb iz3 dX12_head_382 (by decide) (fun c4 => ?_) (fun c4 => ?_)
    · replace hf := rf_if_t hf c4
      exact ps_head_428 hR B k25 hk25 σ2 x3 x4 x5 z3 ix3 ix4 ix5 iz3 hf _ _ _ hw (lv_sub hl [1, 2, 3, 4, 0] rfl)
    · replace hf := rf_if_f hf c4
      refine lv_aload_n hx hb dX12_head_385 rfl (lv_at hl 1 rfl) ?_
      refine lv_dup hx hb dX12_head_386 rfl ?_
      obtain ⟨z5, ez5, iz5, hf⟩ := rf_gi_s hw hf
      refine rf_geti B hw 68 (by decide) rfl lk_345 ez5 dX12_head_387 ?_
      refine lv_iconst (v := rI 1) hx hb dX12_head_390 rfl ?_
      obtain ⟨z6, ez6, iz6, hf⟩ := rf_ck_s hf
      refine rn_add hx hb ez6 dX12_head_391 ?_
      obtain ⟨σ7, eσ7, hf⟩ := rf_pi_s hf
      refine rf_put B hw 68 (by decide) rfl rfl lk_345 iz6 eσ7 rfl rfl dX12_head_392 (fun H locs hw => ?_)
      refine lv_aload_n hx hb dX12_head_395 rfl (lv_at hl 1 rfl) ?_
      refine lv_iload hx hb dX12_head_396 (lv_at hl 4 rfl) ?_
      refine lv_aload_n hx hb dX12_head_398 rfl (lv_at hl 1 rfl) ?_
      refine rf_get (val := .ref (rf_ad v 38)) B hw 38 (by decide) lk_100 rfl dX12_head_399 ?_
      refine lv_iload hx hb dX12_head_402 (lv_at hl 3 rfl) ?_
      obtain ⟨z8, ez8, iz8, rz8, hf⟩ := rf_rd_s hw hf
      refine rf_ald B hw ix4 rz8 ez8 dX12_head_404 ?_
      refine lv_aload_n hx hb dX12_head_405 rfl (lv_at hl 1 rfl) ?_
      refine rf_get (val := .ref (rf_ad v 32)) B hw 32 (by decide) lk_82 rfl dX12_head_406 ?_
      refine lv_iload hx hb dX12_head_409 (lv_at hl 3 rfl) ?_
      obtain ⟨z9, ez9, iz9, rz9, hf⟩ := rf_rd_s hw hf
      refine rf_ald B hw ix4 rz9 ez9 dX12_head_411 ?_
      refine lv_iload hx hb dX12_head_412 (lv_at hl 4 rfl) ?_
      obtain ⟨σ10, z11, hσ10, hf⟩ := rf_cl_s hf
      obtain ⟨iz11, mσ10⟩ := hR 30 σ7 [x5, z8, z9, x5] σ10 z11 hσ10
      have mσ10 : rf_Met l v yX12_cell cX12_cell 5 (some .int) d [.ref (rf_h v), .int (rI x5), .int (rI z8), .int (rI z9), .int (rI x5)] σ7 σ10 (some (.int (rI z11))) := mσ10 ix5 iz8 iz9 ix5
      refine rf_cv (n := 4) (rest := []) (As := [.int (rI x5), .int (rI z8), .int (rI z9), .int (rI x5)]) B mσ10 g_342_cell (by decide +kernel) (by decide) rfl hl.1 (Nat.le_of_ble_eq_true rfl) dX12_head_414 rfl hw (fun H locs hw => ?_)
      refine lv_istore (lv' := [(5, .int (rI z11)), (6, .int (rI z3)), (0, .ref (rf_h v)), (3, .int (rI x3)), (4, .int (rI x4)), (7, .int (rI x7))]) hx hb dX12_head_417 hl (by decide) rfl (fun ls hl => ?_)
      refine lv_aload_n hx hb dX12_head_419 rfl (lv_at hl 2 rfl) ?_
      refine rf_get (val := .ref (rf_ad v 33)) B hw 33 (by decide) lk_85 rfl dX12_head_420 ?_
      refine lv_iload hx hb dX12_head_423 (lv_at hl 4 rfl) ?_
      obtain ⟨z12, ez12, iz12, rz12, hf⟩ := rf_rd_s hw hf
      refine rf_ald B hw ix4 rz12 ez12 dX12_head_425 ?_
      refine lv_istore (lv' := [(4, .int (rI z12)), (5, .int (rI z11)), (6, .int (rI z3)), (0, .ref (rf_h v)), (3, .int (rI x3)), (7, .int (rI x7))]) hx hb dX12_head_426 hl (by decide) rfl (fun ls hl => ?_)
      exact ps_head_428 hR B k25 hk25 σ10 x3 z12 z11 z3 ix3 iz12 iz11 iz3 hf _ _ _ hw (lv_sub hl [3, 4, 0, 1, 2] rfl)

set_option maxHeartbeats 4000000 in
set_option maxRecDepth 100000 in
theorem ps_head_277 {v : rfE} {p : Program} {l : Launch} {e : Env} {s : State} {m : MethodId} {args : Array Value} {below : List Frame} {meth : Method} {c : Code} {d : Nat} {rec : Nat → RS → List Int → Option (RS × Int)} {σ' : RS} {r : Int} (hR : rf_Rec l v d rec) (B : rf_B v p s m args meth c cX12_head 8 none) (k25 : RS → Int → Int → Int → Int → Option (RS × Int)) (hk25 : ∀ (σ : RS) (x3 x4 x5 x6 : Int), inR x3 → inR x4 → inR x5 → inR x6 → k25 σ x3 x4 x5 x6 = some (σ', r) → ∀ (H : Heap) (locs : List Loc) (ls : Array Slot), rf_W v s σ H locs → lv_has ls 8 [(0, .ref (rf_h v)), (3, .int (rI x3)), (4, .int (rI x4)), (5, .int (rI x5)), (6, .int (rI x6))] → W p l e (rf_rm (d + 1)) s m args below meth c H locs 0 0 (MQ below (rf_Q v σ' none) args s 0 0 (rf_F v)) (F0 m 25 ls [])) : ∀ (σ : RS) (x3 x4 x5 x6 x7 : Int), inR x3 → inR x4 → inR x5 → inR x6 → inR x7 → pf_head_277 rec k25 σ x3 x4 x5 x6 x7 = some (σ', r) → ∀ (H : Heap) (locs : List Loc) (ls : Array Slot), rf_W v s σ H locs → lv_has ls 8 [(0, .ref (rf_h v)), (3, .int (rI x3)), (4, .int (rI x4)), (5, .int (rI x5)), (6, .int (rI x6)), (7, .int (rI x7))] → W p l e (rf_rm (d + 1)) s m args below meth c H locs 0 0 (MQ below (rf_Q v σ' none) args s 0 0 (rf_F v)) (F0 m 277 ls []) := by
  obtain ⟨hx, hb, hr, hml, hown, hts, hlk, hK, hD⟩ := id B
  intro σ x3 x4 x5 x6 x7 ix3 ix4 ix5 ix6 ix7 hf H locs ls hw hl
  unfold pf_head_277 at hf
  refine lv_iload hx hb dX12_head_277 (lv_at hl 5 rfl) ?_
  refine lv_iconst (v := rI 4) hx hb dX12_head_279 rfl ?_
  refine rn_icmp_ne (a := x7) (b := 4) (tgt := 367) hx hb ix7 ⟨by decide, by decide⟩ dX12_head_280 (by decide) (fun c1 => ?_) (fun c1 => ?_)
  · replace hf := rf_if_t hf c1
    exact ps_head_367 hR B k25 hk25 σ x3 x4 x5 x6 x7 ix3 ix4 ix5 ix6 ix7 hf _ _ _ hw (lv_sub hl [0, 1, 2, 3, 4, 5] rfl)
  · replace hf := rf_if_f hf c1
    refine lv_aload_n hx hb dX12_head_283 rfl (lv_at hl 0 rfl) ?_
    obtain ⟨z2, ez2, iz2, hf⟩ := rf_gi_s hw hf
    refine rf_geti B hw 51 (by decide) rfl lk_324 ez2 dX12_head_284 ?_
    refine lv_iload_n hx hb dX12_head_287 rfl (lv_at hl 1 rfl) ?_
    refine rn_icmp_le (a := z2) (b := x3) (tgt := 367) hx hb iz2 ix3 dX12_head_288 (by decide) (fun c3 => ?_) (fun c3 => ?_)
    · replace hf := rf_if_t hf c3
      exact ps_head_367 hR B k25 hk25 σ x3 x4 x5 x6 x7 ix3 ix4 ix5 ix6 ix7 hf _ _ _ hw (lv_sub hl [0, 1, 2, 3, 4, 5] rfl)
    · replace hf := rf_if_f hf c3
      refine lv_aload_n hx hb dX12_head_291 rfl (lv_at hl 0 rfl) ?_
      obtain ⟨σ4, z5, hσ4, hf⟩ := rf_cl_s hf
      obtain ⟨iz5, mσ4⟩ := hR 28 σ [] σ4 z5 hσ4
      have mσ4 : rf_Met l v yX12_may cX12_may 1 (some .boolean) d [.ref (rf_h v)] σ σ4 (some (.int (rI z5))) := mσ4
      refine rf_cv (n := 0) (rest := []) (As := []) B mσ4 g_309_may (by decide +kernel) (by decide) rfl hl.1 (Nat.le_of_ble_eq_true rfl) dX12_head_292 rfl hw (fun H locs hw => ?_)
      refine lv_istore (lv' := [(6, .int (rI z5)), (0, .ref (rf_h v)), (3, .int (rI x3)), (4, .int (rI x4)), (5, .int (rI x5)), (7, .int (rI x7))]) hx hb dX12_head_295 hl (by decide) rfl (fun ls hl => ?_)
      refine lv_iload hx hb dX12_head_297 (lv_at hl 0 rfl) ?_
      refine rn_if_eq (a := z5) (tgt := 428) hx hb iz5 dX12_head_299 (by decide) (fun c6 => ?_) (fun c6 => ?_)
      · replace hf := rf_if_t hf c6
        exact ps_head_428 hR B k25 hk25 σ4 x3 x4 x5 z5 ix3 ix4 ix5 iz5 hf _ _ _ hw (lv_sub hl [1, 2, 3, 4, 0] rfl)
      · replace hf := rf_if_f hf c6
        refine lv_aload_n hx hb dX12_head_302 rfl (lv_at hl 1 rfl) ?_
        refine lv_dup hx hb dX12_head_303 rfl ?_
        obtain ⟨z7, ez7, iz7, hf⟩ := rf_gi_s hw hf
        refine rf_geti B hw 66 (by decide) rfl lk_339 ez7 dX12_head_304 ?_
        refine lv_iconst (v := rI 1) hx hb dX12_head_307 rfl ?_
        obtain ⟨z8, ez8, iz8, hf⟩ := rf_ck_s hf
        refine rn_add hx hb ez8 dX12_head_308 ?_
        obtain ⟨σ9, eσ9, hf⟩ := rf_pi_s hf
        refine rf_put B hw 66 (by decide) rfl rfl lk_339 iz8 eσ9 rfl rfl dX12_head_309 (fun H locs hw => ?_)
        refine lv_aload_n hx hb dX12_head_312 rfl (lv_at hl 1 rfl) ?_
        refine lv_dup hx hb dX12_head_313 rfl ?_
        obtain ⟨z10, ez10, iz10, hf⟩ := rf_gi_s hw hf
        refine rf_geti B hw 51 (by decide) rfl lk_324 ez10 dX12_head_314 ?_
        refine lv_iconst (v := rI 1) hx hb dX12_head_317 rfl ?_
        obtain ⟨z11, ez11, iz11, hf⟩ := rf_ck_s hf
        refine rn_sub hx hb ez11 dX12_head_318 ?_
        obtain ⟨σ12, eσ12, hf⟩ := rf_pi_s hf
        refine rf_put B hw 51 (by decide) rfl rfl lk_324 iz11 eσ12 rfl rfl dX12_head_319 (fun H locs hw => ?_)
        refine lv_aload_n hx hb dX12_head_322 rfl (lv_at hl 1 rfl) ?_
        refine lv_iload hx hb dX12_head_323 (lv_at hl 4 rfl) ?_
        refine lv_aload_n hx hb dX12_head_325 rfl (lv_at hl 1 rfl) ?_
        refine rf_get (val := .ref (rf_ad v 38)) B hw 38 (by decide) lk_100 rfl dX12_head_326 ?_
        refine lv_iload hx hb dX12_head_329 (lv_at hl 3 rfl) ?_
        obtain ⟨z13, ez13, iz13, rz13, hf⟩ := rf_rd_s hw hf
        refine rf_ald B hw ix4 rz13 ez13 dX12_head_331 ?_
        refine lv_aload_n hx hb dX12_head_332 rfl (lv_at hl 1 rfl) ?_
        refine rf_get (val := .ref (rf_ad v 49)) B hw 49 (by decide) lk_128 rfl dX12_head_333 ?_
        refine lv_aload_n hx hb dX12_head_336 rfl (lv_at hl 1 rfl) ?_
        obtain ⟨z14, ez14, iz14, hf⟩ := rf_gi_s hw hf
        refine rf_geti B hw 51 (by decide) rfl lk_324 ez14 dX12_head_337 ?_
        obtain ⟨z15, ez15, iz15, rz15, hf⟩ := rf_rd_s hw hf
        refine rf_ald B hw iz14 rz15 ez15 dX12_head_340 ?_
        refine lv_aload_n hx hb dX12_head_341 rfl (lv_at hl 1 rfl) ?_
        refine rf_get (val := .ref (rf_ad v 50)) B hw 50 (by decide) lk_131 rfl dX12_head_342 ?_
        refine lv_aload_n hx hb dX12_head_345 rfl (lv_at hl 1 rfl) ?_
        obtain ⟨z16, ez16, iz16, hf⟩ := rf_gi_s hw hf
        refine rf_geti B hw 51 (by decide) rfl lk_324 ez16 dX12_head_346 ?_
        obtain ⟨z17, ez17, iz17, rz17, hf⟩ := rf_rd_s hw hf
        refine rf_ald B hw iz16 rz17 ez17 dX12_head_349 ?_
        obtain ⟨σ18, z19, hσ18, hf⟩ := rf_cl_s hf
        obtain ⟨iz19, mσ18⟩ := hR 30 σ12 [x5, z13, z15, z17] σ18 z19 hσ18
        have mσ18 : rf_Met l v yX12_cell cX12_cell 5 (some .int) d [.ref (rf_h v), .int (rI x5), .int (rI z13), .int (rI z15), .int (rI z17)] σ12 σ18 (some (.int (rI z19))) := mσ18 ix5 iz13 iz15 iz17
        refine rf_cv (n := 4) (rest := []) (As := [.int (rI x5), .int (rI z13), .int (rI z15), .int (rI z17)]) B mσ18 g_342_cell (by decide +kernel) (by decide) rfl hl.1 (Nat.le_of_ble_eq_true rfl) dX12_head_350 rfl hw (fun H locs hw => ?_)
        refine lv_istore (lv' := [(5, .int (rI z19)), (6, .int (rI z5)), (0, .ref (rf_h v)), (3, .int (rI x3)), (4, .int (rI x4)), (7, .int (rI x7))]) hx hb dX12_head_353 hl (by decide) rfl (fun ls hl => ?_)
        refine lv_aload_n hx hb dX12_head_355 rfl (lv_at hl 2 rfl) ?_
        refine rf_get (val := .ref (rf_ad v 33)) B hw 33 (by decide) lk_85 rfl dX12_head_356 ?_
        refine lv_iload hx hb dX12_head_359 (lv_at hl 4 rfl) ?_
        obtain ⟨z20, ez20, iz20, rz20, hf⟩ := rf_rd_s hw hf
        refine rf_ald B hw ix4 rz20 ez20 dX12_head_361 ?_
        refine lv_istore (lv' := [(4, .int (rI z20)), (5, .int (rI z19)), (6, .int (rI z5)), (0, .ref (rf_h v)), (3, .int (rI x3)), (7, .int (rI x7))]) hx hb dX12_head_362 hl (by decide) rfl (fun ls hl => ?_)
        refine lv_goto (tgt := 428) hx hb dX12_head_364 (by decide) ?_
        exact ps_head_428 hR B k25 hk25 σ18 x3 z20 z19 z5 ix3 iz20 iz19 iz5 hf _ _ _ hw (lv_sub hl [3, 4, 0, 1, 2] rfl)

set_option maxHeartbeats 4000000 in
set_option maxRecDepth 100000 in
theorem ps_head_46 {v : rfE} {p : Program} {l : Launch} {e : Env} {s : State} {m : MethodId} {args : Array Value} {below : List Frame} {meth : Method} {c : Code} {d : Nat} {rec : Nat → RS → List Int → Option (RS × Int)} {σ' : RS} {r : Int} (hR : rf_Rec l v d rec) (B : rf_B v p s m args meth c cX12_head 8 none) (k25 : RS → Int → Int → Int → Int → Option (RS × Int)) (hk25 : ∀ (σ : RS) (x3 x4 x5 x6 : Int), inR x3 → inR x4 → inR x5 → inR x6 → k25 σ x3 x4 x5 x6 = some (σ', r) → ∀ (H : Heap) (locs : List Loc) (ls : Array Slot), rf_W v s σ H locs → lv_has ls 8 [(0, .ref (rf_h v)), (3, .int (rI x3)), (4, .int (rI x4)), (5, .int (rI x5)), (6, .int (rI x6))] → W p l e (rf_rm (d + 1)) s m args below meth c H locs 0 0 (MQ below (rf_Q v σ' none) args s 0 0 (rf_F v)) (F0 m 25 ls [])) : ∀ (σ : RS) (x3 x4 x5 t0 : Int), inR x3 → inR x4 → inR x5 → inR t0 → pf_head_46 rec k25 σ x3 x4 x5 t0 = some (σ', r) → ∀ (H : Heap) (locs : List Loc) (ls : Array Slot), rf_W v s σ H locs → lv_has ls 8 [(0, .ref (rf_h v)), (3, .int (rI x3)), (4, .int (rI x4)), (5, .int (rI x5))] → W p l e (rf_rm (d + 1)) s m args below meth c H locs 0 0 (MQ below (rf_Q v σ' none) args s 0 0 (rf_F v)) (F0 m 46 ls [.int (rI t0)]) := by
  obtain ⟨hx, hb, hr, hml, hown, hts, hlk, hK, hD⟩ := id B
  intro σ x3 x4 x5 t0 ix3 ix4 ix5 it0 hf H locs ls hw hl
  unfold pf_head_46 at hf
  refine lv_istore (lv' := [(7, .int (rI t0)), (0, .ref (rf_h v)), (3, .int (rI x3)), (4, .int (rI x4)), (5, .int (rI x5))]) hx hb dX12_head_46 hl (by decide) rfl (fun ls hl => ?_)
  refine lv_iconst (v := rI 0) hx hb dX12_head_48 rfl ?_
  refine lv_istore (lv' := [(6, .int (rI 0)), (7, .int (rI t0)), (0, .ref (rf_h v)), (3, .int (rI x3)), (4, .int (rI x4)), (5, .int (rI x5))]) hx hb dX12_head_49 hl (by decide) rfl (fun ls hl => ?_)
  refine lv_iload hx hb dX12_head_51 (lv_at hl 1 rfl) ?_
  refine lv_bipush (v := rI 7) hx hb dX12_head_53 (by decide +kernel) ?_
  refine rn_icmp_ne (a := t0) (b := 7) (tgt := 128) hx hb it0 ⟨by decide, by decide⟩ dX12_head_55 (by decide) (fun c1 => ?_) (fun c1 => ?_)
  · replace hf := rf_if_t hf c1
    refine lv_iload hx hb dX12_head_128 (lv_at hl 1 rfl) ?_
    refine lv_iconst (v := rI 1) hx hb dX12_head_130 rfl ?_
    refine rn_icmp_ne (a := t0) (b := 1) (tgt := 215) hx hb it0 ⟨by decide, by decide⟩ dX12_head_131 (by decide) (fun c2 => ?_) (fun c2 => ?_)
    · replace hf := rf_if_t hf c2
      refine lv_iload hx hb dX12_head_215 (lv_at hl 1 rfl) ?_
      refine lv_iconst (v := rI 2) hx hb dX12_head_217 rfl ?_
      refine rn_icmp_ne (a := t0) (b := 2) (tgt := 277) hx hb it0 ⟨by decide, by decide⟩ dX12_head_218 (by decide) (fun c3 => ?_) (fun c3 => ?_)
      · replace hf := rf_if_t hf c3
        exact ps_head_277 hR B k25 hk25 σ x3 x4 x5 0 t0 ix3 ix4 ix5 ⟨by decide, by decide⟩ it0 hf _ _ _ hw (lv_sub hl [2, 3, 4, 5, 0, 1] rfl)
      · replace hf := rf_if_f hf c3
        refine lv_aload_n hx hb dX12_head_221 rfl (lv_at hl 2 rfl) ?_
        refine rf_get (val := .ref (rf_ad v 25)) B hw 25 (by decide) lk_66 rfl dX12_head_222 ?_
        refine lv_aload_n hx hb dX12_head_225 rfl (lv_at hl 2 rfl) ?_
        refine rf_get (val := .ref (rf_ad v 31)) B hw 31 (by decide) lk_79 rfl dX12_head_226 ?_
        refine lv_iload hx hb dX12_head_229 (lv_at hl 4 rfl) ?_
        obtain ⟨z4, ez4, iz4, rz4, hf⟩ := rf_rd_s hw hf
        refine rf_ald B hw ix4 rz4 ez4 dX12_head_231 ?_
        obtain ⟨z5, ez5, iz5, rz5, hf⟩ := rf_rd_s hw hf
        refine rf_ald B hw iz4 rz5 ez5 dX12_head_232 ?_
        refine rn_if_lt (a := z5) (tgt := 277) hx hb iz5 dX12_head_233 (by decide) (fun c6 => ?_) (fun c6 => ?_)
        · replace hf := rf_if_t hf c6
          exact ps_head_277 hR B k25 hk25 σ x3 x4 x5 0 t0 ix3 ix4 ix5 ⟨by decide, by decide⟩ it0 hf _ _ _ hw (lv_sub hl [2, 3, 4, 5, 0, 1] rfl)
        · replace hf := rf_if_f hf c6
          refine lv_aload_n hx hb dX12_head_236 rfl (lv_at hl 2 rfl) ?_
          obtain ⟨σ7, z8, hσ7, hf⟩ := rf_cl_s hf
          obtain ⟨iz8, mσ7⟩ := hR 28 σ [] σ7 z8 hσ7
          have mσ7 : rf_Met l v yX12_may cX12_may 1 (some .boolean) d [.ref (rf_h v)] σ σ7 (some (.int (rI z8))) := mσ7
          refine rf_cv (n := 0) (rest := []) (As := []) B mσ7 g_309_may (by decide +kernel) (by decide) rfl hl.1 (Nat.le_of_ble_eq_true rfl) dX12_head_237 rfl hw (fun H locs hw => ?_)
          refine lv_istore (lv' := [(6, .int (rI z8)), (7, .int (rI t0)), (0, .ref (rf_h v)), (3, .int (rI x3)), (4, .int (rI x4)), (5, .int (rI x5))]) hx hb dX12_head_240 hl (by decide) rfl (fun ls hl => ?_)
          refine lv_iload hx hb dX12_head_242 (lv_at hl 0 rfl) ?_
          refine rn_if_eq (a := z8) (tgt := 428) hx hb iz8 dX12_head_244 (by decide) (fun c9 => ?_) (fun c9 => ?_)
          · replace hf := rf_if_t hf c9
            exact ps_head_428 hR B k25 hk25 σ7 x3 x4 x5 z8 ix3 ix4 ix5 iz8 hf _ _ _ hw (lv_sub hl [2, 3, 4, 5, 0] rfl)
          · replace hf := rf_if_f hf c9
            refine lv_aload_n hx hb dX12_head_247 rfl (lv_at hl 2 rfl) ?_
            refine lv_dup hx hb dX12_head_248 rfl ?_
            obtain ⟨z10, ez10, iz10, hf⟩ := rf_gi_s hw hf
            refine rf_geti B hw 67 (by decide) rfl lk_336 ez10 dX12_head_249 ?_
            refine lv_iconst (v := rI 1) hx hb dX12_head_252 rfl ?_
            obtain ⟨z11, ez11, iz11, hf⟩ := rf_ck_s hf
            refine rn_add hx hb ez11 dX12_head_253 ?_
            obtain ⟨σ12, eσ12, hf⟩ := rf_pi_s hf
            refine rf_put B hw 67 (by decide) rfl rfl lk_336 iz11 eσ12 rfl rfl dX12_head_254 (fun H locs hw => ?_)
            refine lv_aload_n hx hb dX12_head_257 rfl (lv_at hl 2 rfl) ?_
            refine rf_get (val := .ref (rf_ad v 25)) B hw 25 (by decide) lk_66 rfl dX12_head_258 ?_
            refine lv_aload_n hx hb dX12_head_261 rfl (lv_at hl 2 rfl) ?_
            refine rf_get (val := .ref (rf_ad v 31)) B hw 31 (by decide) lk_79 rfl dX12_head_262 ?_
            refine lv_iload hx hb dX12_head_265 (lv_at hl 4 rfl) ?_
            obtain ⟨z13, ez13, iz13, rz13, hf⟩ := rf_rd_s hw hf
            refine rf_ald B hw ix4 rz13 ez13 dX12_head_267 ?_
            obtain ⟨z14, ez14, iz14, rz14, hf⟩ := rf_rd_s hw hf
            refine rf_ald B hw iz13 rz14 ez14 dX12_head_268 ?_
            refine lv_istore (lv' := [(4, .int (rI z14)), (6, .int (rI z8)), (7, .int (rI t0)), (0, .ref (rf_h v)), (3, .int (rI x3)), (5, .int (rI x5))]) hx hb dX12_head_269 hl (by decide) rfl (fun ls hl => ?_)
            refine lv_iconst (v := rI 0) hx hb dX12_head_271 rfl ?_
            refine lv_istore (lv' := [(5, .int (rI 0)), (4, .int (rI z14)), (6, .int (rI z8)), (7, .int (rI t0)), (0, .ref (rf_h v)), (3, .int (rI x3))]) hx hb dX12_head_272 hl (by decide) rfl (fun ls hl => ?_)
            refine lv_goto (tgt := 428) hx hb dX12_head_274 (by decide) ?_
            exact ps_head_428 hR B k25 hk25 σ12 x3 z14 0 z8 ix3 iz14 ⟨by decide, by decide⟩ iz8 hf _ _ _ hw (lv_sub hl [4, 5, 1, 0, 2] rfl)
    · replace hf := rf_if_f hf c2
      refine lv_aload_n hx hb dX12_head_134 rfl (lv_at hl 2 rfl) ?_
      refine lv_aload_n hx hb dX12_head_135 rfl (lv_at hl 2 rfl) ?_
      refine rf_get (val := .ref (rf_ad v 31)) B hw 31 (by decide) lk_79 rfl dX12_head_136 ?_
      refine lv_iload hx hb dX12_head_139 (lv_at hl 4 rfl) ?_
      obtain ⟨z15, ez15, iz15, rz15, hf⟩ := rf_rd_s hw hf
      refine rf_ald B hw ix4 rz15 ez15 dX12_head_141 ?_
      refine lv_iload hx hb dX12_head_142 (lv_at hl 5 rfl) ?_
      obtain ⟨σ16, z17, hσ16, hf⟩ := rf_cl_s hf
      obtain ⟨iz17, mσ16⟩ := hR 31 σ [z15, x5] σ16 z17 hσ16
      have mσ16 : rf_Met l v yX12_find cX12_find 4 none d [.ref (rf_h v), .int (rI z15), .int (rI x5)] σ σ16 none := mσ16 iz15 ix5
      refine rf_cv (n := 2) (rest := []) (As := [.int (rI z15), .int (rI x5)]) B mσ16 g_330_find (by decide +kernel) (by decide) rfl hl.1 (Nat.le_of_ble_eq_true rfl) dX12_head_144 rfl hw (fun H locs hw => ?_)
      refine lv_aload_n hx hb dX12_head_147 rfl (lv_at hl 2 rfl) ?_
      obtain ⟨z18, ez18, iz18, hf⟩ := rf_gi_s hw hf
      refine rf_geti B hw 56 (by decide) rfl lk_315 ez18 dX12_head_148 ?_
      refine rn_if_eq (a := z18) (tgt := 173) hx hb iz18 dX12_head_151 (by decide) (fun c19 => ?_) (fun c19 => ?_)
      · replace hf := rf_if_t hf c19
        exact ps_head_173 hR B k25 hk25 σ16 x3 x4 x5 0 ix3 ix4 ix5 ⟨by decide, by decide⟩ hf _ _ _ hw (lv_sub hl [2, 3, 4, 5, 0] rfl)
      · replace hf := rf_if_f hf c19
        refine lv_aload_n hx hb dX12_head_154 rfl (lv_at hl 2 rfl) ?_
        obtain ⟨z20, ez20, iz20, hf⟩ := rf_gi_s hw hf
        refine rf_geti B hw 54 (by decide) rfl lk_318 ez20 dX12_head_155 ?_
        refine rn_if_ge (a := z20) (tgt := 173) hx hb iz20 dX12_head_158 (by decide) (fun c21 => ?_) (fun c21 => ?_)
        · replace hf := rf_if_t hf c21
          exact ps_head_173 hR B k25 hk25 σ16 x3 x4 x5 0 ix3 ix4 ix5 ⟨by decide, by decide⟩ hf _ _ _ hw (lv_sub hl [2, 3, 4, 5, 0] rfl)
        · replace hf := rf_if_f hf c21
          refine lv_aload_n hx hb dX12_head_161 rfl (lv_at hl 2 rfl) ?_
          obtain ⟨z22, ez22, iz22, hf⟩ := rf_gi_s hw hf
          refine rf_geti B hw 54 (by decide) rfl lk_318 ez22 dX12_head_162 ?_
          refine lv_istore (lv' := [(4, .int (rI z22)), (6, .int (rI 0)), (7, .int (rI t0)), (0, .ref (rf_h v)), (3, .int (rI x3)), (5, .int (rI x5))]) hx hb dX12_head_165 hl (by decide) rfl (fun ls hl => ?_)
          refine lv_iconst (v := rI 0) hx hb dX12_head_167 rfl ?_
          refine lv_istore (lv' := [(5, .int (rI 0)), (4, .int (rI z22)), (6, .int (rI 0)), (7, .int (rI t0)), (0, .ref (rf_h v)), (3, .int (rI x3))]) hx hb dX12_head_168 hl (by decide) rfl (fun ls hl => ?_)
          refine lv_goto (tgt := 428) hx hb dX12_head_170 (by decide) ?_
          exact ps_head_428 hR B k25 hk25 σ16 x3 z22 0 0 ix3 iz22 ⟨by decide, by decide⟩ ⟨by decide, by decide⟩ hf _ _ _ hw (lv_sub hl [4, 5, 1, 0, 2] rfl)
  · replace hf := rf_if_f hf c1
    refine lv_aload_n hx hb dX12_head_58 rfl (lv_at hl 2 rfl) ?_
    obtain ⟨σ23, z24, hσ23, hf⟩ := rf_cl_s hf
    obtain ⟨iz24, mσ23⟩ := hR 28 σ [] σ23 z24 hσ23
    have mσ23 : rf_Met l v yX12_may cX12_may 1 (some .boolean) d [.ref (rf_h v)] σ σ23 (some (.int (rI z24))) := mσ23
    refine rf_cv (n := 0) (rest := []) (As := []) B mσ23 g_309_may (by decide +kernel) (by decide) rfl hl.1 (Nat.le_of_ble_eq_true rfl) dX12_head_59 rfl hw (fun H locs hw => ?_)
    refine lv_istore (lv' := [(6, .int (rI z24)), (7, .int (rI t0)), (0, .ref (rf_h v)), (3, .int (rI x3)), (4, .int (rI x4)), (5, .int (rI x5))]) hx hb dX12_head_62 hl (by decide) rfl (fun ls hl => ?_)
    refine lv_iload hx hb dX12_head_64 (lv_at hl 0 rfl) ?_
    refine rn_if_eq (a := z24) (tgt := 428) hx hb iz24 dX12_head_66 (by decide) (fun c25 => ?_) (fun c25 => ?_)
    · replace hf := rf_if_t hf c25
      exact ps_head_428 hR B k25 hk25 σ23 x3 x4 x5 z24 ix3 ix4 ix5 iz24 hf _ _ _ hw (lv_sub hl [2, 3, 4, 5, 0] rfl)
    · replace hf := rf_if_f hf c25
      refine lv_aload_n hx hb dX12_head_69 rfl (lv_at hl 2 rfl) ?_
      refine lv_dup hx hb dX12_head_70 rfl ?_
      obtain ⟨z26, ez26, iz26, hf⟩ := rf_gi_s hw hf
      refine rf_geti B hw 69 (by decide) rfl lk_327 ez26 dX12_head_71 ?_
      refine lv_iconst (v := rI 1) hx hb dX12_head_74 rfl ?_
      obtain ⟨z27, ez27, iz27, hf⟩ := rf_ck_s hf
      refine rn_add hx hb ez27 dX12_head_75 ?_
      obtain ⟨σ28, eσ28, hf⟩ := rf_pi_s hf
      refine rf_put B hw 69 (by decide) rfl rfl lk_327 iz27 eσ28 rfl rfl dX12_head_76 (fun H locs hw => ?_)
      refine lv_aload_n hx hb dX12_head_79 rfl (lv_at hl 2 rfl) ?_
      refine rf_get (val := .ref (rf_ad v 49)) B hw 49 (by decide) lk_128 rfl dX12_head_80 ?_
      refine lv_aload_n hx hb dX12_head_83 rfl (lv_at hl 2 rfl) ?_
      obtain ⟨z29, ez29, iz29, hf⟩ := rf_gi_s hw hf
      refine rf_geti B hw 51 (by decide) rfl lk_324 ez29 dX12_head_84 ?_
      refine lv_aload_n hx hb dX12_head_87 rfl (lv_at hl 2 rfl) ?_
      refine rf_get (val := .ref (rf_ad v 33)) B hw 33 (by decide) lk_85 rfl dX12_head_88 ?_
      refine lv_iload hx hb dX12_head_91 (lv_at hl 4 rfl) ?_
      obtain ⟨z30, ez30, iz30, rz30, hf⟩ := rf_rd_s hw hf
      refine rf_ald B hw ix4 rz30 ez30 dX12_head_93 ?_
      obtain ⟨σ31, eσ31, rσ31, hf⟩ := rf_wr_s hf
      refine rf_ast B hw iz29 iz30 rσ31 eσ31 dX12_head_94 (fun H locs hw => ?_)
      refine lv_aload_n hx hb dX12_head_95 rfl (lv_at hl 2 rfl) ?_
      refine rf_get (val := .ref (rf_ad v 50)) B hw 50 (by decide) lk_131 rfl dX12_head_96 ?_
      refine lv_aload_n hx hb dX12_head_99 rfl (lv_at hl 2 rfl) ?_
      obtain ⟨z32, ez32, iz32, hf⟩ := rf_gi_s hw hf
      refine rf_geti B hw 51 (by decide) rfl lk_324 ez32 dX12_head_100 ?_
      refine lv_iload hx hb dX12_head_103 (lv_at hl 5 rfl) ?_
      obtain ⟨σ33, eσ33, rσ33, hf⟩ := rf_wr_s hf
      refine rf_ast B hw iz32 ix5 rσ33 eσ33 dX12_head_105 (fun H locs hw => ?_)
      refine lv_aload_n hx hb dX12_head_106 rfl (lv_at hl 2 rfl) ?_
      refine lv_dup hx hb dX12_head_107 rfl ?_
      obtain ⟨z34, ez34, iz34, hf⟩ := rf_gi_s hw hf
      refine rf_geti B hw 51 (by decide) rfl lk_324 ez34 dX12_head_108 ?_
      refine lv_iconst (v := rI 1) hx hb dX12_head_111 rfl ?_
      obtain ⟨z35, ez35, iz35, hf⟩ := rf_ck_s hf
      refine rn_add hx hb ez35 dX12_head_112 ?_
      obtain ⟨σ36, eσ36, hf⟩ := rf_pi_s hf
      refine rf_put B hw 51 (by decide) rfl rfl lk_324 iz35 eσ36 rfl rfl dX12_head_113 (fun H locs hw => ?_)
      refine lv_aload_n hx hb dX12_head_116 rfl (lv_at hl 2 rfl) ?_
      refine rf_get (val := .ref (rf_ad v 32)) B hw 32 (by decide) lk_82 rfl dX12_head_117 ?_
      refine lv_iload hx hb dX12_head_120 (lv_at hl 4 rfl) ?_
      obtain ⟨z37, ez37, iz37, rz37, hf⟩ := rf_rd_s hw hf
      refine rf_ald B hw ix4 rz37 ez37 dX12_head_122 ?_
      refine lv_istore (lv' := [(4, .int (rI z37)), (6, .int (rI z24)), (7, .int (rI t0)), (0, .ref (rf_h v)), (3, .int (rI x3)), (5, .int (rI x5))]) hx hb dX12_head_123 hl (by decide) rfl (fun ls hl => ?_)
      refine lv_goto (tgt := 428) hx hb dX12_head_125 (by decide) ?_
      exact ps_head_428 hR B k25 hk25 σ36 x3 z37 x5 z24 ix3 iz37 ix5 iz24 hf _ _ _ hw (lv_sub hl [3, 4, 0, 5, 1] rfl)

set_option maxHeartbeats 4000000 in
set_option maxRecDepth 100000 in
theorem ps_head_25 {v : rfE} {p : Program} {l : Launch} {e : Env} {s : State} {m : MethodId} {args : Array Value} {below : List Frame} {meth : Method} {c : Code} {d : Nat} {rec : Nat → RS → List Int → Option (RS × Int)} {σ' : RS} {r : Int} (hR : rf_Rec l v d rec) (B : rf_B v p s m args meth c cX12_head 8 none) : ∀ (n : Nat) (σ : RS) (x3 x4 x5 x6 : Int), inR x3 → inR x4 → inR x5 → inR x6 → pf_head_25 rec n σ x3 x4 x5 x6 = some (σ', r) → ∀ (H : Heap) (locs : List Loc) (ls : Array Slot), rf_W v s σ H locs → lv_has ls 8 [(0, .ref (rf_h v)), (3, .int (rI x3)), (4, .int (rI x4)), (5, .int (rI x5)), (6, .int (rI x6))] → W p l e (rf_rm (d + 1)) s m args below meth c H locs 0 0 (MQ below (rf_Q v σ' none) args s 0 0 (rf_F v)) (F0 m 25 ls []) := by
  obtain ⟨hx, hb, hr, hml, hown, hts, hlk, hK, hD⟩ := id B
  intro n
  induction n with
  | zero => intro σ x3 x4 x5 x6 ix3 ix4 ix5 ix6 hf; cases hf
  | succ n ih =>
    intro σ x3 x4 x5 x6 ix3 ix4 ix5 ix6 hf H locs ls hw hl
    unfold pf_head_25 at hf
    refine lv_iload hx hb dX12_head_25 (lv_at hl 4 rfl) ?_
    refine rn_if_eq (a := x6) (tgt := 431) hx hb ix6 dX12_head_27 (by decide) (fun c1 => ?_) (fun c1 => ?_)
    · replace hf := rf_if_t hf c1
      refine lv_aload_n hx hb dX12_head_431 rfl (lv_at hl 0 rfl) ?_
      refine lv_iload hx hb dX12_head_432 (lv_at hl 2 rfl) ?_
      obtain ⟨σ2, eσ2, hf⟩ := rf_pi_s hf
      refine rf_put B hw 52 (by decide) rfl rfl lk_348 ix4 eσ2 rfl rfl dX12_head_434 (fun H locs hw => ?_)
      refine lv_aload_n hx hb dX12_head_437 rfl (lv_at hl 0 rfl) ?_
      refine lv_iload hx hb dX12_head_438 (lv_at hl 3 rfl) ?_
      obtain ⟨σ3, eσ3, hf⟩ := rf_pi_s hf
      refine rf_put B hw 53 (by decide) rfl rfl lk_351 ix5 eσ3 rfl rfl dX12_head_440 (fun H locs hw => ?_)
      exact rf_retv B hf hw dX12_head_443
    · replace hf := rf_if_f hf c1
      refine lv_iload hx hb dX12_head_30 (lv_at hl 2 rfl) ?_
      refine rn_if_ge (a := x4) (tgt := 39) hx hb ix4 dX12_head_32 (by decide) (fun c4 => ?_) (fun c4 => ?_)
      · replace hf := rf_if_t hf c4
        refine lv_aload_n hx hb dX12_head_39 rfl (lv_at hl 0 rfl) ?_
        refine rf_get (val := .ref (rf_ad v 30)) B hw 30 (by decide) lk_76 rfl dX12_head_40 ?_
        refine lv_iload hx hb dX12_head_43 (lv_at hl 2 rfl) ?_
        obtain ⟨z5, ez5, iz5, rz5, hf⟩ := rf_rd_s hw hf
        refine rf_ald B hw ix4 rz5 ez5 dX12_head_45 ?_
        exact ps_head_46 hR B (pf_head_25 rec n) ih σ x3 x4 x5 z5 ix3 ix4 ix5 iz5 hf _ _ _ hw (lv_sub hl [0, 1, 2, 3] rfl)
      · replace hf := rf_if_f hf c4
        refine lv_iconst (v := rI (-1)) hx hb dX12_head_35 rfl ?_
        refine lv_goto (tgt := 46) hx hb dX12_head_36 (by decide) ?_
        exact ps_head_46 hR B (pf_head_25 rec n) ih σ x3 x4 x5 (-1) ix3 ix4 ix5 ⟨by decide, by decide⟩ hf _ _ _ hw (lv_sub hl [0, 1, 2, 3] rfl)

set_option maxHeartbeats 4000000 in
set_option maxRecDepth 100000 in
theorem ps_head_23 {v : rfE} {p : Program} {l : Launch} {e : Env} {s : State} {m : MethodId} {args : Array Value} {below : List Frame} {meth : Method} {c : Code} {d : Nat} {rec : Nat → RS → List Int → Option (RS × Int)} {σ' : RS} {r : Int} (hR : rf_Rec l v d rec) (B : rf_B v p s m args meth c cX12_head 8 none) : ∀ (σ : RS) (x3 x4 x5 t0 : Int), inR x3 → inR x4 → inR x5 → inR t0 → pf_head_23 rec σ x3 x4 x5 t0 = some (σ', r) → ∀ (H : Heap) (locs : List Loc) (ls : Array Slot), rf_W v s σ H locs → lv_has ls 8 [(0, .ref (rf_h v)), (3, .int (rI x3)), (4, .int (rI x4)), (5, .int (rI x5))] → W p l e (rf_rm (d + 1)) s m args below meth c H locs 0 0 (MQ below (rf_Q v σ' none) args s 0 0 (rf_F v)) (F0 m 23 ls [.int (rI t0)]) := by
  obtain ⟨hx, hb, hr, hml, hown, hts, hlk, hK, hD⟩ := id B
  intro σ x3 x4 x5 t0 ix3 ix4 ix5 it0 hf H locs ls hw hl
  unfold pf_head_23 at hf
  refine lv_istore (lv' := [(6, .int (rI t0)), (0, .ref (rf_h v)), (3, .int (rI x3)), (4, .int (rI x4)), (5, .int (rI x5))]) hx hb dX12_head_23 hl (by decide) rfl (fun ls hl => ?_)
  exact ps_head_25 hR B 200000 σ x3 x4 x5 t0 ix3 ix4 ix5 it0 hf _ _ _ hw (lv_sub hl [1, 2, 3, 4, 0] rfl)

set_option maxHeartbeats 4000000 in
set_option maxRecDepth 100000 in
theorem ps_head_0 {v : rfE} {p : Program} {l : Launch} {e : Env} {s : State} {m : MethodId} {args : Array Value} {below : List Frame} {meth : Method} {c : Code} {d : Nat} {rec : Nat → RS → List Int → Option (RS × Int)} {σ' : RS} {r : Int} (hR : rf_Rec l v d rec) (B : rf_B v p s m args meth c cX12_head 8 none) : ∀ (σ : RS) (x1 x2 : Int), inR x1 → inR x2 → pf_head_0 rec σ x1 x2 = some (σ', r) → ∀ (H : Heap) (locs : List Loc) (ls : Array Slot), rf_W v s σ H locs → lv_has ls 8 [(0, .ref (rf_h v)), (1, .int (rI x1)), (2, .int (rI x2))] → W p l e (rf_rm (d + 1)) s m args below meth c H locs 0 0 (MQ below (rf_Q v σ' none) args s 0 0 (rf_F v)) (F0 m 0 ls []) := by
  obtain ⟨hx, hb, hr, hml, hown, hts, hlk, hK, hD⟩ := id B
  intro σ x1 x2 ix1 ix2 hf H locs ls hw hl
  unfold pf_head_0 at hf
  refine lv_aload_n hx hb dX12_head_0 rfl (lv_at hl 0 rfl) ?_
  obtain ⟨z1, ez1, iz1, hf⟩ := rf_gi_s hw hf
  refine rf_geti B hw 51 (by decide) rfl lk_324 ez1 dX12_head_1 ?_
  refine lv_istore_n (lv' := [(3, .int (rI z1)), (0, .ref (rf_h v)), (1, .int (rI x1)), (2, .int (rI x2))]) hx hb dX12_head_4 rfl hl (by decide) rfl (fun ls hl => ?_)
  refine lv_iload_n hx hb dX12_head_5 rfl (lv_at hl 2 rfl) ?_
  refine lv_istore (lv' := [(4, .int (rI x1)), (3, .int (rI z1)), (0, .ref (rf_h v)), (1, .int (rI x1)), (2, .int (rI x2))]) hx hb dX12_head_6 hl (by decide) rfl (fun ls hl => ?_)
  refine lv_iload_n hx hb dX12_head_8 rfl (lv_at hl 4 rfl) ?_
  refine lv_istore (lv' := [(5, .int (rI x2)), (4, .int (rI x1)), (3, .int (rI z1)), (0, .ref (rf_h v)), (1, .int (rI x1)), (2, .int (rI x2))]) hx hb dX12_head_9 hl (by decide) rfl (fun ls hl => ?_)
  refine lv_aload_n hx hb dX12_head_11 rfl (lv_at hl 3 rfl) ?_
  obtain ⟨z2, ez2, iz2, hf⟩ := rf_gi_s hw hf
  refine rf_geti B hw 72 (by decide) rfl lk_150 ez2 dX12_head_12 ?_
  refine rn_if_ne (a := z2) (tgt := 22) hx hb iz2 dX12_head_15 (by decide) (fun c3 => ?_) (fun c3 => ?_)
  · replace hf := rf_if_t hf c3
    refine lv_iconst (v := rI 0) hx hb dX12_head_22 rfl ?_
    exact ps_head_23 hR B σ z1 x1 x2 0 iz1 ix1 ix2 ⟨by decide, by decide⟩ hf _ _ _ hw (lv_sub hl [3, 2, 1, 0] rfl)
  · replace hf := rf_if_f hf c3
    refine lv_iconst (v := rI 1) hx hb dX12_head_18 rfl ?_
    refine lv_goto (tgt := 23) hx hb dX12_head_19 (by decide) ?_
    exact ps_head_23 hR B σ z1 x1 x2 1 iz1 ix1 ix2 ⟨by decide, by decide⟩ hf _ _ _ hw (lv_sub hl [3, 2, 1, 0] rfl)

set_option maxHeartbeats 4000000 in
set_option maxRecDepth 100000 in
theorem pm_head {v : rfE} (hD : rf_D v) {l : Launch} {d : Nat} {rec : Nat → RS → List Int → Option (RS × Int)} (hR : rf_Rec l v d rec) (σ σ' : RS) (x1 x2 r : Int) (ix1 : inR x1) (ix2 : inR x2) (hf : pf_head_0 rec σ x1 x2 = some (σ', r)) : rf_Met l v yX12_head cX12_head 8 none (d + 1) [.ref (rf_h v), .int (rI x1), .int (rI x2)] σ σ' none := by
  refine Met.ofW (cc := cX12_head) (maxL := 8) (ret := none) (by decide +kernel) rfl ?_
  intro p e s m args below meth c s₁ B hml hv
  obtain ⟨rfl, hM, hK⟩ := hv
  have hts := atoms_spec (ws := Cond.code yX12_head cX12_head 8 none :: rf_bw) B.pre
  have hB : rf_B v p s m _ meth c cX12_head 8 none := ⟨B.exec, B.bytes, B.returns, hml, findClass_of_methodNamed B.named, fun w h => hts w (List.mem_cons_of_mem _ h), B.notSynchronized, hK, hD⟩
  have hl := lv_entry ([.ref (rf_h v), .int (rI x1), .int (rI x2)]) (n := 8) (Nat.le_of_ble_eq_true rfl)
  rw [lg_entry_eq]
  generalize (lg_sl ([.ref (rf_h v), .int (rI x1), .int (rI x2)]) ++ List.replicate (8 - (lg_sl ([.ref (rf_h v), .int (rI x1), .int (rI x2)])).length) Slot.unset).toArray = ls at hl ⊢
  exact ps_head_0 hR hB σ x1 x2 ix1 ix2 hf _ _ _ ⟨hM, rfl, fun _ _ => rfl, fun q h => by cases h⟩ (lv_sub hl [0, 1, 2] rfl)

set_option maxHeartbeats 4000000 in
set_option maxRecDepth 100000 in
theorem ps_kindOf_0 {v : rfE} {p : Program} {l : Launch} {e : Env} {s : State} {m : MethodId} {args : Array Value} {below : List Frame} {meth : Method} {c : Code} {d : Nat} {rec : Nat → RS → List Int → Option (RS × Int)} {σ' : RS} {r : Int} (hR : rf_Rec l v d rec) (B : rf_B v p s m args meth c cX12_kindOf 2 (some .int)) : ∀ (σ : RS) (x1 : Int), inR x1 → pf_kindOf_0 rec σ x1 = some (σ', r) → ∀ (H : Heap) (locs : List Loc) (ls : Array Slot), rf_W v s σ H locs → lv_has ls 2 [(0, .ref (rf_h v)), (1, .int (rI x1))] → W p l e (rf_rm (d + 1)) s m args below meth c H locs 0 0 (MQ below (rf_Q v σ' (some (.int (rI r)))) args s 0 0 (rf_F v)) (F0 m 0 ls []) := by
  obtain ⟨hx, hb, hr, hml, hown, hts, hlk, hK, hD⟩ := id B
  intro σ x1 ix1 hf H locs ls hw hl
  unfold pf_kindOf_0 at hf
  refine lv_iload_n hx hb dX12_kindOf_0 rfl (lv_at hl 1 rfl) ?_
  refine rn_if_ge (a := x1) (tgt := 8) hx hb ix1 dX12_kindOf_1 (by decide) (fun c1 => ?_) (fun c1 => ?_)
  · replace hf := rf_if_t hf c1
    refine lv_aload_n hx hb dX12_kindOf_8 rfl (lv_at hl 0 rfl) ?_
    refine rf_get (val := .ref (rf_ad v 30)) B hw 30 (by decide) lk_76 rfl dX12_kindOf_9 ?_
    refine lv_iload_n hx hb dX12_kindOf_12 rfl (lv_at hl 1 rfl) ?_
    obtain ⟨z2, ez2, iz2, rz2, hf⟩ := rf_rd_s hw hf
    refine rf_ald B hw ix1 rz2 ez2 dX12_kindOf_13 ?_
    exact rf_reti B hf hw dX12_kindOf_14
  · replace hf := rf_if_f hf c1
    refine lv_iconst (v := rI (-1)) hx hb dX12_kindOf_4 rfl ?_
    refine lv_goto (tgt := 14) hx hb dX12_kindOf_5 (by decide) ?_
    exact rf_reti B hf hw dX12_kindOf_14

set_option maxHeartbeats 4000000 in
set_option maxRecDepth 100000 in
theorem pm_kindOf {v : rfE} (hD : rf_D v) {l : Launch} {d : Nat} {rec : Nat → RS → List Int → Option (RS × Int)} (hR : rf_Rec l v d rec) (σ σ' : RS) (x1 r : Int) (ix1 : inR x1) (hf : pf_kindOf_0 rec σ x1 = some (σ', r)) : rf_Met l v yX12_kindOf cX12_kindOf 2 (some .int) (d + 1) [.ref (rf_h v), .int (rI x1)] σ σ' (some (.int (rI r))) := by
  refine Met.ofW (cc := cX12_kindOf) (maxL := 2) (ret := (some .int)) (by decide +kernel) rfl ?_
  intro p e s m args below meth c s₁ B hml hv
  obtain ⟨rfl, hM, hK⟩ := hv
  have hts := atoms_spec (ws := Cond.code yX12_kindOf cX12_kindOf 2 (some .int) :: rf_bw) B.pre
  have hB : rf_B v p s m _ meth c cX12_kindOf 2 (some .int) := ⟨B.exec, B.bytes, B.returns, hml, findClass_of_methodNamed B.named, fun w h => hts w (List.mem_cons_of_mem _ h), B.notSynchronized, hK, hD⟩
  have hl := lv_entry ([.ref (rf_h v), .int (rI x1)]) (n := 2) (Nat.le_of_ble_eq_true rfl)
  rw [lg_entry_eq]
  generalize (lg_sl ([.ref (rf_h v), .int (rI x1)]) ++ List.replicate (2 - (lg_sl ([.ref (rf_h v), .int (rI x1)])).length) Slot.unset).toArray = ls at hl ⊢
  exact ps_kindOf_0 hR hB σ x1 ix1 hf _ _ _ ⟨hM, rfl, fun _ _ => rfl, fun q h => by cases h⟩ (lv_sub hl [0, 1] rfl)

set_option maxHeartbeats 4000000 in
set_option maxRecDepth 100000 in
theorem ps_inside_0 {v : rfE} {p : Program} {l : Launch} {e : Env} {s : State} {m : MethodId} {args : Array Value} {below : List Frame} {meth : Method} {c : Code} {d : Nat} {rec : Nat → RS → List Int → Option (RS × Int)} {σ' : RS} {r : Int} (hR : rf_Rec l v d rec) (B : rf_B v p s m args meth c cX12_inside 4 (some .int)) : ∀ (σ : RS) (x1 x2 x3 : Int), inR x1 → inR x2 → inR x3 → pf_inside_0 rec σ x1 x2 x3 = some (σ', r) → ∀ (H : Heap) (locs : List Loc) (ls : Array Slot), rf_W v s σ H locs → lv_has ls 4 [(0, .ref (rf_h v)), (1, .int (rI x1)), (2, .int (rI x2)), (3, .int (rI x3))] → W p l e (rf_rm (d + 1)) s m args below meth c H locs 0 0 (MQ below (rf_Q v σ' (some (.int (rI r)))) args s 0 0 (rf_F v)) (F0 m 0 ls []) := by
  obtain ⟨hx, hb, hr, hml, hown, hts, hlk, hK, hD⟩ := id B
  intro σ x1 x2 x3 ix1 ix2 ix3 hf H locs ls hw hl
  unfold pf_inside_0 at hf
  refine lv_aload_n hx hb dX12_inside_0 rfl (lv_at hl 0 rfl) ?_
  refine lv_iload_n hx hb dX12_inside_1 rfl (lv_at hl 2 rfl) ?_
  refine lv_aload_n hx hb dX12_inside_2 rfl (lv_at hl 0 rfl) ?_
  refine rf_get (val := .ref (rf_ad v 38)) B hw 38 (by decide) lk_100 rfl dX12_inside_3 ?_
  refine lv_iload_n hx hb dX12_inside_6 rfl (lv_at hl 1 rfl) ?_
  obtain ⟨z1, ez1, iz1, rz1, hf⟩ := rf_rd_s hw hf
  refine rf_ald B hw ix1 rz1 ez1 dX12_inside_7 ?_
  refine lv_iload_n hx hb dX12_inside_8 rfl (lv_at hl 3 rfl) ?_
  refine lv_iconst (v := rI 0) hx hb dX12_inside_9 rfl ?_
  obtain ⟨σ2, z3, hσ2, hf⟩ := rf_cl_s hf
  obtain ⟨iz3, mσ2⟩ := hR 30 σ [x2, z1, x3, 0] σ2 z3 hσ2
  have mσ2 : rf_Met l v yX12_cell cX12_cell 5 (some .int) d [.ref (rf_h v), .int (rI x2), .int (rI z1), .int (rI x3), .int (rI 0)] σ σ2 (some (.int (rI z3))) := mσ2 ix2 iz1 ix3 ⟨by decide, by decide⟩
  refine rf_cv (n := 4) (rest := []) (As := [.int (rI x2), .int (rI z1), .int (rI x3), .int (rI 0)]) B mσ2 g_342_cell (by decide +kernel) (by decide) rfl hl.1 (Nat.le_of_ble_eq_true rfl) dX12_inside_10 rfl hw (fun H locs hw => ?_)
  exact rf_reti B hf hw dX12_inside_13

set_option maxHeartbeats 4000000 in
set_option maxRecDepth 100000 in
theorem pm_inside {v : rfE} (hD : rf_D v) {l : Launch} {d : Nat} {rec : Nat → RS → List Int → Option (RS × Int)} (hR : rf_Rec l v d rec) (σ σ' : RS) (x1 x2 x3 r : Int) (ix1 : inR x1) (ix2 : inR x2) (ix3 : inR x3) (hf : pf_inside_0 rec σ x1 x2 x3 = some (σ', r)) : rf_Met l v yX12_inside cX12_inside 4 (some .int) (d + 1) [.ref (rf_h v), .int (rI x1), .int (rI x2), .int (rI x3)] σ σ' (some (.int (rI r))) := by
  refine Met.ofW (cc := cX12_inside) (maxL := 4) (ret := (some .int)) (by decide +kernel) rfl ?_
  intro p e s m args below meth c s₁ B hml hv
  obtain ⟨rfl, hM, hK⟩ := hv
  have hts := atoms_spec (ws := Cond.code yX12_inside cX12_inside 4 (some .int) :: rf_bw) B.pre
  have hB : rf_B v p s m _ meth c cX12_inside 4 (some .int) := ⟨B.exec, B.bytes, B.returns, hml, findClass_of_methodNamed B.named, fun w h => hts w (List.mem_cons_of_mem _ h), B.notSynchronized, hK, hD⟩
  have hl := lv_entry ([.ref (rf_h v), .int (rI x1), .int (rI x2), .int (rI x3)]) (n := 4) (Nat.le_of_ble_eq_true rfl)
  rw [lg_entry_eq]
  generalize (lg_sl ([.ref (rf_h v), .int (rI x1), .int (rI x2), .int (rI x3)]) ++ List.replicate (4 - (lg_sl ([.ref (rf_h v), .int (rI x1), .int (rI x2), .int (rI x3)])).length) Slot.unset).toArray = ls at hl ⊢
  exact ps_inside_0 hR hB σ x1 x2 x3 ix1 ix2 ix3 hf _ _ _ ⟨hM, rfl, fun _ _ => rfl, fun q h => by cases h⟩ (lv_sub hl [0, 1, 2, 3] rfl)

