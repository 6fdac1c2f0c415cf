set_option maxHeartbeats 4000000 in
set_option maxRecDepth 100000 in
theorem ps_readSign_59 {v : rfE} {p : Program} {l : Launch} {e : Env} {s : State} {m : MethodId} {args : Array Value} {below : List Frame} {meth : Method} {c : Code} {d : Nat} {rec : Nat → RS → List Int → Option (RS × Int)} {σ' : RS} {r : Int} (hR : rf_Rec l v d rec) (B : rf_B v p s m args meth c cX12_readSign 2 none) : ∀ (σ : RS) (x1 : Int), inR x1 → pf_readSign_59 rec σ x1 = some (σ', r) → ∀ (H : Heap) (locs : List Loc) (ls : Array Slot), rf_W v s σ H locs → lv_has ls 2 [(0, .ref (rf_h v)), (1, .int (rI x1))] → W p l e (rf_rm (d + 1)) s m args below meth c H locs 0 0 (MQ below (rf_Q v σ' none) args s 0 0 (rf_F v)) (F0 m 59 ls []) := by
  obtain ⟨hx, hb, hr, hml, hown, hts, hlk, hK, hD⟩ := id B
  intro σ x1 ix1 hf H locs ls hw hl
  unfold pf_readSign_59 at hf
  refine lv_iload_n hx hb dX12_readSign_59 rfl (lv_at hl 1 rfl) ?_
  refine lv_bipush (v := rI 45) hx hb dX12_readSign_60 (by decide +kernel) ?_
  refine rn_icmp_ne (a := x1) (b := 45) (tgt := 98) hx hb ix1 ⟨by decide, by decide⟩ dX12_readSign_62 (by decide) (fun c1 => ?_) (fun c1 => ?_)
  · replace hf := rf_if_t hf c1
    exact ps_readSign_98 hR B σ x1 ix1 hf _ _ _ hw (lv_sub hl [0, 1] rfl)
  · replace hf := rf_if_f hf c1
    refine lv_aload_n hx hb dX12_readSign_65 rfl (lv_at hl 0 rfl) ?_
    refine lv_aload_n hx hb dX12_readSign_66 rfl (lv_at hl 0 rfl) ?_
    obtain ⟨z2, ez2, iz2, hf⟩ := rf_gi_s hw hf
    refine rf_geti B hw 6 (by decide) rfl lk_193 ez2 dX12_readSign_67 ?_
    obtain ⟨σ3, z4, hσ3, hf⟩ := rf_cl_s hf
    obtain ⟨iz4, mσ3⟩ := hR 7 σ [z2] σ3 z4 hσ3
    have mσ3 : rf_Met l v yX12_byteAt cX12_byteAt 2 (some .int) d [.ref (rf_h v), .int (rI z2)] σ σ3 (some (.int (rI z4))) := mσ3 iz2
    refine rf_cv (n := 1) (rest := []) (As := [.int (rI z2)]) B mσ3 g_196_byteAt (by decide +kernel) (by decide) rfl hl.1 (Nat.le_of_ble_eq_true rfl) dX12_readSign_70 rfl hw (fun H locs hw => ?_)
    refine lv_bipush (v := rI 62) hx hb dX12_readSign_73 (by decide +kernel) ?_
    refine rn_icmp_ne (a := z4) (b := 62) (tgt := 98) hx hb iz4 ⟨by decide, by decide⟩ dX12_readSign_75 (by decide) (fun c5 => ?_) (fun c5 => ?_)
    · replace hf := rf_if_t hf c5
      exact ps_readSign_98 hR B σ3 x1 ix1 hf _ _ _ hw (lv_sub hl [0, 1] rfl)
    · replace hf := rf_if_f hf c5
      refine lv_aload_n hx hb dX12_readSign_78 rfl (lv_at hl 0 rfl) ?_
      refine lv_sipush (v := rI 257) hx hb dX12_readSign_79 (by decide +kernel) ?_
      obtain ⟨σ6, eσ6, hf⟩ := rf_pi_s hf
      refine rf_put B hw 8 (by decide) rfl rfl lk_225 ⟨by decide, by decide⟩ eσ6 rfl rfl dX12_readSign_82 (fun H locs hw => ?_)
      refine lv_aload_n hx hb dX12_readSign_85 rfl (lv_at hl 0 rfl) ?_
      refine lv_dup hx hb dX12_readSign_86 rfl ?_
      obtain ⟨z7, ez7, iz7, hf⟩ := rf_gi_s hw hf
      refine rf_geti B hw 6 (by decide) rfl lk_193 ez7 dX12_readSign_87 ?_
      refine lv_iconst (v := rI 1) hx hb dX12_readSign_90 rfl ?_
      obtain ⟨z8, ez8, iz8, hf⟩ := rf_ck_s hf
      refine rn_add hx hb ez8 dX12_readSign_91 ?_
      obtain ⟨σ9, eσ9, hf⟩ := rf_pi_s hf
      refine rf_put B hw 6 (by decide) rfl rfl lk_193 iz8 eσ9 rfl rfl dX12_readSign_92 (fun H locs hw => ?_)
      refine lv_goto (tgt := 151) hx hb dX12_readSign_95 (by decide) ?_
      exact rf_retv B hf hw dX12_readSign_151

set_option maxHeartbeats 4000000 in
set_option maxRecDepth 100000 in
theorem ps_readSign_0 {v : rfE} {p : Program} {l : Launch} {e : Env} {s : State} {m : MethodId} {args : Array Value} {below : List Frame} {meth : Method} {c : Code} {d : Nat} {rec : Nat → RS → List Int → Option (RS × Int)} {σ' : RS} {r : Int} (hR : rf_Rec l v d rec) (B : rf_B v p s m args meth c cX12_readSign 2 none) : ∀ (σ : RS) (x1 : Int), inR x1 → pf_readSign_0 rec σ x1 = some (σ', r) → ∀ (H : Heap) (locs : List Loc) (ls : Array Slot), rf_W v s σ H locs → lv_has ls 2 [(0, .ref (rf_h v)), (1, .int (rI x1))] → W p l e (rf_rm (d + 1)) s m args below meth c H locs 0 0 (MQ below (rf_Q v σ' none) args s 0 0 (rf_F v)) (F0 m 0 ls []) := by
  obtain ⟨hx, hb, hr, hml, hown, hts, hlk, hK, hD⟩ := id B
  intro σ x1 ix1 hf H locs ls hw hl
  unfold pf_readSign_0 at hf
  refine lv_aload_n hx hb dX12_readSign_0 rfl (lv_at hl 0 rfl) ?_
  refine lv_iconst (v := rI 2) hx hb dX12_readSign_1 rfl ?_
  obtain ⟨σ1, eσ1, hf⟩ := rf_pi_s hf
  refine rf_put B hw 7 (by decide) rfl rfl lk_203 ⟨by decide, by decide⟩ eσ1 rfl rfl dX12_readSign_2 (fun H locs hw => ?_)
  refine lv_aload_n hx hb dX12_readSign_5 rfl (lv_at hl 0 rfl) ?_
  refine lv_iload_n hx hb dX12_readSign_6 rfl (lv_at hl 1 rfl) ?_
  obtain ⟨σ2, eσ2, hf⟩ := rf_pi_s hf
  refine rf_put B hw 8 (by decide) rfl rfl lk_225 ix1 eσ2 rfl rfl dX12_readSign_7 (fun H locs hw => ?_)
  refine lv_aload_n hx hb dX12_readSign_10 rfl (lv_at hl 0 rfl) ?_
  refine lv_dup hx hb dX12_readSign_11 rfl ?_
  obtain ⟨z3, ez3, iz3, hf⟩ := rf_gi_s hw hf
  refine rf_geti B hw 6 (by decide) rfl lk_193 ez3 dX12_readSign_12 ?_
  refine lv_iconst (v := rI 1) hx hb dX12_readSign_15 rfl ?_
  obtain ⟨z4, ez4, iz4, hf⟩ := rf_ck_s hf
  refine rn_add hx hb ez4 dX12_readSign_16 ?_
  obtain ⟨σ5, eσ5, hf⟩ := rf_pi_s hf
  refine rf_put B hw 6 (by decide) rfl rfl lk_193 iz4 eσ5 rfl rfl dX12_readSign_17 (fun H locs hw => ?_)
  refine lv_iload_n hx hb dX12_readSign_20 rfl (lv_at hl 1 rfl) ?_
  refine lv_bipush (v := rI 58) hx hb dX12_readSign_21 (by decide +kernel) ?_
  refine rn_icmp_ne (a := x1) (b := 58) (tgt := 59) hx hb ix1 ⟨by decide, by decide⟩ dX12_readSign_23 (by decide) (fun c6 => ?_) (fun c6 => ?_)
  · replace hf := rf_if_t hf c6
    exact ps_readSign_59 hR B σ5 x1 ix1 hf _ _ _ hw (lv_sub hl [0, 1] rfl)
  · replace hf := rf_if_f hf c6
    refine lv_aload_n hx hb dX12_readSign_26 rfl (lv_at hl 0 rfl) ?_
    refine lv_aload_n hx hb dX12_readSign_27 rfl (lv_at hl 0 rfl) ?_
    obtain ⟨z7, ez7, iz7, hf⟩ := rf_gi_s hw hf
    refine rf_geti B hw 6 (by decide) rfl lk_193 ez7 dX12_readSign_28 ?_
    obtain ⟨σ8, z9, hσ8, hf⟩ := rf_cl_s hf
    obtain ⟨iz9, mσ8⟩ := hR 7 σ5 [z7] σ8 z9 hσ8
    have mσ8 : rf_Met l v yX12_byteAt cX12_byteAt 2 (some .int) d [.ref (rf_h v), .int (rI z7)] σ5 σ8 (some (.int (rI z9))) := mσ8 iz7
    refine rf_cv (n := 1) (rest := []) (As := [.int (rI z7)]) B mσ8 g_196_byteAt (by decide +kernel) (by decide) rfl hl.1 (Nat.le_of_ble_eq_true rfl) dX12_readSign_31 rfl hw (fun H locs hw => ?_)
    refine lv_bipush (v := rI 61) hx hb dX12_readSign_34 (by decide +kernel) ?_
    refine rn_icmp_ne (a := z9) (b := 61) (tgt := 59) hx hb iz9 ⟨by decide, by decide⟩ dX12_readSign_36 (by decide) (fun c10 => ?_) (fun c10 => ?_)
    · replace hf := rf_if_t hf c10
      exact ps_readSign_59 hR B σ8 x1 ix1 hf _ _ _ hw (lv_sub hl [0, 1] rfl)
    · replace hf := rf_if_f hf c10
      refine lv_aload_n hx hb dX12_readSign_39 rfl (lv_at hl 0 rfl) ?_
      refine lv_sipush (v := rI 256) hx hb dX12_readSign_40 (by decide +kernel) ?_
      obtain ⟨σ11, eσ11, hf⟩ := rf_pi_s hf
      refine rf_put B hw 8 (by decide) rfl rfl lk_225 ⟨by decide, by decide⟩ eσ11 rfl rfl dX12_readSign_43 (fun H locs hw => ?_)
      refine lv_aload_n hx hb dX12_readSign_46 rfl (lv_at hl 0 rfl) ?_
      refine lv_dup hx hb dX12_readSign_47 rfl ?_
      obtain ⟨z12, ez12, iz12, hf⟩ := rf_gi_s hw hf
      refine rf_geti B hw 6 (by decide) rfl lk_193 ez12 dX12_readSign_48 ?_
      refine lv_iconst (v := rI 1) hx hb dX12_readSign_51 rfl ?_
      obtain ⟨z13, ez13, iz13, hf⟩ := rf_ck_s hf
      refine rn_add hx hb ez13 dX12_readSign_52 ?_
      obtain ⟨σ14, eσ14, hf⟩ := rf_pi_s hf
      refine rf_put B hw 6 (by decide) rfl rfl lk_193 iz13 eσ14 rfl rfl dX12_readSign_53 (fun H locs hw => ?_)
      refine lv_goto (tgt := 151) hx hb dX12_readSign_56 (by decide) ?_
      exact rf_retv B hf hw dX12_readSign_151

set_option maxHeartbeats 4000000 in
set_option maxRecDepth 100000 in
theorem pm_readSign {v : rfE} (hD : rf_D v) {l : Launch} {d : Nat} {rec : Nat → RS → List Int → Option (RS × Int)} (hR : rf_Rec l v d rec) (σ σ' : RS) (x1 r : Int) (ix1 : inR x1) (hf : pf_readSign_0 rec σ x1 = some (σ', r)) : rf_Met l v yX12_readSign cX12_readSign 2 none (d + 1) [.ref (rf_h v), .int (rI x1)] σ σ' none := by
  refine Met.ofW (cc := cX12_readSign) (maxL := 2) (ret := none) (by decide +kernel) rfl ?_
  intro p e s m args below meth c s₁ B hml hv
  obtain ⟨rfl, hM, hK⟩ := hv
  have hts := atoms_spec (ws := Cond.code yX12_readSign cX12_readSign 2 none :: rf_bw) B.pre
  have hB : rf_B v p s m _ meth c cX12_readSign 2 none := ⟨B.exec, B.bytes, B.returns, hml, findClass_of_methodNamed B.named, fun w h => hts w (List.mem_cons_of_mem _ h), B.notSynchronized, hK, hD⟩
  have hl := lv_entry ([.ref (rf_h v), .int (rI x1)]) (n := 2) (Nat.le_of_ble_eq_true rfl)
  rw [lg_entry_eq]
  generalize (lg_sl ([.ref (rf_h v), .int (rI x1)]) ++ List.replicate (2 - (lg_sl ([.ref (rf_h v), .int (rI x1)])).length) Slot.unset).toArray = ls at hl ⊢
  exact ps_readSign_0 hR hB σ x1 ix1 hf _ _ _ ⟨hM, rfl, fun _ _ => rfl, fun q h => by cases h⟩ (lv_sub hl [0, 1] rfl)

set_option maxHeartbeats 4000000 in
set_option maxRecDepth 100000 in
theorem ps_isSign_0 {v : rfE} {p : Program} {l : Launch} {e : Env} {s : State} {m : MethodId} {args : Array Value} {below : List Frame} {meth : Method} {c : Code} {d : Nat} {rec : Nat → RS → List Int → Option (RS × Int)} {σ' : RS} {r : Int} (hR : rf_Rec l v d rec) (B : rf_B v p s m args meth c cX12_isSign 2 (some .boolean)) : ∀ (σ : RS) (x1 : Int), inR x1 → pf_isSign_0 rec σ x1 = some (σ', r) → ∀ (H : Heap) (locs : List Loc) (ls : Array Slot), rf_W v s σ H locs → lv_has ls 2 [(0, .ref (rf_h v)), (1, .int (rI x1))] → W p l e (rf_rm (d + 1)) s m args below meth c H locs 0 0 (MQ below (rf_Q v σ' (some (.int (rI r)))) args s 0 0 (rf_F v)) (F0 m 0 ls []) := by
  obtain ⟨hx, hb, hr, hml, hown, hts, hlk, hK, hD⟩ := id B
  intro σ x1 ix1 hf H locs ls hw hl
  unfold pf_isSign_0 at hf
  refine lv_aload_n hx hb dX12_isSign_0 rfl (lv_at hl 0 rfl) ?_
  obtain ⟨z1, ez1, iz1, hf⟩ := rf_gi_s hw hf
  refine rf_geti B hw 7 (by decide) rfl lk_203 ez1 dX12_isSign_1 ?_
  refine lv_iconst (v := rI 2) hx hb dX12_isSign_4 rfl ?_
  refine rn_icmp_ne (a := z1) (b := 2) (tgt := 20) hx hb iz1 ⟨by decide, by decide⟩ dX12_isSign_5 (by decide) (fun c2 => ?_) (fun c2 => ?_)
  · replace hf := rf_if_t hf c2
    refine lv_iconst (v := rI 0) hx hb dX12_isSign_20 rfl ?_
    obtain ⟨h01, hf⟩ := rf_bo_s hf
    exact rf_retz B h01 hf hw dX12_isSign_21
  · replace hf := rf_if_f hf c2
    refine lv_aload_n hx hb dX12_isSign_8 rfl (lv_at hl 0 rfl) ?_
    obtain ⟨z3, ez3, iz3, hf⟩ := rf_gi_s hw hf
    refine rf_geti B hw 8 (by decide) rfl lk_225 ez3 dX12_isSign_9 ?_
    refine lv_iload_n hx hb dX12_isSign_12 rfl (lv_at hl 1 rfl) ?_
    refine rn_icmp_ne (a := z3) (b := x1) (tgt := 20) hx hb iz3 ix1 dX12_isSign_13 (by decide) (fun c4 => ?_) (fun c4 => ?_)
    · replace hf := rf_if_t hf c4
      refine lv_iconst (v := rI 0) hx hb dX12_isSign_20 rfl ?_
      obtain ⟨h01, hf⟩ := rf_bo_s hf
      exact rf_retz B h01 hf hw dX12_isSign_21
    · replace hf := rf_if_f hf c4
      refine lv_iconst (v := rI 1) hx hb dX12_isSign_16 rfl ?_
      refine lv_goto (tgt := 21) hx hb dX12_isSign_17 (by decide) ?_
      obtain ⟨h01, hf⟩ := rf_bo_s hf
      exact rf_retz B h01 hf hw dX12_isSign_21

set_option maxHeartbeats 4000000 in
set_option maxRecDepth 100000 in
theorem pm_isSign {v : rfE} (hD : rf_D v) {l : Launch} {d : Nat} {rec : Nat → RS → List Int → Option (RS × Int)} (hR : rf_Rec l v d rec) (σ σ' : RS) (x1 r : Int) (ix1 : inR x1) (hf : pf_isSign_0 rec σ x1 = some (σ', r)) : rf_Met l v yX12_isSign cX12_isSign 2 (some .boolean) (d + 1) [.ref (rf_h v), .int (rI x1)] σ σ' (some (.int (rI r))) := by
  refine Met.ofW (cc := cX12_isSign) (maxL := 2) (ret := (some .boolean)) (by decide +kernel) rfl ?_
  intro p e s m args below meth c s₁ B hml hv
  obtain ⟨rfl, hM, hK⟩ := hv
  have hts := atoms_spec (ws := Cond.code yX12_isSign cX12_isSign 2 (some .boolean) :: rf_bw) B.pre
  have hB : rf_B v p s m _ meth c cX12_isSign 2 (some .boolean) := ⟨B.exec, B.bytes, B.returns, hml, findClass_of_methodNamed B.named, fun w h => hts w (List.mem_cons_of_mem _ h), B.notSynchronized, hK, hD⟩
  have hl := lv_entry ([.ref (rf_h v), .int (rI x1)]) (n := 2) (Nat.le_of_ble_eq_true rfl)
  rw [lg_entry_eq]
  generalize (lg_sl ([.ref (rf_h v), .int (rI x1)]) ++ List.replicate (2 - (lg_sl ([.ref (rf_h v), .int (rI x1)])).length) Slot.unset).toArray = ls at hl ⊢
  exact ps_isSign_0 hR hB σ x1 ix1 hf _ _ _ ⟨hM, rfl, fun _ _ => rfl, fun q h => by cases h⟩ (lv_sub hl [0, 1] rfl)

set_option maxHeartbeats 4000000 in
set_option maxRecDepth 100000 in
theorem ps_isName_0 {v : rfE} {p : Program} {l : Launch} {e : Env} {s : State} {m : MethodId} {args : Array Value} {below : List Frame} {meth : Method} {c : Code} {d : Nat} {rec : Nat → RS → List Int → Option (RS × Int)} {σ' : RS} {r : Int} (hR : rf_Rec l v d rec) (B : rf_B v p s m args meth c cX12_isName 1 (some .boolean)) : ∀ (σ : RS), pf_isName_0 rec σ = some (σ', r) → ∀ (H : Heap) (locs : List Loc) (ls : Array Slot), rf_W v s σ H locs → lv_has ls 1 [(0, .ref (rf_h v))] → W p l e (rf_rm (d + 1)) s m args below meth c H locs 0 0 (MQ below (rf_Q v σ' (some (.int (rI r)))) args s 0 0 (rf_F v)) (F0 m 0 ls []) := by
  obtain ⟨hx, hb, hr, hml, hown, hts, hlk, hK, hD⟩ := id B
  intro σ hf H locs ls hw hl
  unfold pf_isName_0 at hf
  refine lv_aload_n hx hb dX12_isName_0 rfl (lv_at hl 0 rfl) ?_
  obtain ⟨z1, ez1, iz1, hf⟩ := rf_gi_s hw hf
  refine rf_geti B hw 7 (by decide) rfl lk_203 ez1 dX12_isName_1 ?_
  refine lv_iconst (v := rI 1) hx hb dX12_isName_4 rfl ?_
  refine rn_icmp_ne (a := z1) (b := 1) (tgt := 20) hx hb iz1 ⟨by decide, by decide⟩ dX12_isName_5 (by decide) (fun c2 => ?_) (fun c2 => ?_)
  · replace hf := rf_if_t hf c2
    refine lv_iconst (v := rI 0) hx hb dX12_isName_20 rfl ?_
    obtain ⟨h01, hf⟩ := rf_bo_s hf
    exact rf_retz B h01 hf hw dX12_isName_21
  · replace hf := rf_if_f hf c2
    refine lv_aload_n hx hb dX12_isName_8 rfl (lv_at hl 0 rfl) ?_
    obtain ⟨z3, ez3, iz3, hf⟩ := rf_gi_s hw hf
    refine rf_geti B hw 11 (by decide) rfl lk_206 ez3 dX12_isName_9 ?_
    refine lv_iconst (v := rI (-1)) hx hb dX12_isName_12 rfl ?_
    refine rn_icmp_ne (a := z3) (b := (-1)) (tgt := 20) hx hb iz3 ⟨by decide, by decide⟩ dX12_isName_13 (by decide) (fun c4 => ?_) (fun c4 => ?_)
    · replace hf := rf_if_t hf c4
      refine lv_iconst (v := rI 0) hx hb dX12_isName_20 rfl ?_
      obtain ⟨h01, hf⟩ := rf_bo_s hf
      exact rf_retz B h01 hf hw dX12_isName_21
    · replace hf := rf_if_f hf c4
      refine lv_iconst (v := rI 1) hx hb dX12_isName_16 rfl ?_
      refine lv_goto (tgt := 21) hx hb dX12_isName_17 (by decide) ?_
      obtain ⟨h01, hf⟩ := rf_bo_s hf
      exact rf_retz B h01 hf hw dX12_isName_21

set_option maxHeartbeats 4000000 in
set_option maxRecDepth 100000 in
theorem pm_isName {v : rfE} (hD : rf_D v) {l : Launch} {d : Nat} {rec : Nat → RS → List Int → Option (RS × Int)} (hR : rf_Rec l v d rec) (σ σ' : RS) (r : Int) (hf : pf_isName_0 rec σ = some (σ', r)) : rf_Met l v yX12_isName cX12_isName 1 (some .boolean) (d + 1) [.ref (rf_h v)] σ σ' (some (.int (rI r))) := by
  refine Met.ofW (cc := cX12_isName) (maxL := 1) (ret := (some .boolean)) (by decide +kernel) rfl ?_
  intro p e s m args below meth c s₁ B hml hv
  obtain ⟨rfl, hM, hK⟩ := hv
  have hts := atoms_spec (ws := Cond.code yX12_isName cX12_isName 1 (some .boolean) :: rf_bw) B.pre
  have hB : rf_B v p s m _ meth c cX12_isName 1 (some .boolean) := ⟨B.exec, B.bytes, B.returns, hml, findClass_of_methodNamed B.named, fun w h => hts w (List.mem_cons_of_mem _ h), B.notSynchronized, hK, hD⟩
  have hl := lv_entry ([.ref (rf_h v)]) (n := 1) (Nat.le_of_ble_eq_true rfl)
  rw [lg_entry_eq]
  generalize (lg_sl ([.ref (rf_h v)]) ++ List.replicate (1 - (lg_sl ([.ref (rf_h v)])).length) Slot.unset).toArray = ls at hl ⊢
  exact ps_isName_0 hR hB σ hf _ _ _ ⟨hM, rfl, fun _ _ => rfl, fun q h => by cases h⟩ (lv_sub hl [0] rfl)

set_option maxHeartbeats 4000000 in
set_option maxRecDepth 100000 in
theorem ps_cant_0 {v : rfE} {p : Program} {l : Launch} {e : Env} {s : State} {m : MethodId} {args : Array Value} {below : List Frame} {meth : Method} {c : Code} {d : Nat} {rec : Nat → RS → List Int → Option (RS × Int)} {σ' : RS} {r : Int} (hR : rf_Rec l v d rec) (B : rf_B v p s m args meth c cX12_cant 1 none) : ∀ (σ : RS), pf_cant_0 rec σ = some (σ', r) → ∀ (H : Heap) (locs : List Loc) (ls : Array Slot), rf_W v s σ H locs → lv_has ls 1 [(0, .ref (rf_h v))] → W p l e (rf_rm (d + 1)) s m args below meth c H locs 0 0 (MQ below (rf_Q v σ' none) args s 0 0 (rf_F v)) (F0 m 0 ls []) := by
  obtain ⟨hx, hb, hr, hml, hown, hts, hlk, hK, hD⟩ := id B
  intro σ hf H locs ls hw hl
  unfold pf_cant_0 at hf
  refine lv_aload_n hx hb dX12_cant_0 rfl (lv_at hl 0 rfl) ?_
  refine lv_iconst (v := rI 1) hx hb dX12_cant_1 rfl ?_
  refine lv_aload_n hx hb dX12_cant_2 rfl (lv_at hl 0 rfl) ?_
  obtain ⟨z1, ez1, iz1, hf⟩ := rf_gi_s hw hf
  refine rf_geti B hw 9 (by decide) rfl lk_200 ez1 dX12_cant_3 ?_
  obtain ⟨σ2, z3, hσ2, hf⟩ := rf_cl_s hf
  obtain ⟨iz3, mσ2⟩ := hR 3 σ [1, z1] σ2 z3 hσ2
  have mσ2 : rf_Met l v yX12_wrong cX12_wrong 3 none d [.ref (rf_h v), .int (rI 1), .int (rI z1)] σ σ2 none := mσ2 ⟨by decide, by decide⟩ iz1
  refine rf_cv (n := 2) (rest := []) (As := [.int (rI 1), .int (rI z1)]) B mσ2 g_218_wrong (by decide +kernel) (by decide) rfl hl.1 (Nat.le_of_ble_eq_true rfl) dX12_cant_6 rfl hw (fun H locs hw => ?_)
  exact rf_retv B hf hw dX12_cant_9

set_option maxHeartbeats 4000000 in
set_option maxRecDepth 100000 in
theorem pm_cant {v : rfE} (hD : rf_D v) {l : Launch} {d : Nat} {rec : Nat → RS → List Int → Option (RS × Int)} (hR : rf_Rec l v d rec) (σ σ' : RS) (r : Int) (hf : pf_cant_0 rec σ = some (σ', r)) : rf_Met l v yX12_cant cX12_cant 1 none (d + 1) [.ref (rf_h v)] σ σ' none := by
  refine Met.ofW (cc := cX12_cant) (maxL := 1) (ret := none) (by decide +kernel) rfl ?_
  intro p e s m args below meth c s₁ B hml hv
  obtain ⟨rfl, hM, hK⟩ := hv
  have hts := atoms_spec (ws := Cond.code yX12_cant cX12_cant 1 none :: rf_bw) B.pre
  have hB : rf_B v p s m _ meth c cX12_cant 1 none := ⟨B.exec, B.bytes, B.returns, hml, findClass_of_methodNamed B.named, fun w h => hts w (List.mem_cons_of_mem _ h), B.notSynchronized, hK, hD⟩
  have hl := lv_entry ([.ref (rf_h v)]) (n := 1) (Nat.le_of_ble_eq_true rfl)
  rw [lg_entry_eq]
  generalize (lg_sl ([.ref (rf_h v)]) ++ List.replicate (1 - (lg_sl ([.ref (rf_h v)])).length) Slot.unset).toArray = ls at hl ⊢
  exact ps_cant_0 hR hB σ hf _ _ _ ⟨hM, rfl, fun _ _ => rfl, fun q h => by cases h⟩ (lv_sub hl [0] rfl)

set_option maxHeartbeats 4000000 in
set_option maxRecDepth 100000 in
theorem ps_need_0 {v : rfE} {p : Program} {l : Launch} {e : Env} {s : State} {m : MethodId} {args : Array Value} {below : List Frame} {meth : Method} {c : Code} {d : Nat} {rec : Nat → RS → List Int → Option (RS × Int)} {σ' : RS} {r : Int} (hR : rf_Rec l v d rec) (B : rf_B v p s m args meth c cX12_need 2 none) : ∀ (σ : RS) (x1 : Int), inR x1 → pf_need_0 rec σ x1 = some (σ', r) → ∀ (H : Heap) (locs : List Loc) (ls : Array Slot), rf_W v s σ H locs → lv_has ls 2 [(0, .ref (rf_h v)), (1, .int (rI x1))] → W p l e (rf_rm (d + 1)) s m args below meth c H locs 0 0 (MQ below (rf_Q v σ' none) args s 0 0 (rf_F v)) (F0 m 0 ls []) := by
  obtain ⟨hx, hb, hr, hml, hown, hts, hlk, hK, hD⟩ := id B
  intro σ x1 ix1 hf H locs ls hw hl
  unfold pf_need_0 at hf
  refine lv_aload_n hx hb dX12_need_0 rfl (lv_at hl 0 rfl) ?_
  refine lv_iload_n hx hb dX12_need_1 rfl (lv_at hl 1 rfl) ?_
  obtain ⟨σ1, z2, hσ1, hf⟩ := rf_cl_s hf
  obtain ⟨iz2, mσ1⟩ := hR 13 σ [x1] σ1 z2 hσ1
  have mσ1 : rf_Met l v yX12_isSign cX12_isSign 2 (some .boolean) d [.ref (rf_h v), .int (rI x1)] σ σ1 (some (.int (rI z2))) := mσ1 ix1
  refine rf_cv (n := 1) (rest := []) (As := [.int (rI x1)]) B mσ1 g_228_isSign (by decide +kernel) (by decide) rfl hl.1 (Nat.le_of_ble_eq_true rfl) dX12_need_2 rfl hw (fun H locs hw => ?_)
  refine rn_if_eq (a := z2) (tgt := 15) hx hb iz2 dX12_need_5 (by decide) (fun c3 => ?_) (fun c3 => ?_)
  · replace hf := rf_if_t hf c3
    refine lv_aload_n hx hb dX12_need_15 rfl (lv_at hl 0 rfl) ?_
    obtain ⟨σ4, z5, hσ4, hf⟩ := rf_cl_s hf
    obtain ⟨iz5, mσ4⟩ := hR 15 σ1 [] σ4 z5 hσ4
    have mσ4 : rf_Met l v yX12_cant cX12_cant 1 none d [.ref (rf_h v)] σ1 σ4 none := mσ4
    refine rf_cv (n := 0) (rest := []) (As := []) B mσ4 g_234_cant (by decide +kernel) (by decide) rfl hl.1 (Nat.le_of_ble_eq_true rfl) dX12_need_16 rfl hw (fun H locs hw => ?_)
    exact rf_retv B hf hw dX12_need_19
  · replace hf := rf_if_f hf c3
    refine lv_aload_n hx hb dX12_need_8 rfl (lv_at hl 0 rfl) ?_
    obtain ⟨σ6, z7, hσ6, hf⟩ := rf_cl_s hf
    obtain ⟨iz7, mσ6⟩ := hR 10 σ1 [] σ6 z7 hσ6
    have mσ6 : rf_Met l v yX12_next cX12_next 4 none d [.ref (rf_h v)] σ1 σ6 none := mσ6
    refine rf_cv (n := 0) (rest := []) (As := []) B mσ6 g_231_next (by decide +kernel) (by decide) rfl hl.1 (Nat.le_of_ble_eq_true rfl) dX12_need_9 rfl hw (fun H locs hw => ?_)
    refine lv_goto (tgt := 19) hx hb dX12_need_12 (by decide) ?_
    exact rf_retv B hf hw dX12_need_19

set_option maxHeartbeats 4000000 in
set_option maxRecDepth 100000 in
theorem pm_need {v : rfE} (hD : rf_D v) {l : Launch} {d : Nat} {rec : Nat → RS → List Int → Option (RS × Int)} (hR : rf_Rec l v d rec) (σ σ' : RS) (x1 r : Int) (ix1 : inR x1) (hf : pf_need_0 rec σ x1 = some (σ', r)) : rf_Met l v yX12_need cX12_need 2 none (d + 1) [.ref (rf_h v), .int (rI x1)] σ σ' none := by
  refine Met.ofW (cc := cX12_need) (maxL := 2) (ret := none) (by decide +kernel) rfl ?_
  intro p e s m args below meth c s₁ B hml hv
  obtain ⟨rfl, hM, hK⟩ := hv
  have hts := atoms_spec (ws := Cond.code yX12_need cX12_need 2 none :: rf_bw) B.pre
  have hB : rf_B v p s m _ meth c cX12_need 2 none := ⟨B.exec, B.bytes, B.returns, hml, findClass_of_methodNamed B.named, fun w h => hts w (List.mem_cons_of_mem _ h), B.notSynchronized, hK, hD⟩
  have hl := lv_entry ([.ref (rf_h v), .int (rI x1)]) (n := 2) (Nat.le_of_ble_eq_true rfl)
  rw [lg_entry_eq]
  generalize (lg_sl ([.ref (rf_h v), .int (rI x1)]) ++ List.replicate (2 - (lg_sl ([.ref (rf_h v), .int (rI x1)])).length) Slot.unset).toArray = ls at hl ⊢
  exact ps_need_0 hR hB σ x1 ix1 hf _ _ _ ⟨hM, rfl, fun _ _ => rfl, fun q h => by cases h⟩ (lv_sub hl [0, 1] rfl)

set_option maxHeartbeats 4000000 in
set_option maxRecDepth 100000 in
theorem ps_needWord_23 {v : rfE} {p : Program} {l : Launch} {e : Env} {s : State} {m : MethodId} {args : Array Value} {below : List Frame} {meth : Method} {c : Code} {d : Nat} {rec : Nat → RS → List Int → Option (RS × Int)} {σ' : RS} {r : Int} (hR : rf_Rec l v d rec) (B : rf_B v p s m args meth c cX12_needWord 2 none) : ∀ (σ : RS), pf_needWord_23 rec σ = some (σ', r) → ∀ (H : Heap) (locs : List Loc) (ls : Array Slot), rf_W v s σ H locs → lv_has ls 2 [(0, .ref (rf_h v))] → W p l e (rf_rm (d + 1)) s m args below meth c H locs 0 0 (MQ below (rf_Q v σ' none) args s 0 0 (rf_F v)) (F0 m 23 ls []) := by
  obtain ⟨hx, hb, hr, hml, hown, hts, hlk, hK, hD⟩ := id B
  intro σ hf H locs ls hw hl
  unfold pf_needWord_23 at hf
  refine lv_aload_n hx hb dX12_needWord_23 rfl (lv_at hl 0 rfl) ?_
  obtain ⟨σ1, z2, hσ1, hf⟩ := rf_cl_s hf
  obtain ⟨iz2, mσ1⟩ := hR 15 σ [] σ1 z2 hσ1
  have mσ1 : rf_Met l v yX12_cant cX12_cant 1 none d [.ref (rf_h v)] σ σ1 none := mσ1
  refine rf_cv (n := 0) (rest := []) (As := []) B mσ1 g_234_cant (by decide +kernel) (by decide) rfl hl.1 (Nat.le_of_ble_eq_true rfl) dX12_needWord_24 rfl hw (fun H locs hw => ?_)
  exact rf_retv B hf hw dX12_needWord_27

set_option maxHeartbeats 4000000 in
set_option maxRecDepth 100000 in
theorem ps_needWord_0 {v : rfE} {p : Program} {l : Launch} {e : Env} {s : State} {m : MethodId} {args : Array Value} {below : List Frame} {meth : Method} {c : Code} {d : Nat} {rec : Nat → RS → List Int → Option (RS × Int)} {σ' : RS} {r : Int} (hR : rf_Rec l v d rec) (B : rf_B v p s m args meth c cX12_needWord 2 none) : ∀ (σ : RS) (x1 : Int), inR x1 → pf_needWord_0 rec σ x1 = some (σ', r) → ∀ (H : Heap) (locs : List Loc) (ls : Array Slot), rf_W v s σ H locs → lv_has ls 2 [(0, .ref (rf_h v)), (1, .int (rI x1))] → W p l e (rf_rm (d + 1)) s m args below meth c H locs 0 0 (MQ below (rf_Q v σ' none) args s 0 0 (rf_F v)) (F0 m 0 ls []) := by
  obtain ⟨hx, hb, hr, hml, hown, hts, hlk, hK, hD⟩ := id B
  intro σ x1 ix1 hf H locs ls hw hl
  unfold pf_needWord_0 at hf
  refine lv_aload_n hx hb dX12_needWord_0 rfl (lv_at hl 0 rfl) ?_
  obtain ⟨z1, ez1, iz1, hf⟩ := rf_gi_s hw hf
  refine rf_geti B hw 7 (by decide) rfl lk_203 ez1 dX12_needWord_1 ?_
  refine lv_iconst (v := rI 1) hx hb dX12_needWord_4 rfl ?_
  refine rn_icmp_ne (a := z1) (b := 1) (tgt := 23) hx hb iz1 ⟨by decide, by decide⟩ dX12_needWord_5 (by decide) (fun c2 => ?_) (fun c2 => ?_)
  · replace hf := rf_if_t hf c2
    exact ps_needWord_23 hR B σ hf _ _ _ hw (lv_sub hl [0] rfl)
  · replace hf := rf_if_f hf c2
    refine lv_aload_n hx hb dX12_needWord_8 rfl (lv_at hl 0 rfl) ?_
    obtain ⟨z3, ez3, iz3, hf⟩ := rf_gi_s hw hf
    refine rf_geti B hw 11 (by decide) rfl lk_206 ez3 dX12_needWord_9 ?_
    refine lv_iload_n hx hb dX12_needWord_12 rfl (lv_at hl 1 rfl) ?_
    refine rn_icmp_ne (a := z3) (b := x1) (tgt := 23) hx hb iz3 ix1 dX12_needWord_13 (by decide) (fun c4 => ?_) (fun c4 => ?_)
    · replace hf := rf_if_t hf c4
      exact ps_needWord_23 hR B σ hf _ _ _ hw (lv_sub hl [0] rfl)
    · replace hf := rf_if_f hf c4
      refine lv_aload_n hx hb dX12_needWord_16 rfl (lv_at hl 0 rfl) ?_
      obtain ⟨σ5, z6, hσ5, hf⟩ := rf_cl_s hf
      obtain ⟨iz6, mσ5⟩ := hR 10 σ [] σ5 z6 hσ5
      have mσ5 : rf_Met l v yX12_next cX12_next 4 none d [.ref (rf_h v)] σ σ5 none := mσ5
      refine rf_cv (n := 0) (rest := []) (As := []) B mσ5 g_231_next (by decide +kernel) (by decide) rfl hl.1 (Nat.le_of_ble_eq_true rfl) dX12_needWord_17 rfl hw (fun H locs hw => ?_)
      refine lv_goto (tgt := 27) hx hb dX12_needWord_20 (by decide) ?_
      exact rf_retv B hf hw dX12_needWord_27

set_option maxHeartbeats 4000000 in
set_option maxRecDepth 100000 in
theorem pm_needWord {v : rfE} (hD : rf_D v) {l : Launch} {d : Nat} {rec : Nat → RS → List Int → Option (RS × Int)} (hR : rf_Rec l v d rec) (σ σ' : RS) (x1 r : Int) (ix1 : inR x1) (hf : pf_needWord_0 rec σ x1 = some (σ', r)) : rf_Met l v yX12_needWord cX12_needWord 2 none (d + 1) [.ref (rf_h v), .int (rI x1)] σ σ' none := by
  refine Met.ofW (cc := cX12_needWord) (maxL := 2) (ret := none) (by decide +kernel) rfl ?_
  intro p e s m args below meth c s₁ B hml hv
  obtain ⟨rfl, hM, hK⟩ := hv
  have hts := atoms_spec (ws := Cond.code yX12_needWord cX12_needWord 2 none :: rf_bw) B.pre
  have hB : rf_B v p s m _ meth c cX12_needWord 2 none := ⟨B.exec, B.bytes, B.returns, hml, findClass_of_methodNamed B.named, fun w h => hts w (List.mem_cons_of_mem _ h), B.notSynchronized, hK, hD⟩
  have hl := lv_entry ([.ref (rf_h v), .int (rI x1)]) (n := 2) (Nat.le_of_ble_eq_true rfl)
  rw [lg_entry_eq]
  generalize (lg_sl ([.ref (rf_h v), .int (rI x1)]) ++ List.replicate (2 - (lg_sl ([.ref (rf_h v), .int (rI x1)])).length) Slot.unset).toArray = ls at hl ⊢
  exact ps_needWord_0 hR hB σ x1 ix1 hf _ _ _ ⟨hM, rfl, fun _ _ => rfl, fun q h => by cases h⟩ (lv_sub hl [0, 1] rfl)

set_option maxHeartbeats 4000000 in
set_option maxRecDepth 100000 in
theorem ps_node_0 {v : rfE} {p : Program} {l : Launch} {e : Env} {s : State} {m : MethodId} {args : Array Value} {below : List Frame} {meth : Method} {c : Code} {d : Nat} {rec : Nat → RS → List Int → Option (RS × Int)} {σ' : RS} {r : Int} (hR : rf_Rec l v d rec) (B : rf_B v p s m args meth c cX12_node 6 (some .int)) : ∀ (σ : RS) (x1 x2 x3 x4 x5 : Int), inR x1 → inR x2 → inR x3 → inR x4 → inR x5 → pf_node_0 rec σ x1 x2 x3 x4 x5 = some (σ', r) → ∀ (H : Heap) (locs : List Loc) (ls : Array Slot), rf_W v s σ H locs → lv_has ls 6 [(0, .ref (rf_h v)), (1, .int (rI x1)), (2, .int (rI x2)), (3, .int (rI x3)), (4, .int (rI x4)), (5, .int (rI x5))] → W p l e (rf_rm (d + 1)) s m args below meth c H locs 0 0 (MQ below (rf_Q v σ' (some (.int (rI r)))) args s 0 0 (rf_F v)) (F0 m 0 ls []) := by
  obtain ⟨hx, hb, hr, hml, hown, hts, hlk, hK, hD⟩ := id B
  intro σ x1 x2 x3 x4 x5 ix1 ix2 ix3 ix4 ix5 hf H locs ls hw hl
  unfold pf_node_0 at hf
  refine lv_aload_n hx hb dX12_node_0 rfl (lv_at hl 0 rfl) ?_
  obtain ⟨z1, ez1, iz1, hf⟩ := rf_gi_s hw hf
  refine rf_geti B hw 15 (by decide) rfl lk_237 ez1 dX12_node_1 ?_
  refine rn_if_ne (a := z1) (tgt := 9) hx hb iz1 dX12_node_4 (by decide) (fun c2 => ?_) (fun c2 => ?_)
  · replace hf := rf_if_t hf c2
    refine lv_aload_n hx hb dX12_node_9 rfl (lv_at hl 0 rfl) ?_
    refine rf_get (val := .ref (rf_ad v 30)) B hw 30 (by decide) lk_76 rfl dX12_node_10 ?_
    refine lv_aload_n hx hb dX12_node_13 rfl (lv_at hl 0 rfl) ?_
    obtain ⟨z3, ez3, iz3, hf⟩ := rf_gi_s hw hf
    refine rf_geti B hw 39 (by decide) rfl lk_173 ez3 dX12_node_14 ?_
    refine lv_iload_n hx hb dX12_node_17 rfl (lv_at hl 1 rfl) ?_
    obtain ⟨σ4, eσ4, rσ4, hf⟩ := rf_wr_s hf
    refine rf_ast B hw iz3 ix1 rσ4 eσ4 dX12_node_18 (fun H locs hw => ?_)
    refine lv_aload_n hx hb dX12_node_19 rfl (lv_at hl 0 rfl) ?_
    refine rf_get (val := .ref (rf_ad v 31)) B hw 31 (by decide) lk_79 rfl dX12_node_20 ?_
    refine lv_aload_n hx hb dX12_node_23 rfl (lv_at hl 0 rfl) ?_
    obtain ⟨z5, ez5, iz5, hf⟩ := rf_gi_s hw hf
    refine rf_geti B hw 39 (by decide) rfl lk_173 ez5 dX12_node_24 ?_
    refine lv_iload_n hx hb dX12_node_27 rfl (lv_at hl 2 rfl) ?_
    obtain ⟨σ6, eσ6, rσ6, hf⟩ := rf_wr_s hf
    refine rf_ast B hw iz5 ix2 rσ6 eσ6 dX12_node_28 (fun H locs hw => ?_)
    refine lv_aload_n hx hb dX12_node_29 rfl (lv_at hl 0 rfl) ?_
    refine rf_get (val := .ref (rf_ad v 32)) B hw 32 (by decide) lk_82 rfl dX12_node_30 ?_
    refine lv_aload_n hx hb dX12_node_33 rfl (lv_at hl 0 rfl) ?_
    obtain ⟨z7, ez7, iz7, hf⟩ := rf_gi_s hw hf
    refine rf_geti B hw 39 (by decide) rfl lk_173 ez7 dX12_node_34 ?_
    refine lv_iload_n hx hb dX12_node_37 rfl (lv_at hl 3 rfl) ?_
    obtain ⟨σ8, eσ8, rσ8, hf⟩ := rf_wr_s hf
    refine rf_ast B hw iz7 ix3 rσ8 eσ8 dX12_node_38 (fun H locs hw => ?_)
    refine lv_aload_n hx hb dX12_node_39 rfl (lv_at hl 0 rfl) ?_
    refine rf_get (val := .ref (rf_ad v 33)) B hw 33 (by decide) lk_85 rfl dX12_node_40 ?_
    refine lv_aload_n hx hb dX12_node_43 rfl (lv_at hl 0 rfl) ?_
    obtain ⟨z9, ez9, iz9, hf⟩ := rf_gi_s hw hf
    refine rf_geti B hw 39 (by decide) rfl lk_173 ez9 dX12_node_44 ?_
    refine lv_iload hx hb dX12_node_47 (lv_at hl 4 rfl) ?_
    obtain ⟨σ10, eσ10, rσ10, hf⟩ := rf_wr_s hf
    refine rf_ast B hw iz9 ix4 rσ10 eσ10 dX12_node_49 (fun H locs hw => ?_)
    refine lv_aload_n hx hb dX12_node_50 rfl (lv_at hl 0 rfl) ?_
    refine rf_get (val := .ref (rf_ad v 34)) B hw 34 (by decide) lk_88 rfl dX12_node_51 ?_
    refine lv_aload_n hx hb dX12_node_54 rfl (lv_at hl 0 rfl) ?_
    obtain ⟨z11, ez11, iz11, hf⟩ := rf_gi_s hw hf
    refine rf_geti B hw 39 (by decide) rfl lk_173 ez11 dX12_node_55 ?_
    refine lv_iload hx hb dX12_node_58 (lv_at hl 5 rfl) ?_
    obtain ⟨σ12, eσ12, rσ12, hf⟩ := rf_wr_s hf
    refine rf_ast B hw iz11 ix5 rσ12 eσ12 dX12_node_60 (fun H locs hw => ?_)
    refine lv_aload_n hx hb dX12_node_61 rfl (lv_at hl 0 rfl) ?_
    refine rf_get (val := .ref (rf_ad v 35)) B hw 35 (by decide) lk_91 rfl dX12_node_62 ?_
    refine lv_aload_n hx hb dX12_node_65 rfl (lv_at hl 0 rfl) ?_
    obtain ⟨z13, ez13, iz13, hf⟩ := rf_gi_s hw hf
    refine rf_geti B hw 39 (by decide) rfl lk_173 ez13 dX12_node_66 ?_
    refine lv_iload hx hb dX12_node_69 (lv_at hl 5 rfl) ?_
    obtain ⟨σ14, eσ14, rσ14, hf⟩ := rf_wr_s hf
    refine rf_ast B hw iz13 ix5 rσ14 eσ14 dX12_node_71 (fun H locs hw => ?_)
    refine lv_aload_n hx hb dX12_node_72 rfl (lv_at hl 0 rfl) ?_
    refine rf_get (val := .ref (rf_ad v 38)) B hw 38 (by decide) lk_100 rfl dX12_node_73 ?_
    refine lv_aload_n hx hb dX12_node_76 rfl (lv_at hl 0 rfl) ?_
    obtain ⟨z15, ez15, iz15, hf⟩ := rf_gi_s hw hf
    refine rf_geti B hw 39 (by decide) rfl lk_173 ez15 dX12_node_77 ?_
    refine lv_aload_n hx hb dX12_node_80 rfl (lv_at hl 0 rfl) ?_
    obtain ⟨z16, ez16, iz16, hf⟩ := rf_gi_s hw hf
    refine rf_geti B hw 39 (by decide) rfl lk_173 ez16 dX12_node_81 ?_
    obtain ⟨σ17, eσ17, rσ17, hf⟩ := rf_wr_s hf
    refine rf_ast B hw iz15 iz16 rσ17 eσ17 dX12_node_84 (fun H locs hw => ?_)
    refine lv_aload_n hx hb dX12_node_85 rfl (lv_at hl 0 rfl) ?_
    refine lv_dup hx hb dX12_node_86 rfl ?_
    obtain ⟨z18, ez18, iz18, hf⟩ := rf_gi_s hw hf
    refine rf_geti B hw 39 (by decide) rfl lk_173 ez18 dX12_node_87 ?_
    refine lv_iconst (v := rI 1) hx hb dX12_node_90 rfl ?_
    obtain ⟨z19, ez19, iz19, hf⟩ := rf_ck_s hf
    refine rn_add hx hb ez19 dX12_node_91 ?_
    obtain ⟨σ20, eσ20, hf⟩ := rf_pi_s hf
    refine rf_put B hw 39 (by decide) rfl rfl lk_173 iz19 eσ20 rfl rfl dX12_node_92 (fun H locs hw => ?_)
    refine lv_aload_n hx hb dX12_node_95 rfl (lv_at hl 0 rfl) ?_
    obtain ⟨z21, ez21, iz21, hf⟩ := rf_gi_s hw hf
    refine rf_geti B hw 39 (by decide) rfl lk_173 ez21 dX12_node_96 ?_
    refine lv_iconst (v := rI 1) hx hb dX12_node_99 rfl ?_
    obtain ⟨z22, ez22, iz22, hf⟩ := rf_ck_s hf
    refine rn_sub hx hb ez22 dX12_node_100 ?_
    exact rf_reti B hf hw dX12_node_101
  · replace hf := rf_if_f hf c2
    refine lv_iconst (v := rI 0) hx hb dX12_node_7 rfl ?_
    exact rf_reti B hf hw dX12_node_8

set_option maxHeartbeats 4000000 in
set_option maxRecDepth 100000 in
theorem pm_node {v : rfE} (hD : rf_D v) {l : Launch} {d : Nat} {rec : Nat → RS → List Int → Option (RS × Int)} (hR : rf_Rec l v d rec) (σ σ' : RS) (x1 x2 x3 x4 x5 r : Int) (ix1 : inR x1) (ix2 : inR x2) (ix3 : inR x3) (ix4 : inR x4) (ix5 : inR x5) (hf : pf_node_0 rec σ x1 x2 x3 x4 x5 = some (σ', r)) : rf_Met l v yX12_node cX12_node 6 (some .int) (d + 1) [.ref (rf_h v), .int (rI x1), .int (rI x2), .int (rI x3), .int (rI x4), .int (rI x5)] σ σ' (some (.int (rI r))) := by
  refine Met.ofW (cc := cX12_node) (maxL := 6) (ret := (some .int)) (by decide +kernel) rfl ?_
  intro p e s m args below meth c s₁ B hml hv
  obtain ⟨rfl, hM, hK⟩ := hv
  have hts := atoms_spec (ws := Cond.code yX12_node cX12_node 6 (some .int) :: rf_bw) B.pre
  have hB : rf_B v p s m _ meth c cX12_node 6 (some .int) := ⟨B.exec, B.bytes, B.returns, hml, findClass_of_methodNamed B.named, fun w h => hts w (List.mem_cons_of_mem _ h), B.notSynchronized, hK, hD⟩
  have hl := lv_entry ([.ref (rf_h v), .int (rI x1), .int (rI x2), .int (rI x3), .int (rI x4), .int (rI x5)]) (n := 6) (Nat.le_of_ble_eq_true rfl)
  rw [lg_entry_eq]
  generalize (lg_sl ([.ref (rf_h v), .int (rI x1), .int (rI x2), .int (rI x3), .int (rI x4), .int (rI x5)]) ++ List.replicate (6 - (lg_sl ([.ref (rf_h v), .int (rI x1), .int (rI x2), .int (rI x3), .int (rI x4), .int (rI x5)])).length) Slot.unset).toArray = ls at hl ⊢
  exact ps_node_0 hR hB σ x1 x2 x3 x4 x5 ix1 ix2 ix3 ix4 ix5 hf _ _ _ ⟨hM, rfl, fun _ _ => rfl, fun q h => by cases h⟩ (lv_sub hl [0, 1, 2, 3, 4, 5] rfl)

set_option maxHeartbeats 4000000 in
set_option maxRecDepth 100000 in
theorem ps_nameNode_0 {v : rfE} {p : Program} {l : Launch} {e : Env} {s : State} {m : MethodId} {args : Array Value} {below : List Frame} {meth : Method} {c : Code} {d : Nat} {rec : Nat → RS → List Int → Option (RS × Int)} {σ' : RS} {r : Int} (hR : rf_Rec l v d rec) (B : rf_B v p s m args meth c cX12_nameNode 2 (some .int)) : ∀ (σ : RS), pf_nameNode_0 rec σ = some (σ', r) → ∀ (H : Heap) (locs : List Loc) (ls : Array Slot), rf_W v s σ H locs → lv_has ls 2 [(0, .ref (rf_h v))] → W p l e (rf_rm (d + 1)) s m args below meth c H locs 0 0 (MQ below (rf_Q v σ' (some (.int (rI r)))) args s 0 0 (rf_F v)) (F0 m 0 ls []) := by
  obtain ⟨hx, hb, hr, hml, hown, hts, hlk, hK, hD⟩ := id B
  intro σ hf H locs ls hw hl
  unfold pf_nameNode_0 at hf
  refine lv_aload_n hx hb dX12_nameNode_0 rfl (lv_at hl 0 rfl) ?_
  refine lv_iconst (v := rI 0) hx hb dX12_nameNode_1 rfl ?_
  refine lv_aload_n hx hb dX12_nameNode_2 rfl (lv_at hl 0 rfl) ?_
  obtain ⟨z1, ez1, iz1, hf⟩ := rf_gi_s hw hf
  refine rf_geti B hw 9 (by decide) rfl lk_200 ez1 dX12_nameNode_3 ?_
  refine lv_aload_n hx hb dX12_nameNode_6 rfl (lv_at hl 0 rfl) ?_
  obtain ⟨z2, ez2, iz2, hf⟩ := rf_gi_s hw hf
  refine rf_geti B hw 10 (by decide) rfl lk_212 ez2 dX12_nameNode_7 ?_
  refine lv_aload_n hx hb dX12_nameNode_10 rfl (lv_at hl 0 rfl) ?_
  obtain ⟨z3, ez3, iz3, hf⟩ := rf_gi_s hw hf
  refine rf_geti B hw 9 (by decide) rfl lk_200 ez3 dX12_nameNode_11 ?_
  obtain ⟨z4, ez4, iz4, hf⟩ := rf_ck_s hf
  refine rn_sub hx hb ez4 dX12_nameNode_14 ?_
  refine lv_iconst (v := rI 0) hx hb dX12_nameNode_15 rfl ?_
  refine lv_aload_n hx hb dX12_nameNode_16 rfl (lv_at hl 0 rfl) ?_
  obtain ⟨z5, ez5, iz5, hf⟩ := rf_gi_s hw hf
  refine rf_geti B hw 9 (by decide) rfl lk_200 ez5 dX12_nameNode_17 ?_
  obtain ⟨σ6, z7, hσ6, hf⟩ := rf_cl_s hf
  obtain ⟨iz7, mσ6⟩ := hR 18 σ [0, z1, z4, 0, z5] σ6 z7 hσ6
  have mσ6 : rf_Met l v yX12_node cX12_node 6 (some .int) d [.ref (rf_h v), .int (rI 0), .int (rI z1), .int (rI z4), .int (rI 0), .int (rI z5)] σ σ6 (some (.int (rI z7))) := mσ6 ⟨by decide, by decide⟩ iz1 iz4 ⟨by decide, by decide⟩ iz5
  refine rf_cv (n := 5) (rest := []) (As := [.int (rI 0), .int (rI z1), .int (rI z4), .int (rI 0), .int (rI z5)]) B mσ6 g_241_node (by decide +kernel) (by decide) rfl hl.1 (Nat.le_of_ble_eq_true rfl) dX12_nameNode_20 rfl hw (fun H locs hw => ?_)
  refine lv_istore_n (lv' := [(1, .int (rI z7)), (0, .ref (rf_h v))]) hx hb dX12_nameNode_23 rfl hl (by decide) rfl (fun ls hl => ?_)
  refine lv_aload_n hx hb dX12_nameNode_24 rfl (lv_at hl 1 rfl) ?_
  obtain ⟨σ8, z9, hσ8, hf⟩ := rf_cl_s hf
  obtain ⟨iz9, mσ8⟩ := hR 14 σ6 [] σ8 z9 hσ8
  have mσ8 : rf_Met l v yX12_isName cX12_isName 1 (some .boolean) d [.ref (rf_h v)] σ6 σ8 (some (.int (rI z9))) := mσ8
  refine rf_cv (n := 0) (rest := []) (As := []) B mσ8 g_245_isName (by decide +kernel) (by decide) rfl hl.1 (Nat.le_of_ble_eq_true rfl) dX12_nameNode_25 rfl hw (fun H locs hw => ?_)
  refine rn_if_eq (a := z9) (tgt := 38) hx hb iz9 dX12_nameNode_28 (by decide) (fun c10 => ?_) (fun c10 => ?_)
  · replace hf := rf_if_t hf c10
    refine lv_aload_n hx hb dX12_nameNode_38 rfl (lv_at hl 1 rfl) ?_
    obtain ⟨σ11, z12, hσ11, hf⟩ := rf_cl_s hf
    obtain ⟨iz12, mσ11⟩ := hR 15 σ8 [] σ11 z12 hσ11
    have mσ11 : rf_Met l v yX12_cant cX12_cant 1 none d [.ref (rf_h v)] σ8 σ11 none := mσ11
    refine rf_cv (n := 0) (rest := []) (As := []) B mσ11 g_234_cant (by decide +kernel) (by decide) rfl hl.1 (Nat.le_of_ble_eq_true rfl) dX12_nameNode_39 rfl hw (fun H locs hw => ?_)
    refine lv_iload_n hx hb dX12_nameNode_42 rfl (lv_at hl 0 rfl) ?_
    exact rf_reti B hf hw dX12_nameNode_43
  · replace hf := rf_if_f hf c10
    refine lv_aload_n hx hb dX12_nameNode_31 rfl (lv_at hl 1 rfl) ?_
    obtain ⟨σ13, z14, hσ13, hf⟩ := rf_cl_s hf
    obtain ⟨iz14, mσ13⟩ := hR 10 σ8 [] σ13 z14 hσ13
    have mσ13 : rf_Met l v yX12_next cX12_next 4 none d [.ref (rf_h v)] σ8 σ13 none := mσ13
    refine rf_cv (n := 0) (rest := []) (As := []) B mσ13 g_231_next (by decide +kernel) (by decide) rfl hl.1 (Nat.le_of_ble_eq_true rfl) dX12_nameNode_32 rfl hw (fun H locs hw => ?_)
    refine lv_goto (tgt := 42) hx hb dX12_nameNode_35 (by decide) ?_
    refine lv_iload_n hx hb dX12_nameNode_42 rfl (lv_at hl 0 rfl) ?_
    exact rf_reti B hf hw dX12_nameNode_43

set_option maxHeartbeats 4000000 in
set_option maxRecDepth 100000 in
theorem pm_nameNode {v : rfE} (hD : rf_D v) {l : Launch} {d : Nat} {rec : Nat → RS → List Int → Option (RS × Int)} (hR : rf_Rec l v d rec) (σ σ' : RS) (r : Int) (hf : pf_nameNode_0 rec σ = some (σ', r)) : rf_Met l v yX12_nameNode cX12_nameNode 2 (some .int) (d + 1) [.ref (rf_h v)] σ σ' (some (.int (rI r))) := by
  refine Met.ofW (cc := cX12_nameNode) (maxL := 2) (ret := (some .int)) (by decide +kernel) rfl ?_
  intro p e s m args below meth c s₁ B hml hv
  obtain ⟨rfl, hM, hK⟩ := hv
  have hts := atoms_spec (ws := Cond.code yX12_nameNode cX12_nameNode 2 (some .int) :: rf_bw) B.pre
  have hB : rf_B v p s m _ meth c cX12_nameNode 2 (some .int) := ⟨B.exec, B.bytes, B.returns, hml, findClass_of_methodNamed B.named, fun w h => hts w (List.mem_cons_of_mem _ h), B.notSynchronized, hK, hD⟩
  have hl := lv_entry ([.ref (rf_h v)]) (n := 2) (Nat.le_of_ble_eq_true rfl)
  rw [lg_entry_eq]
  generalize (lg_sl ([.ref (rf_h v)]) ++ List.replicate (2 - (lg_sl ([.ref (rf_h v)])).length) Slot.unset).toArray = ls at hl ⊢
  exact ps_nameNode_0 hR hB σ hf _ _ _ ⟨hM, rfl, fun _ _ => rfl, fun q h => by cases h⟩ (lv_sub hl [0] rfl)

set_option maxHeartbeats 4000000 in
set_option maxRecDepth 100000 in
theorem ps_readTerm_76 {v : rfE} {p : Program} {l : Launch} {e : Env} {s : State} {m : MethodId} {args : Array Value} {below : List Frame} {meth : Method} {c : Code} {d : Nat} {rec : Nat → RS → List Int → Option (RS × Int)} {σ' : RS} {r : Int} (hR : rf_Rec l v d rec) (B : rf_B v p s m args meth c cX12_readTerm 7 (some .int)) : ∀ (σ : RS) (x1 x2 t0 : Int), inR x1 → inR x2 → inR t0 → pf_readTerm_76 rec σ x1 x2 t0 = some (σ', r) → ∀ (H : Heap) (locs : List Loc) (ls : Array Slot), rf_W v s σ H locs → lv_has ls 7 [(0, .ref (rf_h v)), (1, .int (rI x1)), (2, .int (rI x2))] → W p l e (rf_rm (d + 1)) s m args below meth c H locs 0 0 (MQ below (rf_Q v σ' (some (.int (rI r)))) args s 0 0 (rf_F v)) (F0 m 76 ls [.int (rI t0), .ref (rf_h v)]) := by
  obtain ⟨hx, hb, hr, hml, hown, hts, hlk, hK, hD⟩ := id B
  intro σ x1 x2 t0 ix1 ix2 it0 hf H locs ls hw hl
  unfold pf_readTerm_76 at hf
  refine lv_iconst (v := rI 0) hx hb dX12_readTerm_76 rfl ?_
  refine lv_iconst (v := rI 0) hx hb dX12_readTerm_77 rfl ?_
  refine lv_iconst (v := rI 0) hx hb dX12_readTerm_78 rfl ?_
  refine lv_iload_n hx hb dX12_readTerm_79 rfl (lv_at hl 2 rfl) ?_
  obtain ⟨σ1, z2, hσ1, hf⟩ := rf_cl_s hf
  obtain ⟨iz2, mσ1⟩ := hR 18 σ [t0, 0, 0, 0, x2] σ1 z2 hσ1
  have mσ1 : rf_Met l v yX12_node cX12_node 6 (some .int) d [.ref (rf_h v), .int (rI t0), .int (rI 0), .int (rI 0), .int (rI 0), .int (rI x2)] σ σ1 (some (.int (rI z2))) := mσ1 it0 ⟨by decide, by decide⟩ ⟨by decide, by decide⟩ ⟨by decide, by decide⟩ ix2
  refine rf_cv (n := 5) (rest := []) (As := [.int (rI t0), .int (rI 0), .int (rI 0), .int (rI 0), .int (rI x2)]) B mσ1 g_241_node (by decide +kernel) (by decide) rfl hl.1 (Nat.le_of_ble_eq_true rfl) dX12_readTerm_80 rfl hw (fun H locs hw => ?_)
  refine lv_istore_n (lv' := [(3, .int (rI z2)), (0, .ref (rf_h v)), (1, .int (rI x1)), (2, .int (rI x2))]) hx hb dX12_readTerm_83 rfl hl (by decide) rfl (fun ls hl => ?_)
  refine lv_aload_n hx hb dX12_readTerm_84 rfl (lv_at hl 1 rfl) ?_
  obtain ⟨σ3, z4, hσ3, hf⟩ := rf_cl_s hf
  obtain ⟨iz4, mσ3⟩ := hR 10 σ1 [] σ3 z4 hσ3
  have mσ3 : rf_Met l v yX12_next cX12_next 4 none d [.ref (rf_h v)] σ1 σ3 none := mσ3
  refine rf_cv (n := 0) (rest := []) (As := []) B mσ3 g_231_next (by decide +kernel) (by decide) rfl hl.1 (Nat.le_of_ble_eq_true rfl) dX12_readTerm_85 rfl hw (fun H locs hw => ?_)
  refine lv_aload_n hx hb dX12_readTerm_88 rfl (lv_at hl 1 rfl) ?_
  obtain ⟨σ5, z6, hσ5, hf⟩ := rf_cl_s hf
  obtain ⟨iz6, mσ5⟩ := hR 19 σ3 [] σ5 z6 hσ5
  have mσ5 : rf_Met l v yX12_nameNode cX12_nameNode 2 (some .int) d [.ref (rf_h v)] σ3 σ5 (some (.int (rI z6))) := mσ5
  refine rf_cv (n := 0) (rest := []) (As := []) B mσ5 g_249_nameNode (by decide +kernel) (by decide) rfl hl.1 (Nat.le_of_ble_eq_true rfl) dX12_readTerm_89 rfl hw (fun H locs hw => ?_)
  refine lv_istore (lv' := [(4, .int (rI z6)), (3, .int (rI z2)), (0, .ref (rf_h v)), (1, .int (rI x1)), (2, .int (rI x2))]) hx hb dX12_readTerm_92 hl (by decide) rfl (fun ls hl => ?_)
  refine lv_aload_n hx hb dX12_readTerm_94 rfl (lv_at hl 2 rfl) ?_
  refine lv_bipush (v := rI 58) hx hb dX12_readTerm_95 (by decide +kernel) ?_
  obtain ⟨σ7, z8, hσ7, hf⟩ := rf_cl_s hf
  obtain ⟨iz8, mσ7⟩ := hR 16 σ5 [58] σ7 z8 hσ7
  have mσ7 : rf_Met l v yX12_need cX12_need 2 none d [.ref (rf_h v), .int (rI 58)] σ5 σ7 none := mσ7 ⟨by decide, by decide⟩
  refine rf_cv (n := 1) (rest := []) (As := [.int (rI 58)]) B mσ7 g_252_need (by decide +kernel) (by decide) rfl hl.1 (Nat.le_of_ble_eq_true rfl) dX12_readTerm_97 rfl hw (fun H locs hw => ?_)
  refine lv_aload_n hx hb dX12_readTerm_100 rfl (lv_at hl 2 rfl) ?_
  refine lv_iload_n hx hb dX12_readTerm_101 rfl (lv_at hl 3 rfl) ?_
  refine lv_iconst (v := rI 1) hx hb dX12_readTerm_102 rfl ?_
  obtain ⟨z9, ez9, iz9, hf⟩ := rf_ck_s hf
  refine rn_add hx hb ez9 dX12_readTerm_103 ?_
  obtain ⟨σ10, z11, hσ10, hf⟩ := rf_cl_s hf
  obtain ⟨iz11, mσ10⟩ := hR 20 σ7 [z9] σ10 z11 hσ10
  have mσ10 : rf_Met l v yX12_readTerm cX12_readTerm 7 (some .int) d [.ref (rf_h v), .int (rI z9)] σ7 σ10 (some (.int (rI z11))) := mσ10 iz9
  refine rf_cv (n := 1) (rest := []) (As := [.int (rI z9)]) B mσ10 g_255_readTerm (by decide +kernel) (by decide) rfl hl.1 (Nat.le_of_ble_eq_true rfl) dX12_readTerm_104 rfl hw (fun H locs hw => ?_)
  refine lv_istore (lv' := [(5, .int (rI z11)), (4, .int (rI z6)), (3, .int (rI z2)), (0, .ref (rf_h v)), (1, .int (rI x1)), (2, .int (rI x2))]) hx hb dX12_readTerm_107 hl (by decide) rfl (fun ls hl => ?_)
  refine lv_aload_n hx hb dX12_readTerm_109 rfl (lv_at hl 3 rfl) ?_
  refine lv_bipush (v := rI 46) hx hb dX12_readTerm_110 (by decide +kernel) ?_
  obtain ⟨σ12, z13, hσ12, hf⟩ := rf_cl_s hf
  obtain ⟨iz13, mσ12⟩ := hR 16 σ10 [46] σ12 z13 hσ12
  have mσ12 : rf_Met l v yX12_need cX12_need 2 none d [.ref (rf_h v), .int (rI 46)] σ10 σ12 none := mσ12 ⟨by decide, by decide⟩
  refine rf_cv (n := 1) (rest := []) (As := [.int (rI 46)]) B mσ12 g_252_need (by decide +kernel) (by decide) rfl hl.1 (Nat.le_of_ble_eq_true rfl) dX12_readTerm_112 rfl hw (fun H locs hw => ?_)
  refine lv_aload_n hx hb dX12_readTerm_115 rfl (lv_at hl 3 rfl) ?_
  refine lv_iload_n hx hb dX12_readTerm_116 rfl (lv_at hl 4 rfl) ?_
  refine lv_iconst (v := rI 1) hx hb dX12_readTerm_117 rfl ?_
  obtain ⟨z14, ez14, iz14, hf⟩ := rf_ck_s hf
  refine rn_add hx hb ez14 dX12_readTerm_118 ?_
  obtain ⟨σ15, z16, hσ15, hf⟩ := rf_cl_s hf
  obtain ⟨iz16, mσ15⟩ := hR 20 σ12 [z14] σ15 z16 hσ15
  have mσ15 : rf_Met l v yX12_readTerm cX12_readTerm 7 (some .int) d [.ref (rf_h v), .int (rI z14)] σ12 σ15 (some (.int (rI z16))) := mσ15 iz14
  refine rf_cv (n := 1) (rest := []) (As := [.int (rI z14)]) B mσ15 g_255_readTerm (by decide +kernel) (by decide) rfl hl.1 (Nat.le_of_ble_eq_true rfl) dX12_readTerm_119 rfl hw (fun H locs hw => ?_)
  refine lv_istore (lv' := [(6, .int (rI z16)), (5, .int (rI z11)), (4, .int (rI z6)), (3, .int (rI z2)), (0, .ref (rf_h v)), (1, .int (rI x1)), (2, .int (rI x2))]) hx hb dX12_readTerm_122 hl (by decide) rfl (fun ls hl => ?_)
  refine lv_aload_n hx hb dX12_readTerm_124 rfl (lv_at hl 4 rfl) ?_
  refine lv_iload_n hx hb dX12_readTerm_125 rfl (lv_at hl 3 rfl) ?_
  refine lv_iload hx hb dX12_readTerm_126 (lv_at hl 2 rfl) ?_
  refine lv_iload hx hb dX12_readTerm_128 (lv_at hl 1 rfl) ?_
  refine lv_iload hx hb dX12_readTerm_130 (lv_at hl 0 rfl) ?_
  obtain ⟨σ17, z18, hσ17, hf⟩ := rf_cl_s hf
  obtain ⟨iz18, mσ17⟩ := hR 21 σ15 [z2, z6, z11, z16] σ17 z18 hσ17
  have mσ17 : rf_Met l v yX12_parts cX12_parts 5 (some .int) d [.ref (rf_h v), .int (rI z2), .int (rI z6), .int (rI z11), .int (rI z16)] σ15 σ17 (some (.int (rI z18))) := mσ17 iz2 iz6 iz11 iz16
  refine rf_cv (n := 4) (rest := []) (As := [.int (rI z2), .int (rI z6), .int (rI z11), .int (rI z16)]) B mσ17 g_258_parts (by decide +kernel) (by decide) rfl hl.1 (Nat.le_of_ble_eq_true rfl) dX12_readTerm_132 rfl hw (fun H locs hw => ?_)
  exact rf_reti B hf hw dX12_readTerm_135

set_option maxHeartbeats 4000000 in
set_option maxRecDepth 100000 in
theorem ps_readTerm_61 {v : rfE} {p : Program} {l : Launch} {e : Env} {s : State} {m : MethodId} {args : Array Value} {below : List Frame} {meth : Method} {c : Code} {d : Nat} {rec : Nat → RS → List Int → Option (RS × Int)} {σ' : RS} {r : Int} (hR : rf_Rec l v d rec) (B : rf_B v p s m args meth c cX12_readTerm 7 (some .int)) : ∀ (σ : RS) (x1 x2 : Int), inR x1 → inR x2 → pf_readTerm_61 rec σ x1 x2 = some (σ', r) → ∀ (H : Heap) (locs : List Loc) (ls : Array Slot), rf_W v s σ H locs → lv_has ls 7 [(0, .ref (rf_h v)), (1, .int (rI x1)), (2, .int (rI x2))] → W p l e (rf_rm (d + 1)) s m args below meth c H locs 0 0 (MQ below (rf_Q v σ' (some (.int (rI r)))) args s 0 0 (rf_F v)) (F0 m 61 ls []) := by
  obtain ⟨hx, hb, hr, hml, hown, hts, hlk, hK, hD⟩ := id B
  intro σ x1 x2 ix1 ix2 hf H locs ls hw hl
  unfold pf_readTerm_61 at hf
  refine lv_aload_n hx hb dX12_readTerm_61 rfl (lv_at hl 0 rfl) ?_
  refine lv_aload_n hx hb dX12_readTerm_62 rfl (lv_at hl 0 rfl) ?_
  refine lv_bipush (v := rI 92) hx hb dX12_readTerm_63 (by decide +kernel) ?_
  obtain ⟨σ1, z2, hσ1, hf⟩ := rf_cl_s hf
  obtain ⟨iz2, mσ1⟩ := hR 13 σ [92] σ1 z2 hσ1
  have mσ1 : rf_Met l v yX12_isSign cX12_isSign 2 (some .boolean) d [.ref (rf_h v), .int (rI 92)] σ σ1 (some (.int (rI z2))) := mσ1 ⟨by decide, by decide⟩
  refine rf_cv (n := 1) (rest := [.ref (rf_h v)]) (As := [.int (rI 92)]) B mσ1 g_228_isSign (by decide +kernel) (by decide) rfl hl.1 (Nat.le_of_ble_eq_true rfl) dX12_readTerm_65 rfl hw (fun H locs hw => ?_)
  refine rn_if_eq (a := z2) (tgt := 75) hx hb iz2 dX12_readTerm_68 (by decide) (fun c3 => ?_) (fun c3 => ?_)
  · replace hf := rf_if_t hf c3
    refine lv_iconst (v := rI 5) hx hb dX12_readTerm_75 rfl ?_
    exact ps_readTerm_76 hR B σ1 x1 x2 5 ix1 ix2 ⟨by decide, by decide⟩ hf _ _ _ hw (lv_sub hl [0, 1, 2] rfl)
  · replace hf := rf_if_f hf c3
    refine lv_iconst (v := rI 4) hx hb dX12_readTerm_71 rfl ?_
    refine lv_goto (tgt := 76) hx hb dX12_readTerm_72 (by decide) ?_
    exact ps_readTerm_76 hR B σ1 x1 x2 4 ix1 ix2 ⟨by decide, by decide⟩ hf _ _ _ hw (lv_sub hl [0, 1, 2] rfl)

set_option maxHeartbeats 4000000 in
set_option maxRecDepth 100000 in
theorem ps_readTerm_217 {v : rfE} {p : Program} {l : Launch} {e : Env} {s : State} {m : MethodId} {args : Array Value} {below : List Frame} {meth : Method} {c : Code} {d : Nat} {rec : Nat → RS → List Int → Option (RS × Int)} {σ' : RS} {r : Int} (hR : rf_Rec l v d rec) (B : rf_B v p s m args meth c cX12_readTerm 7 (some .int)) : ∀ (σ : RS) (x1 x2 : Int), inR x1 → inR x2 → pf_readTerm_217 rec σ x1 x2 = some (σ', r) → ∀ (H : Heap) (locs : List Loc) (ls : Array Slot), rf_W v s σ H locs → lv_has ls 7 [(0, .ref (rf_h v)), (1, .int (rI x1)), (2, .int (rI x2))] → W p l e (rf_rm (d + 1)) s m args below meth c H locs 0 0 (MQ below (rf_Q v σ' (some (.int (rI r)))) args s 0 0 (rf_F v)) (F0 m 217 ls []) := by
  obtain ⟨hx, hb, hr, hml, hown, hts, hlk, hK, hD⟩ := id B
  intro σ x1 x2 ix1 ix2 hf H locs ls hw hl
  unfold pf_readTerm_217 at hf
  refine lv_aload_n hx hb dX12_readTerm_217 rfl (lv_at hl 0 rfl) ?_
  refine lv_iload_n hx hb dX12_readTerm_218 rfl (lv_at hl 1 rfl) ?_
  refine lv_iload_n hx hb dX12_readTerm_219 rfl (lv_at hl 2 rfl) ?_
  obtain ⟨σ1, z2, hσ1, hf⟩ := rf_cl_s hf
  obtain ⟨iz2, mσ1⟩ := hR 23 σ [x1, x2] σ1 z2 hσ1
  have mσ1 : rf_Met l v yX12_readUse cX12_readUse 6 (some .int) d [.ref (rf_h v), .int (rI x1), .int (rI x2)] σ σ1 (some (.int (rI z2))) := mσ1 ix1 ix2
  refine rf_cv (n := 2) (rest := []) (As := [.int (rI x1), .int (rI x2)]) B mσ1 g_265_readUse (by decide +kernel) (by decide) rfl hl.1 (Nat.le_of_ble_eq_true rfl) dX12_readTerm_220 rfl hw (fun H locs hw => ?_)
  exact rf_reti B hf hw dX12_readTerm_223

set_option maxHeartbeats 4000000 in
set_option maxRecDepth 100000 in
theorem ps_readTerm_29 {v : rfE} {p : Program} {l : Launch} {e : Env} {s : State} {m : MethodId} {args : Array Value} {below : List Frame} {meth : Method} {c : Code} {d : Nat} {rec : Nat → RS → List Int → Option (RS × Int)} {σ' : RS} {r : Int} (hR : rf_Rec l v d rec) (B : rf_B v p s m args meth c cX12_readTerm 7 (some .int)) : ∀ (σ : RS) (x1 : Int), inR x1 → pf_readTerm_29 rec σ x1 = some (σ', r) → ∀ (H : Heap) (locs : List Loc) (ls : Array Slot), rf_W v s σ H locs → lv_has ls 7 [(0, .ref (rf_h v)), (1, .int (rI x1))] → W p l e (rf_rm (d + 1)) s m args below meth c H locs 0 0 (MQ below (rf_Q v σ' (some (.int (rI r)))) args s 0 0 (rf_F v)) (F0 m 29 ls []) := by
  obtain ⟨hx, hb, hr, hml, hown, hts, hlk, hK, hD⟩ := id B
  intro σ x1 ix1 hf H locs ls hw hl
  unfold pf_readTerm_29 at hf
  refine lv_aload_n hx hb dX12_readTerm_29 rfl (lv_at hl 0 rfl) ?_
  obtain ⟨z1, ez1, iz1, hf⟩ := rf_gi_s hw hf
  refine rf_geti B hw 72 (by decide) rfl lk_150 ez1 dX12_readTerm_30 ?_
  refine rn_if_eq (a := z1) (tgt := 38) hx hb iz1 dX12_readTerm_33 (by decide) (fun c2 => ?_) (fun c2 => ?_)
  · replace hf := rf_if_t hf c2
    refine lv_aload_n hx hb dX12_readTerm_38 rfl (lv_at hl 0 rfl) ?_
    obtain ⟨z3, ez3, iz3, hf⟩ := rf_gi_s hw hf
    refine rf_geti B hw 9 (by decide) rfl lk_200 ez3 dX12_readTerm_39 ?_
    refine lv_istore_n (lv' := [(2, .int (rI z3)), (0, .ref (rf_h v)), (1, .int (rI x1))]) hx hb dX12_readTerm_42 rfl hl (by decide) rfl (fun ls hl => ?_)
    refine lv_aload_n hx hb dX12_readTerm_43 rfl (lv_at hl 1 rfl) ?_
    refine lv_bipush (v := rI 92) hx hb dX12_readTerm_44 (by decide +kernel) ?_
    obtain ⟨σ4, z5, hσ4, hf⟩ := rf_cl_s hf
    obtain ⟨iz5, mσ4⟩ := hR 13 σ [92] σ4 z5 hσ4
    have mσ4 : rf_Met l v yX12_isSign cX12_isSign 2 (some .boolean) d [.ref (rf_h v), .int (rI 92)] σ σ4 (some (.int (rI z5))) := mσ4 ⟨by decide, by decide⟩
    refine rf_cv (n := 1) (rest := []) (As := [.int (rI 92)]) B mσ4 g_228_isSign (by decide +kernel) (by decide) rfl hl.1 (Nat.le_of_ble_eq_true rfl) dX12_readTerm_46 rfl hw (fun H locs hw => ?_)
    refine rn_if_ne (a := z5) (tgt := 61) hx hb iz5 dX12_readTerm_49 (by decide) (fun c6 => ?_) (fun c6 => ?_)
    · replace hf := rf_if_t hf c6
      exact ps_readTerm_61 hR B σ4 x1 z3 ix1 iz3 hf _ _ _ hw (lv_sub hl [1, 2, 0] rfl)
    · replace hf := rf_if_f hf c6
      refine lv_aload_n hx hb dX12_readTerm_52 rfl (lv_at hl 1 rfl) ?_
      refine lv_bipush (v := rI 33) hx hb dX12_readTerm_53 (by decide +kernel) ?_
      obtain ⟨σ7, z8, hσ7, hf⟩ := rf_cl_s hf
      obtain ⟨iz8, mσ7⟩ := hR 13 σ4 [33] σ7 z8 hσ7
      have mσ7 : rf_Met l v yX12_isSign cX12_isSign 2 (some .boolean) d [.ref (rf_h v), .int (rI 33)] σ4 σ7 (some (.int (rI z8))) := mσ7 ⟨by decide, by decide⟩
      refine rf_cv (n := 1) (rest := []) (As := [.int (rI 33)]) B mσ7 g_228_isSign (by decide +kernel) (by decide) rfl hl.1 (Nat.le_of_ble_eq_true rfl) dX12_readTerm_55 rfl hw (fun H locs hw => ?_)
      refine rn_if_eq (a := z8) (tgt := 136) hx hb iz8 dX12_readTerm_58 (by decide) (fun c9 => ?_) (fun c9 => ?_)
      · replace hf := rf_if_t hf c9
        refine lv_aload_n hx hb dX12_readTerm_136 rfl (lv_at hl 1 rfl) ?_
        obtain ⟨z10, ez10, iz10, hf⟩ := rf_gi_s hw hf
        refine rf_geti B hw 7 (by decide) rfl lk_203 ez10 dX12_readTerm_137 ?_
        refine lv_iconst (v := rI 1) hx hb dX12_readTerm_140 rfl ?_
        refine rn_icmp_ne (a := z10) (b := 1) (tgt := 217) hx hb iz10 ⟨by decide, by decide⟩ dX12_readTerm_141 (by decide) (fun c11 => ?_) (fun c11 => ?_)
        · replace hf := rf_if_t hf c11
          exact ps_readTerm_217 hR B σ7 x1 z3 ix1 iz3 hf _ _ _ hw (lv_sub hl [1, 2, 0] rfl)
        · replace hf := rf_if_f hf c11
          refine lv_aload_n hx hb dX12_readTerm_144 rfl (lv_at hl 1 rfl) ?_
          obtain ⟨z12, ez12, iz12, hf⟩ := rf_gi_s hw hf
          refine rf_geti B hw 11 (by decide) rfl lk_206 ez12 dX12_readTerm_145 ?_
          refine lv_bipush (v := rI 7) hx hb dX12_readTerm_148 (by decide +kernel) ?_
          refine rn_icmp_ne (a := z12) (b := 7) (tgt := 217) hx hb iz12 ⟨by decide, by decide⟩ dX12_readTerm_150 (by decide) (fun c13 => ?_) (fun c13 => ?_)
          · replace hf := rf_if_t hf c13
            exact ps_readTerm_217 hR B σ7 x1 z3 ix1 iz3 hf _ _ _ hw (lv_sub hl [1, 2, 0] rfl)
          · replace hf := rf_if_f hf c13
            refine lv_aload_n hx hb dX12_readTerm_153 rfl (lv_at hl 1 rfl) ?_
            refine lv_bipush (v := rI 6) hx hb dX12_readTerm_154 (by decide +kernel) ?_
            refine lv_iconst (v := rI 0) hx hb dX12_readTerm_156 rfl ?_
            refine lv_iconst (v := rI 0) hx hb dX12_readTerm_157 rfl ?_
            refine lv_iconst (v := rI 0) hx hb dX12_readTerm_158 rfl ?_
            refine lv_iload_n hx hb dX12_readTerm_159 rfl (lv_at hl 0 rfl) ?_
            obtain ⟨σ14, z15, hσ14, hf⟩ := rf_cl_s hf
            obtain ⟨iz15, mσ14⟩ := hR 18 σ7 [6, 0, 0, 0, z3] σ14 z15 hσ14
            have mσ14 : rf_Met l v yX12_node cX12_node 6 (some .int) d [.ref (rf_h v), .int (rI 6), .int (rI 0), .int (rI 0), .int (rI 0), .int (rI z3)] σ7 σ14 (some (.int (rI z15))) := mσ14 ⟨by decide, by decide⟩ ⟨by decide, by decide⟩ ⟨by decide, by decide⟩ ⟨by decide, by decide⟩ iz3
            refine rf_cv (n := 5) (rest := []) (As := [.int (rI 6), .int (rI 0), .int (rI 0), .int (rI 0), .int (rI z3)]) B mσ14 g_241_node (by decide +kernel) (by decide) rfl hl.1 (Nat.le_of_ble_eq_true rfl) dX12_readTerm_160 rfl hw (fun H locs hw => ?_)
            refine lv_istore_n (lv' := [(3, .int (rI z15)), (2, .int (rI z3)), (0, .ref (rf_h v)), (1, .int (rI x1))]) hx hb dX12_readTerm_163 rfl hl (by decide) rfl (fun ls hl => ?_)
            refine lv_aload_n hx hb dX12_readTerm_164 rfl (lv_at hl 2 rfl) ?_
            obtain ⟨σ16, z17, hσ16, hf⟩ := rf_cl_s hf
            obtain ⟨iz17, mσ16⟩ := hR 10 σ14 [] σ16 z17 hσ16
            have mσ16 : rf_Met l v yX12_next cX12_next 4 none d [.ref (rf_h v)] σ14 σ16 none := mσ16
            refine rf_cv (n := 0) (rest := []) (As := []) B mσ16 g_231_next (by decide +kernel) (by decide) rfl hl.1 (Nat.le_of_ble_eq_true rfl) dX12_readTerm_165 rfl hw (fun H locs hw => ?_)
            refine lv_aload_n hx hb dX12_readTerm_168 rfl (lv_at hl 2 rfl) ?_
            obtain ⟨σ18, z19, hσ18, hf⟩ := rf_cl_s hf
            obtain ⟨iz19, mσ18⟩ := hR 19 σ16 [] σ18 z19 hσ18
            have mσ18 : rf_Met l v yX12_nameNode cX12_nameNode 2 (some .int) d [.ref (rf_h v)] σ16 σ18 (some (.int (rI z19))) := mσ18
            refine rf_cv (n := 0) (rest := []) (As := []) B mσ18 g_249_nameNode (by decide +kernel) (by decide) rfl hl.1 (Nat.le_of_ble_eq_true rfl) dX12_readTerm_169 rfl hw (fun H locs hw => ?_)
            refine lv_istore (lv' := [(4, .int (rI z19)), (3, .int (rI z15)), (2, .int (rI z3)), (0, .ref (rf_h v)), (1, .int (rI x1))]) hx hb dX12_readTerm_172 hl (by decide) rfl (fun ls hl => ?_)
            refine lv_aload_n hx hb dX12_readTerm_174 rfl (lv_at hl 3 rfl) ?_
            refine lv_sipush (v := rI 256) hx hb dX12_readTerm_175 (by decide +kernel) ?_
            obtain ⟨σ20, z21, hσ20, hf⟩ := rf_cl_s hf
            obtain ⟨iz21, mσ20⟩ := hR 16 σ18 [256] σ20 z21 hσ20
            have mσ20 : rf_Met l v yX12_need cX12_need 2 none d [.ref (rf_h v), .int (rI 256)] σ18 σ20 none := mσ20 ⟨by decide, by decide⟩
            refine rf_cv (n := 1) (rest := []) (As := [.int (rI 256)]) B mσ20 g_252_need (by decide +kernel) (by decide) rfl hl.1 (Nat.le_of_ble_eq_true rfl) dX12_readTerm_178 rfl hw (fun H locs hw => ?_)
            refine lv_aload_n hx hb dX12_readTerm_181 rfl (lv_at hl 3 rfl) ?_
            refine lv_iload_n hx hb dX12_readTerm_182 rfl (lv_at hl 4 rfl) ?_
            refine lv_iconst (v := rI 1) hx hb dX12_readTerm_183 rfl ?_
            obtain ⟨z22, ez22, iz22, hf⟩ := rf_ck_s hf
            refine rn_add hx hb ez22 dX12_readTerm_184 ?_
            obtain ⟨σ23, z24, hσ23, hf⟩ := rf_cl_s hf
            obtain ⟨iz24, mσ23⟩ := hR 20 σ20 [z22] σ23 z24 hσ23
            have mσ23 : rf_Met l v yX12_readTerm cX12_readTerm 7 (some .int) d [.ref (rf_h v), .int (rI z22)] σ20 σ23 (some (.int (rI z24))) := mσ23 iz22
            refine rf_cv (n := 1) (rest := []) (As := [.int (rI z22)]) B mσ23 g_255_readTerm (by decide +kernel) (by decide) rfl hl.1 (Nat.le_of_ble_eq_true rfl) dX12_readTerm_185 rfl hw (fun H locs hw => ?_)
            refine lv_istore (lv' := [(5, .int (rI z24)), (4, .int (rI z19)), (3, .int (rI z15)), (2, .int (rI z3)), (0, .ref (rf_h v)), (1, .int (rI x1))]) hx hb dX12_readTerm_188 hl (by decide) rfl (fun ls hl => ?_)
            refine lv_aload_n hx hb dX12_readTerm_190 rfl (lv_at hl 4 rfl) ?_
            refine lv_bipush (v := rI 8) hx hb dX12_readTerm_191 (by decide +kernel) ?_
            obtain ⟨σ25, z26, hσ25, hf⟩ := rf_cl_s hf
            obtain ⟨iz26, mσ25⟩ := hR 17 σ23 [8] σ25 z26 hσ25
            have mσ25 : rf_Met l v yX12_needWord cX12_needWord 2 none d [.ref (rf_h v), .int (rI 8)] σ23 σ25 none := mσ25 ⟨by decide, by decide⟩
            refine rf_cv (n := 1) (rest := []) (As := [.int (rI 8)]) B mσ25 g_262_needWord (by decide +kernel) (by decide) rfl hl.1 (Nat.le_of_ble_eq_true rfl) dX12_readTerm_193 rfl hw (fun H locs hw => ?_)
            refine lv_aload_n hx hb dX12_readTerm_196 rfl (lv_at hl 4 rfl) ?_
            refine lv_iload_n hx hb dX12_readTerm_197 rfl (lv_at hl 5 rfl) ?_
            refine lv_iconst (v := rI 1) hx hb dX12_readTerm_198 rfl ?_
            obtain ⟨z27, ez27, iz27, hf⟩ := rf_ck_s hf
            refine rn_add hx hb ez27 dX12_readTerm_199 ?_
            obtain ⟨σ28, z29, hσ28, hf⟩ := rf_cl_s hf
            obtain ⟨iz29, mσ28⟩ := hR 20 σ25 [z27] σ28 z29 hσ28
            have mσ28 : rf_Met l v yX12_readTerm cX12_readTerm 7 (some .int) d [.ref (rf_h v), .int (rI z27)] σ25 σ28 (some (.int (rI z29))) := mσ28 iz27
            refine rf_cv (n := 1) (rest := []) (As := [.int (rI z27)]) B mσ28 g_255_readTerm (by decide +kernel) (by decide) rfl hl.1 (Nat.le_of_ble_eq_true rfl) dX12_readTerm_200 rfl hw (fun H locs hw => ?_)
            refine lv_istore (lv' := [(6, .int (rI z29)), (5, .int (rI z24)), (4, .int (rI z19)), (3, .int (rI z15)), (2, .int (rI z3)), (0, .ref (rf_h v)), (1, .int (rI x1))]) hx hb dX12_readTerm_203 hl (by decide) rfl (fun ls hl => ?_)
            refine lv_aload_n hx hb dX12_readTerm_205 rfl (lv_at hl 5 rfl) ?_
            refine lv_iload_n hx hb dX12_readTerm_206 rfl (lv_at hl 3 rfl) ?_
            refine lv_iload hx hb dX12_readTerm_207 (lv_at hl 2 rfl) ?_
            refine lv_iload hx hb dX12_readTerm_209 (lv_at hl 1 rfl) ?_
            refine lv_iload hx hb dX12_readTerm_211 (lv_at hl 0 rfl) ?_
            obtain ⟨σ30, z31, hσ30, hf⟩ := rf_cl_s hf
            obtain ⟨iz31, mσ30⟩ := hR 21 σ28 [z15, z19, z24, z29] σ30 z31 hσ30
            have mσ30 : rf_Met l v yX12_parts cX12_parts 5 (some .int) d [.ref (rf_h v), .int (rI z15), .int (rI z19), .int (rI z24), .int (rI z29)] σ28 σ30 (some (.int (rI z31))) := mσ30 iz15 iz19 iz24 iz29
            refine rf_cv (n := 4) (rest := []) (As := [.int (rI z15), .int (rI z19), .int (rI z24), .int (rI z29)]) B mσ30 g_258_parts (by decide +kernel) (by decide) rfl hl.1 (Nat.le_of_ble_eq_true rfl) dX12_readTerm_213 rfl hw (fun H locs hw => ?_)
            exact rf_reti B hf hw dX12_readTerm_216
      · replace hf := rf_if_f hf c9
        exact ps_readTerm_61 hR B σ7 x1 z3 ix1 iz3 hf _ _ _ hw (lv_sub hl [1, 2, 0] rfl)
  · replace hf := rf_if_f hf c2
    refine lv_iconst (v := rI 0) hx hb dX12_readTerm_36 rfl ?_
    exact rf_reti B hf hw dX12_readTerm_37

set_option maxHeartbeats 4000000 in
set_option maxRecDepth 100000 in
theorem ps_readTerm_0 {v : rfE} {p : Program} {l : Launch} {e : Env} {s : State} {m : MethodId} {args : Array Value} {below : List Frame} {meth : Method} {c : Code} {d : Nat} {rec : Nat → RS → List Int → Option (RS × Int)} {σ' : RS} {r : Int} (hR : rf_Rec l v d rec) (B : rf_B v p s m args meth c cX12_readTerm 7 (some .int)) : ∀ (σ : RS) (x1 : Int), inR x1 → pf_readTerm_0 rec σ x1 = some (σ', r) → ∀ (H : Heap) (locs : List Loc) (ls : Array Slot), rf_W v s σ H locs → lv_has ls 7 [(0, .ref (rf_h v)), (1, .int (rI x1))] → W p l e (rf_rm (d + 1)) s m args below meth c H locs 0 0 (MQ below (rf_Q v σ' (some (.int (rI r)))) args s 0 0 (rf_F v)) (F0 m 0 ls []) := by
  obtain ⟨hx, hb, hr, hml, hown, hts, hlk, hK, hD⟩ := id B
  intro σ x1 ix1 hf H locs ls hw hl
  unfold pf_readTerm_0 at hf
  refine lv_iload_n hx hb dX12_readTerm_0 rfl (lv_at hl 1 rfl) ?_
  refine lv_bipush (v := rI 40) hx hb dX12_readTerm_1 (by decide +kernel) ?_
  refine rn_icmp_ne (a := x1) (b := 40) (tgt := 29) hx hb ix1 ⟨by decide, by decide⟩ dX12_readTerm_3 (by decide) (fun c1 => ?_) (fun c1 => ?_)
  · replace hf := rf_if_t hf c1
    exact ps_readTerm_29 hR B σ x1 ix1 hf _ _ _ hw (lv_sub hl [0, 1] rfl)
  · replace hf := rf_if_f hf c1
    refine lv_aload_n hx hb dX12_readTerm_6 rfl (lv_at hl 0 rfl) ?_
    obtain ⟨z2, ez2, iz2, hf⟩ := rf_gi_s hw hf
    refine rf_geti B hw 7 (by decide) rfl lk_203 ez2 dX12_readTerm_7 ?_
    refine rn_if_ne (a := z2) (tgt := 20) hx hb iz2 dX12_readTerm_10 (by decide) (fun c3 => ?_) (fun c3 => ?_)
    · replace hf := rf_if_t hf c3
      refine lv_aload_n hx hb dX12_readTerm_20 rfl (lv_at hl 0 rfl) ?_
      refine lv_iconst (v := rI 2) hx hb dX12_readTerm_21 rfl ?_
      refine lv_aload_n hx hb dX12_readTerm_22 rfl (lv_at hl 0 rfl) ?_
      obtain ⟨z4, ez4, iz4, hf⟩ := rf_gi_s hw hf
      refine rf_geti B hw 9 (by decide) rfl lk_200 ez4 dX12_readTerm_23 ?_
      obtain ⟨σ5, z6, hσ5, hf⟩ := rf_cl_s hf
      obtain ⟨iz6, mσ5⟩ := hR 3 σ [2, z4] σ5 z6 hσ5
      have mσ5 : rf_Met l v yX12_wrong cX12_wrong 3 none d [.ref (rf_h v), .int (rI 2), .int (rI z4)] σ σ5 none := mσ5 ⟨by decide, by decide⟩ iz4
      refine rf_cv (n := 2) (rest := []) (As := [.int (rI 2), .int (rI z4)]) B mσ5 g_218_wrong (by decide +kernel) (by decide) rfl hl.1 (Nat.le_of_ble_eq_true rfl) dX12_readTerm_26 rfl hw (fun H locs hw => ?_)
      exact ps_readTerm_29 hR B σ5 x1 ix1 hf _ _ _ hw (lv_sub hl [0, 1] rfl)
    · replace hf := rf_if_f hf c3
      refine lv_aload_n hx hb dX12_readTerm_13 rfl (lv_at hl 0 rfl) ?_
      obtain ⟨σ7, z8, hσ7, hf⟩ := rf_cl_s hf
      obtain ⟨iz8, mσ7⟩ := hR 15 σ [] σ7 z8 hσ7
      have mσ7 : rf_Met l v yX12_cant cX12_cant 1 none d [.ref (rf_h v)] σ σ7 none := mσ7
      refine rf_cv (n := 0) (rest := []) (As := []) B mσ7 g_234_cant (by decide +kernel) (by decide) rfl hl.1 (Nat.le_of_ble_eq_true rfl) dX12_readTerm_14 rfl hw (fun H locs hw => ?_)
      refine lv_goto (tgt := 29) hx hb dX12_readTerm_17 (by decide) ?_
      exact ps_readTerm_29 hR B σ7 x1 ix1 hf _ _ _ hw (lv_sub hl [0, 1] rfl)

set_option maxHeartbeats 4000000 in
set_option maxRecDepth 100000 in
theorem pm_readTerm {v : rfE} (hD : rf_D v) {l : Launch} {d : Nat} {rec : Nat → RS → List Int → Option (RS × Int)} (hR : rf_Rec l v d rec) (σ σ' : RS) (x1 r : Int) (ix1 : inR x1) (hf : pf_readTerm_0 rec σ x1 = some (σ', r)) : rf_Met l v yX12_readTerm cX12_readTerm 7 (some .int) (d + 1) [.ref (rf_h v), .int (rI x1)] σ σ' (some (.int (rI r))) := by
  refine Met.ofW (cc := cX12_readTerm) (maxL := 7) (ret := (some .int)) (by decide +kernel) rfl ?_
  intro p e s m args below meth c s₁ B hml hv
  obtain ⟨rfl, hM, hK⟩ := hv
  have hts := atoms_spec (ws := Cond.code yX12_readTerm cX12_readTerm 7 (some .int) :: rf_bw) B.pre
  have hB : rf_B v p s m _ meth c cX12_readTerm 7 (some .int) := ⟨B.exec, B.bytes, B.returns, hml, findClass_of_methodNamed B.named, fun w h => hts w (List.mem_cons_of_mem _ h), B.notSynchronized, hK, hD⟩
  have hl := lv_entry ([.ref (rf_h v), .int (rI x1)]) (n := 7) (Nat.le_of_ble_eq_true rfl)
  rw [lg_entry_eq]
  generalize (lg_sl ([.ref (rf_h v), .int (rI x1)]) ++ List.replicate (7 - (lg_sl ([.ref (rf_h v), .int (rI x1)])).length) Slot.unset).toArray = ls at hl ⊢
  exact ps_readTerm_0 hR hB σ x1 ix1 hf _ _ _ ⟨hM, rfl, fun _ _ => rfl, fun q h => by cases h⟩ (lv_sub hl [0, 1] rfl)

set_option maxHeartbeats 4000000 in
set_option maxRecDepth 100000 in
theorem ps_parts_0 {v : rfE} {p : Program} {l : Launch} {e : Env} {s : State} {m : MethodId} {args : Array Value} {below : List Frame} {meth : Method} {c : Code} {d : Nat} {rec : Nat → RS → List Int → Option (RS × Int)} {σ' : RS} {r : Int} (hR : rf_Rec l v d rec) (B : rf_B v p s m args meth c cX12_parts 5 (some .int)) : ∀ (σ : RS) (x1 x2 x3 x4 : Int), inR x1 → inR x2 → inR x3 → inR x4 → pf_parts_0 rec σ x1 x2 x3 x4 = some (σ', r) → ∀ (H : Heap) (locs : List Loc) (ls : Array Slot), rf_W v s σ H locs → lv_has ls 5 [(0, .ref (rf_h v)), (1, .int (rI x1)), (2, .int (rI x2)), (3, .int (rI x3)), (4, .int (rI x4))] → W p l e (rf_rm (d + 1)) s m args below meth c H locs 0 0 (MQ below (rf_Q v σ' (some (.int (rI r)))) args s 0 0 (rf_F v)) (F0 m 0 ls []) := by
  obtain ⟨hx, hb, hr, hml, hown, hts, hlk, hK, hD⟩ := id B
  intro σ x1 x2 x3 x4 ix1 ix2 ix3 ix4 hf H locs ls hw hl
  unfold pf_parts_0 at hf
  refine lv_aload_n hx hb dX12_parts_0 rfl (lv_at hl 0 rfl) ?_
  obtain ⟨z1, ez1, iz1, hf⟩ := rf_gi_s hw hf
  refine rf_geti B hw 15 (by decide) rfl lk_237 ez1 dX12_parts_1 ?_
  refine rn_if_eq (a := z1) (tgt := 29) hx hb iz1 dX12_parts_4 (by decide) (fun c2 => ?_) (fun c2 => ?_)
  · replace hf := rf_if_t hf c2
    refine lv_iload_n hx hb dX12_parts_29 rfl (lv_at hl 1 rfl) ?_
    exact rf_reti B hf hw dX12_parts_30
  · replace hf := rf_if_f hf c2
    refine lv_aload_n hx hb dX12_parts_7 rfl (lv_at hl 0 rfl) ?_
    refine rf_get (val := .ref (rf_ad v 31)) B hw 31 (by decide) lk_79 rfl dX12_parts_8 ?_
    refine lv_iload_n hx hb dX12_parts_11 rfl (lv_at hl 1 rfl) ?_
    refine lv_iload_n hx hb dX12_parts_12 rfl (lv_at hl 2 rfl) ?_
    obtain ⟨σ3, eσ3, rσ3, hf⟩ := rf_wr_s hf
    refine rf_ast B hw ix1 ix2 rσ3 eσ3 dX12_parts_13 (fun H locs hw => ?_)
    refine lv_aload_n hx hb dX12_parts_14 rfl (lv_at hl 0 rfl) ?_
    refine rf_get (val := .ref (rf_ad v 32)) B hw 32 (by decide) lk_82 rfl dX12_parts_15 ?_
    refine lv_iload_n hx hb dX12_parts_18 rfl (lv_at hl 1 rfl) ?_
    refine lv_iload_n hx hb dX12_parts_19 rfl (lv_at hl 3 rfl) ?_
    obtain ⟨σ4, eσ4, rσ4, hf⟩ := rf_wr_s hf
    refine rf_ast B hw ix1 ix3 rσ4 eσ4 dX12_parts_20 (fun H locs hw => ?_)
    refine lv_aload_n hx hb dX12_parts_21 rfl (lv_at hl 0 rfl) ?_
    refine rf_get (val := .ref (rf_ad v 33)) B hw 33 (by decide) lk_85 rfl dX12_parts_22 ?_
    refine lv_iload_n hx hb dX12_parts_25 rfl (lv_at hl 1 rfl) ?_
    refine lv_iload hx hb dX12_parts_26 (lv_at hl 4 rfl) ?_
    obtain ⟨σ5, eσ5, rσ5, hf⟩ := rf_wr_s hf
    refine rf_ast B hw ix1 ix4 rσ5 eσ5 dX12_parts_28 (fun H locs hw => ?_)
    refine lv_iload_n hx hb dX12_parts_29 rfl (lv_at hl 1 rfl) ?_
    exact rf_reti B hf hw dX12_parts_30

set_option maxHeartbeats 4000000 in
set_option maxRecDepth 100000 in
theorem pm_parts {v : rfE} (hD : rf_D v) {l : Launch} {d : Nat} {rec : Nat → RS → List Int → Option (RS × Int)} (hR : rf_Rec l v d rec) (σ σ' : RS) (x1 x2 x3 x4 r : Int) (ix1 : inR x1) (ix2 : inR x2) (ix3 : inR x3) (ix4 : inR x4) (hf : pf_parts_0 rec σ x1 x2 x3 x4 = some (σ', r)) : rf_Met l v yX12_parts cX12_parts 5 (some .int) (d + 1) [.ref (rf_h v), .int (rI x1), .int (rI x2), .int (rI x3), .int (rI x4)] σ σ' (some (.int (rI r))) := by
  refine Met.ofW (cc := cX12_parts) (maxL := 5) (ret := (some .int)) (by decide +kernel) rfl ?_
  intro p e s m args below meth c s₁ B hml hv
  obtain ⟨rfl, hM, hK⟩ := hv
  have hts := atoms_spec (ws := Cond.code yX12_parts cX12_parts 5 (some .int) :: rf_bw) B.pre
  have hB : rf_B v p s m _ meth c cX12_parts 5 (some .int) := ⟨B.exec, B.bytes, B.returns, hml, findClass_of_methodNamed B.named, fun w h => hts w (List.mem_cons_of_mem _ h), B.notSynchronized, hK, hD⟩
  have hl := lv_entry ([.ref (rf_h v), .int (rI x1), .int (rI x2), .int (rI x3), .int (rI x4)]) (n := 5) (Nat.le_of_ble_eq_true rfl)
  rw [lg_entry_eq]
  generalize (lg_sl ([.ref (rf_h v), .int (rI x1), .int (rI x2), .int (rI x3), .int (rI x4)]) ++ List.replicate (5 - (lg_sl ([.ref (rf_h v), .int (rI x1), .int (rI x2), .int (rI x3), .int (rI x4)])).length) Slot.unset).toArray = ls at hl ⊢
  exact ps_parts_0 hR hB σ x1 x2 x3 x4 ix1 ix2 ix3 ix4 hf _ _ _ ⟨hM, rfl, fun _ _ => rfl, fun q h => by cases h⟩ (lv_sub hl [0, 1, 2, 3, 4] rfl)

set_option maxHeartbeats 4000000 in
set_option maxRecDepth 100000 in
theorem ps_beginsAtom_0 {v : rfE} {p : Program} {l : Launch} {e : Env} {s : State} {m : MethodId} {args : Array Value} {below : List Frame} {meth : Method} {c : Code} {d : Nat} {rec : Nat → RS → List Int → Option (RS × Int)} {σ' : RS} {r : Int} (hR : rf_Rec l v d rec) (B : rf_B v p s m args meth c cX12_beginsAtom 1 (some .boolean)) : ∀ (σ : RS), pf_beginsAtom_0 rec σ = some (σ', r) → ∀ (H : Heap) (locs : List Loc) (ls : Array Slot), rf_W v s σ H locs → lv_has ls 1 [(0, .ref (rf_h v))] → W p l e (rf_rm (d + 1)) s m args below meth c H locs 0 0 (MQ below (rf_Q v σ' (some (.int (rI r)))) args s 0 0 (rf_F v)) (F0 m 0 ls []) := by
  obtain ⟨hx, hb, hr, hml, hown, hts, hlk, hK, hD⟩ := id B
  intro σ hf H locs ls hw hl
  unfold pf_beginsAtom_0 at hf
  refine lv_aload_n hx hb dX12_beginsAtom_0 rfl (lv_at hl 0 rfl) ?_
  obtain ⟨σ1, z2, hσ1, hf⟩ := rf_cl_s hf
  obtain ⟨iz2, mσ1⟩ := hR 14 σ [] σ1 z2 hσ1
  have mσ1 : rf_Met l v yX12_isName cX12_isName 1 (some .boolean) d [.ref (rf_h v)] σ σ1 (some (.int (rI z2))) := mσ1
  refine rf_cv (n := 0) (rest := []) (As := []) B mσ1 g_245_isName (by decide +kernel) (by decide) rfl hl.1 (Nat.le_of_ble_eq_true rfl) dX12_beginsAtom_1 rfl hw (fun H locs hw => ?_)
  refine rn_if_ne (a := z2) (tgt := 16) hx hb iz2 dX12_beginsAtom_4 (by decide) (fun c3 => ?_) (fun c3 => ?_)
  · replace hf := rf_if_t hf c3
    refine lv_iconst (v := rI 1) hx hb dX12_beginsAtom_16 rfl ?_
    refine lv_goto (tgt := 21) hx hb dX12_beginsAtom_17 (by decide) ?_
    obtain ⟨h01, hf⟩ := rf_bo_s hf
    exact rf_retz B h01 hf hw dX12_beginsAtom_21
  · replace hf := rf_if_f hf c3
    refine lv_aload_n hx hb dX12_beginsAtom_7 rfl (lv_at hl 0 rfl) ?_
    refine lv_bipush (v := rI 40) hx hb dX12_beginsAtom_8 (by decide +kernel) ?_
    obtain ⟨σ4, z5, hσ4, hf⟩ := rf_cl_s hf
    obtain ⟨iz5, mσ4⟩ := hR 13 σ1 [40] σ4 z5 hσ4
    have mσ4 : rf_Met l v yX12_isSign cX12_isSign 2 (some .boolean) d [.ref (rf_h v), .int (rI 40)] σ1 σ4 (some (.int (rI z5))) := mσ4 ⟨by decide, by decide⟩
    refine rf_cv (n := 1) (rest := []) (As := [.int (rI 40)]) B mσ4 g_228_isSign (by decide +kernel) (by decide) rfl hl.1 (Nat.le_of_ble_eq_true rfl) dX12_beginsAtom_10 rfl hw (fun H locs hw => ?_)
    refine rn_if_eq (a := z5) (tgt := 20) hx hb iz5 dX12_beginsAtom_13 (by decide) (fun c6 => ?_) (fun c6 => ?_)
    · replace hf := rf_if_t hf c6
      refine lv_iconst (v := rI 0) hx hb dX12_beginsAtom_20 rfl ?_
      obtain ⟨h01, hf⟩ := rf_bo_s hf
      exact rf_retz B h01 hf hw dX12_beginsAtom_21
    · replace hf := rf_if_f hf c6
      refine lv_iconst (v := rI 1) hx hb dX12_beginsAtom_16 rfl ?_
      refine lv_goto (tgt := 21) hx hb dX12_beginsAtom_17 (by decide) ?_
      obtain ⟨h01, hf⟩ := rf_bo_s hf
      exact rf_retz B h01 hf hw dX12_beginsAtom_21

set_option maxHeartbeats 4000000 in
set_option maxRecDepth 100000 in
theorem pm_beginsAtom {v : rfE} (hD : rf_D v) {l : Launch} {d : Nat} {rec : Nat → RS → List Int → Option (RS × Int)} (hR : rf_Rec l v d rec) (σ σ' : RS) (r : Int) (hf : pf_beginsAtom_0 rec σ = some (σ', r)) : rf_Met l v yX12_beginsAtom cX12_beginsAtom 1 (some .boolean) (d + 1) [.ref (rf_h v)] σ σ' (some (.int (rI r))) := by
  refine Met.ofW (cc := cX12_beginsAtom) (maxL := 1) (ret := (some .boolean)) (by decide +kernel) rfl ?_
  intro p e s m args below meth c s₁ B hml hv
  obtain ⟨rfl, hM, hK⟩ := hv
  have hts := atoms_spec (ws := Cond.code yX12_beginsAtom cX12_beginsAtom 1 (some .boolean) :: rf_bw) B.pre
  have hB : rf_B v p s m _ meth c cX12_beginsAtom 1 (some .boolean) := ⟨B.exec, B.bytes, B.returns, hml, findClass_of_methodNamed B.named, fun w h => hts w (List.mem_cons_of_mem _ h), B.notSynchronized, hK, hD⟩
  have hl := lv_entry ([.ref (rf_h v)]) (n := 1) (Nat.le_of_ble_eq_true rfl)
  rw [lg_entry_eq]
  generalize (lg_sl ([.ref (rf_h v)]) ++ List.replicate (1 - (lg_sl ([.ref (rf_h v)])).length) Slot.unset).toArray = ls at hl ⊢
  exact ps_beginsAtom_0 hR hB σ hf _ _ _ ⟨hM, rfl, fun _ _ => rfl, fun q h => by cases h⟩ (lv_sub hl [0] rfl)

set_option maxHeartbeats 4000000 in
set_option maxRecDepth 100000 in
theorem ps_readUse_42 {v : rfE} {p : Program} {l : Launch} {e : Env} {s : State} {m : MethodId} {args : Array Value} {below : List Frame} {meth : Method} {c : Code} {d : Nat} {rec : Nat → RS → List Int → Option (RS × Int)} {σ' : RS} {r : Int} (hR : rf_Rec l v d rec) (B : rf_B v p s m args meth c cX12_readUse 6 (some .int)) : ∀ (σ : RS) (x1 x2 x3 : Int), inR x1 → inR x2 → inR x3 → pf_readUse_42 rec σ x1 x2 x3 = some (σ', r) → ∀ (H : Heap) (locs : List Loc) (ls : Array Slot), rf_W v s σ H locs → lv_has ls 6 [(0, .ref (rf_h v)), (1, .int (rI x1)), (2, .int (rI x2)), (3, .int (rI x3))] → W p l e (rf_rm (d + 1)) s m args below meth c H locs 0 0 (MQ below (rf_Q v σ' (some (.int (rI r)))) args s 0 0 (rf_F v)) (F0 m 42 ls []) := by
  obtain ⟨hx, hb, hr, hml, hown, hts, hlk, hK, hD⟩ := id B
  intro σ x1 x2 x3 ix1 ix2 ix3 hf H locs ls hw hl
  unfold pf_readUse_42 at hf
  refine lv_aload_n hx hb dX12_readUse_42 rfl (lv_at hl 0 rfl) ?_
  obtain ⟨z1, ez1, iz1, hf⟩ := rf_gi_s hw hf
  refine rf_geti B hw 72 (by decide) rfl lk_150 ez1 dX12_readUse_43 ?_
  refine rn_if_ne (a := z1) (tgt := 104) hx hb iz1 dX12_readUse_46 (by decide) (fun c2 => ?_) (fun c2 => ?_)
  · replace hf := rf_if_t hf c2
    refine lv_iload_n hx hb dX12_readUse_104 rfl (lv_at hl 3 rfl) ?_
    exact rf_reti B hf hw dX12_readUse_105
  · replace hf := rf_if_f hf c2
    refine lv_aload_n hx hb dX12_readUse_49 rfl (lv_at hl 0 rfl) ?_
    refine lv_sipush (v := rI 257) hx hb dX12_readUse_50 (by decide +kernel) ?_
    obtain ⟨σ3, z4, hσ3, hf⟩ := rf_cl_s hf
    obtain ⟨iz4, mσ3⟩ := hR 13 σ [257] σ3 z4 hσ3
    have mσ3 : rf_Met l v yX12_isSign cX12_isSign 2 (some .boolean) d [.ref (rf_h v), .int (rI 257)] σ σ3 (some (.int (rI z4))) := mσ3 ⟨by decide, by decide⟩
    refine rf_cv (n := 1) (rest := []) (As := [.int (rI 257)]) B mσ3 g_228_isSign (by decide +kernel) (by decide) rfl hl.1 (Nat.le_of_ble_eq_true rfl) dX12_readUse_53 rfl hw (fun H locs hw => ?_)
    refine rn_if_eq (a := z4) (tgt := 104) hx hb iz4 dX12_readUse_56 (by decide) (fun c5 => ?_) (fun c5 => ?_)
    · replace hf := rf_if_t hf c5
      refine lv_iload_n hx hb dX12_readUse_104 rfl (lv_at hl 3 rfl) ?_
      exact rf_reti B hf hw dX12_readUse_105
    · replace hf := rf_if_f hf c5
      refine lv_aload_n hx hb dX12_readUse_59 rfl (lv_at hl 0 rfl) ?_
      obtain ⟨z6, ez6, iz6, hf⟩ := rf_gi_s hw hf
      refine rf_geti B hw 9 (by decide) rfl lk_200 ez6 dX12_readUse_60 ?_
      refine lv_istore (lv' := [(4, .int (rI z6)), (0, .ref (rf_h v)), (1, .int (rI x1)), (2, .int (rI x2)), (3, .int (rI x3))]) hx hb dX12_readUse_63 hl (by decide) rfl (fun ls hl => ?_)
      refine lv_aload_n hx hb dX12_readUse_65 rfl (lv_at hl 1 rfl) ?_
      obtain ⟨σ7, z8, hσ7, hf⟩ := rf_cl_s hf
      obtain ⟨iz8, mσ7⟩ := hR 10 σ3 [] σ7 z8 hσ7
      have mσ7 : rf_Met l v yX12_next cX12_next 4 none d [.ref (rf_h v)] σ3 σ7 none := mσ7
      refine rf_cv (n := 0) (rest := []) (As := []) B mσ7 g_231_next (by decide +kernel) (by decide) rfl hl.1 (Nat.le_of_ble_eq_true rfl) dX12_readUse_66 rfl hw (fun H locs hw => ?_)
      refine lv_aload_n hx hb dX12_readUse_69 rfl (lv_at hl 1 rfl) ?_
      refine lv_iload_n hx hb dX12_readUse_70 rfl (lv_at hl 2 rfl) ?_
      refine lv_iconst (v := rI 1) hx hb dX12_readUse_71 rfl ?_
      obtain ⟨z9, ez9, iz9, hf⟩ := rf_ck_s hf
      refine rn_add hx hb ez9 dX12_readUse_72 ?_
      obtain ⟨σ10, z11, hσ10, hf⟩ := rf_cl_s hf
      obtain ⟨iz11, mσ10⟩ := hR 20 σ7 [z9] σ10 z11 hσ10
      have mσ10 : rf_Met l v yX12_readTerm cX12_readTerm 7 (some .int) d [.ref (rf_h v), .int (rI z9)] σ7 σ10 (some (.int (rI z11))) := mσ10 iz9
      refine rf_cv (n := 1) (rest := []) (As := [.int (rI z9)]) B mσ10 g_255_readTerm (by decide +kernel) (by decide) rfl hl.1 (Nat.le_of_ble_eq_true rfl) dX12_readUse_73 rfl hw (fun H locs hw => ?_)
      refine lv_istore (lv' := [(5, .int (rI z11)), (4, .int (rI z6)), (0, .ref (rf_h v)), (1, .int (rI x1)), (2, .int (rI x2)), (3, .int (rI x3))]) hx hb dX12_readUse_76 hl (by decide) rfl (fun ls hl => ?_)
      refine lv_aload_n hx hb dX12_readUse_78 rfl (lv_at hl 2 rfl) ?_
      refine lv_iconst (v := rI 5) hx hb dX12_readUse_79 rfl ?_
      refine lv_iconst (v := rI (-1)) hx hb dX12_readUse_80 rfl ?_
      refine lv_iload_n hx hb dX12_readUse_81 rfl (lv_at hl 5 rfl) ?_
      refine lv_iload hx hb dX12_readUse_82 (lv_at hl 0 rfl) ?_
      refine lv_iload_n hx hb dX12_readUse_84 rfl (lv_at hl 4 rfl) ?_
      obtain ⟨σ12, z13, hσ12, hf⟩ := rf_cl_s hf
      obtain ⟨iz13, mσ12⟩ := hR 18 σ10 [5, (-1), x3, z11, x2] σ12 z13 hσ12
      have mσ12 : rf_Met l v yX12_node cX12_node 6 (some .int) d [.ref (rf_h v), .int (rI 5), .int (rI (-1)), .int (rI x3), .int (rI z11), .int (rI x2)] σ10 σ12 (some (.int (rI z13))) := mσ12 ⟨by decide, by decide⟩ ⟨by decide, by decide⟩ ix3 iz11 ix2
      refine rf_cv (n := 5) (rest := []) (As := [.int (rI 5), .int (rI (-1)), .int (rI x3), .int (rI z11), .int (rI x2)]) B mσ12 g_241_node (by decide +kernel) (by decide) rfl hl.1 (Nat.le_of_ble_eq_true rfl) dX12_readUse_85 rfl hw (fun H locs hw => ?_)
      refine lv_istore_n (lv' := [(3, .int (rI z13)), (5, .int (rI z11)), (4, .int (rI z6)), (0, .ref (rf_h v)), (1, .int (rI x1)), (2, .int (rI x2))]) hx hb dX12_readUse_88 rfl hl (by decide) rfl (fun ls hl => ?_)
      refine lv_aload_n hx hb dX12_readUse_89 rfl (lv_at hl 3 rfl) ?_
      obtain ⟨z14, ez14, iz14, hf⟩ := rf_gi_s hw hf
      refine rf_geti B hw 15 (by decide) rfl lk_237 ez14 dX12_readUse_90 ?_
      refine rn_if_eq (a := z14) (tgt := 104) hx hb iz14 dX12_readUse_93 (by decide) (fun c15 => ?_) (fun c15 => ?_)
      · replace hf := rf_if_t hf c15
        refine lv_iload_n hx hb dX12_readUse_104 rfl (lv_at hl 0 rfl) ?_
        exact rf_reti B hf hw dX12_readUse_105
      · replace hf := rf_if_f hf c15
        refine lv_aload_n hx hb dX12_readUse_96 rfl (lv_at hl 3 rfl) ?_
        refine rf_get (val := .ref (rf_ad v 35)) B hw 35 (by decide) lk_91 rfl dX12_readUse_97 ?_
        refine lv_iload_n hx hb dX12_readUse_100 rfl (lv_at hl 0 rfl) ?_
        refine lv_iload hx hb dX12_readUse_101 (lv_at hl 2 rfl) ?_
        obtain ⟨σ16, eσ16, rσ16, hf⟩ := rf_wr_s hf
        refine rf_ast B hw iz13 iz6 rσ16 eσ16 dX12_readUse_103 (fun H locs hw => ?_)
        refine lv_iload_n hx hb dX12_readUse_104 rfl (lv_at hl 0 rfl) ?_
        exact rf_reti B hf hw dX12_readUse_105

set_option maxHeartbeats 4000000 in
set_option maxRecDepth 100000 in
theorem ps_readUse_6 {v : rfE} {p : Program} {l : Launch} {e : Env} {s : State} {m : MethodId} {args : Array Value} {below : List Frame} {meth : Method} {c : Code} {d : Nat} {rec : Nat → RS → List Int → Option (RS × Int)} {σ' : RS} {r : Int} (hR : rf_Rec l v d rec) (B : rf_B v p s m args meth c cX12_readUse 6 (some .int)) : ∀ (n : Nat) (σ : RS) (x1 x2 x3 : Int), inR x1 → inR x2 → inR x3 → pf_readUse_6 rec n σ x1 x2 x3 = some (σ', r) → ∀ (H : Heap) (locs : List Loc) (ls : Array Slot), rf_W v s σ H locs → lv_has ls 6 [(0, .ref (rf_h v)), (1, .int (rI x1)), (2, .int (rI x2)), (3, .int (rI x3))] → W p l e (rf_rm (d + 1)) s m args below meth c H locs 0 0 (MQ below (rf_Q v σ' (some (.int (rI r)))) args s 0 0 (rf_F v)) (F0 m 6 ls []) := by
  obtain ⟨hx, hb, hr, hml, hown, hts, hlk, hK, hD⟩ := id B
  intro n
  induction n with
  | zero => intro σ x1 x2 x3 ix1 ix2 ix3 hf; cases hf
  | succ n ih =>
    intro σ x1 x2 x3 ix1 ix2 ix3 hf H locs ls hw hl
    unfold pf_readUse_6 at hf
    refine lv_aload_n hx hb dX12_readUse_6 rfl (lv_at hl 0 rfl) ?_
    obtain ⟨z1, ez1, iz1, hf⟩ := rf_gi_s hw hf
    refine rf_geti B hw 72 (by decide) rfl lk_150 ez1 dX12_readUse_7 ?_
    refine rn_if_ne (a := z1) (tgt := 42) hx hb iz1 dX12_readUse_10 (by decide) (fun c2 => ?_) (fun c2 => ?_)
    · replace hf := rf_if_t hf c2
      exact ps_readUse_42 hR B σ x1 x2 x3 ix1 ix2 ix3 hf _ _ _ hw (lv_sub hl [0, 1, 2, 3] rfl)
    · replace hf := rf_if_f hf c2
      refine lv_aload_n hx hb dX12_readUse_13 rfl (lv_at hl 0 rfl) ?_
      obtain ⟨σ3, z4, hσ3, hf⟩ := rf_cl_s hf
      obtain ⟨iz4, mσ3⟩ := hR 22 σ [] σ3 z4 hσ3
      have mσ3 : rf_Met l v yX12_beginsAtom cX12_beginsAtom 1 (some .boolean) d [.ref (rf_h v)] σ σ3 (some (.int (rI z4))) := mσ3
      refine rf_cv (n := 0) (rest := []) (As := []) B mσ3 g_272_beginsAtom (by decide +kernel) (by decide) rfl hl.1 (Nat.le_of_ble_eq_true rfl) dX12_readUse_14 rfl hw (fun H locs hw => ?_)
      refine rn_if_eq (a := z4) (tgt := 42) hx hb iz4 dX12_readUse_17 (by decide) (fun c5 => ?_) (fun c5 => ?_)
      · replace hf := rf_if_t hf c5
        exact ps_readUse_42 hR B σ3 x1 x2 x3 ix1 ix2 ix3 hf _ _ _ hw (lv_sub hl [0, 1, 2, 3] rfl)
      · replace hf := rf_if_f hf c5
        refine lv_aload_n hx hb dX12_readUse_20 rfl (lv_at hl 0 rfl) ?_
        refine lv_iload_n hx hb dX12_readUse_21 rfl (lv_at hl 1 rfl) ?_
        obtain ⟨σ6, z7, hσ6, hf⟩ := rf_cl_s hf
        obtain ⟨iz7, mσ6⟩ := hR 24 σ3 [x1] σ6 z7 hσ6
        have mσ6 : rf_Met l v yX12_readAtom cX12_readAtom 4 (some .int) d [.ref (rf_h v), .int (rI x1)] σ3 σ6 (some (.int (rI z7))) := mσ6 ix1
        refine rf_cv (n := 1) (rest := []) (As := [.int (rI x1)]) B mσ6 g_269_readAtom (by decide +kernel) (by decide) rfl hl.1 (Nat.le_of_ble_eq_true rfl) dX12_readUse_22 rfl hw (fun H locs hw => ?_)
        refine lv_istore (lv' := [(4, .int (rI z7)), (0, .ref (rf_h v)), (1, .int (rI x1)), (2, .int (rI x2)), (3, .int (rI x3))]) hx hb dX12_readUse_25 hl (by decide) rfl (fun ls hl => ?_)
        refine lv_aload_n hx hb dX12_readUse_27 rfl (lv_at hl 1 rfl) ?_
        refine lv_bipush (v := rI 7) hx hb dX12_readUse_28 (by decide +kernel) ?_
        refine lv_iconst (v := rI 0) hx hb dX12_readUse_30 rfl ?_
        refine lv_iload_n hx hb dX12_readUse_31 rfl (lv_at hl 4 rfl) ?_
        refine lv_iload hx hb dX12_readUse_32 (lv_at hl 0 rfl) ?_
        refine lv_iload_n hx hb dX12_readUse_34 rfl (lv_at hl 3 rfl) ?_
        obtain ⟨σ8, z9, hσ8, hf⟩ := rf_cl_s hf
        obtain ⟨iz9, mσ8⟩ := hR 18 σ6 [7, 0, x3, z7, x2] σ8 z9 hσ8
        have mσ8 : rf_Met l v yX12_node cX12_node 6 (some .int) d [.ref (rf_h v), .int (rI 7), .int (rI 0), .int (rI x3), .int (rI z7), .int (rI x2)] σ6 σ8 (some (.int (rI z9))) := mσ8 ⟨by decide, by decide⟩ ⟨by decide, by decide⟩ ix3 iz7 ix2
        refine rf_cv (n := 5) (rest := []) (As := [.int (rI 7), .int (rI 0), .int (rI x3), .int (rI z7), .int (rI x2)]) B mσ8 g_241_node (by decide +kernel) (by decide) rfl hl.1 (Nat.le_of_ble_eq_true rfl) dX12_readUse_35 rfl hw (fun H locs hw => ?_)
        refine lv_istore_n (lv' := [(3, .int (rI z9)), (4, .int (rI z7)), (0, .ref (rf_h v)), (1, .int (rI x1)), (2, .int (rI x2))]) hx hb dX12_readUse_38 rfl hl (by decide) rfl (fun ls hl => ?_)
        refine lv_goto (tgt := 6) hx hb dX12_readUse_39 (by decide) ?_
        exact ih σ8 x1 x2 z9 ix1 ix2 iz9 hf _ _ _ hw (lv_sub hl [2, 3, 4, 0] rfl)

set_option maxHeartbeats 4000000 in
set_option maxRecDepth 100000 in
theorem ps_readUse_0 {v : rfE} {p : Program} {l : Launch} {e : Env} {s : State} {m : MethodId} {args : Array Value} {below : List Frame} {meth : Method} {c : Code} {d : Nat} {rec : Nat → RS → List Int → Option (RS × Int)} {σ' : RS} {r : Int} (hR : rf_Rec l v d rec) (B : rf_B v p s m args meth c cX12_readUse 6 (some .int)) : ∀ (σ : RS) (x1 x2 : Int), inR x1 → inR x2 → pf_readUse_0 rec σ x1 x2 = some (σ', r) → ∀ (H : Heap) (locs : List Loc) (ls : Array Slot), rf_W v s σ H locs → lv_has ls 6 [(0, .ref (rf_h v)), (1, .int (rI x1)), (2, .int (rI x2))] → W p l e (rf_rm (d + 1)) s m args below meth c H locs 0 0 (MQ below (rf_Q v σ' (some (.int (rI r)))) args s 0 0 (rf_F v)) (F0 m 0 ls []) := by
  obtain ⟨hx, hb, hr, hml, hown, hts, hlk, hK, hD⟩ := id B
  intro σ x1 x2 ix1 ix2 hf H locs ls hw hl
  unfold pf_readUse_0 at hf
  refine lv_aload_n hx hb dX12_readUse_0 rfl (lv_at hl 0 rfl) ?_
  refine lv_iload_n hx hb dX12_readUse_1 rfl (lv_at hl 1 rfl) ?_
  obtain ⟨σ1, z2, hσ1, hf⟩ := rf_cl_s hf
  obtain ⟨iz2, mσ1⟩ := hR 24 σ [x1] σ1 z2 hσ1
  have mσ1 : rf_Met l v yX12_readAtom cX12_readAtom 4 (some .int) d [.ref (rf_h v), .int (rI x1)] σ σ1 (some (.int (rI z2))) := mσ1 ix1
  refine rf_cv (n := 1) (rest := []) (As := [.int (rI x1)]) B mσ1 g_269_readAtom (by decide +kernel) (by decide) rfl hl.1 (Nat.le_of_ble_eq_true rfl) dX12_readUse_2 rfl hw (fun H locs hw => ?_)
  refine lv_istore_n (lv' := [(3, .int (rI z2)), (0, .ref (rf_h v)), (1, .int (rI x1)), (2, .int (rI x2))]) hx hb dX12_readUse_5 rfl hl (by decide) rfl (fun ls hl => ?_)
  exact ps_readUse_6 hR B 200000 σ1 x1 x2 z2 ix1 ix2 iz2 hf _ _ _ hw (lv_sub hl [1, 2, 3, 0] rfl)

set_option maxHeartbeats 4000000 in
set_option maxRecDepth 100000 in
theorem pm_readUse {v : rfE} (hD : rf_D v) {l : Launch} {d : Nat} {rec : Nat → RS → List Int → Option (RS × Int)} (hR : rf_Rec l v d rec) (σ σ' : RS) (x1 x2 r : Int) (ix1 : inR x1) (ix2 : inR x2) (hf : pf_readUse_0 rec σ x1 x2 = some (σ', r)) : rf_Met l v yX12_readUse cX12_readUse 6 (some .int) (d + 1) [.ref (rf_h v), .int (rI x1), .int (rI x2)] σ σ' (some (.int (rI r))) := by
  refine Met.ofW (cc := cX12_readUse) (maxL := 6) (ret := (some .int)) (by decide +kernel) rfl ?_
  intro p e s m args below meth c s₁ B hml hv
  obtain ⟨rfl, hM, hK⟩ := hv
  have hts := atoms_spec (ws := Cond.code yX12_readUse cX12_readUse 6 (some .int) :: rf_bw) B.pre
  have hB : rf_B v p s m _ meth c cX12_readUse 6 (some .int) := ⟨B.exec, B.bytes, B.returns, hml, findClass_of_methodNamed B.named, fun w h => hts w (List.mem_cons_of_mem _ h), B.notSynchronized, hK, hD⟩
  have hl := lv_entry ([.ref (rf_h v), .int (rI x1), .int (rI x2)]) (n := 6) (Nat.le_of_ble_eq_true rfl)
  rw [lg_entry_eq]
  generalize (lg_sl ([.ref (rf_h v), .int (rI x1), .int (rI x2)]) ++ List.replicate (6 - (lg_sl ([.ref (rf_h v), .int (rI x1), .int (rI x2)])).length) Slot.unset).toArray = ls at hl ⊢
  exact ps_readUse_0 hR hB σ x1 x2 ix1 ix2 hf _ _ _ ⟨hM, rfl, fun _ _ => rfl, fun q h => by cases h⟩ (lv_sub hl [0, 1, 2] rfl)

set_option maxHeartbeats 4000000 in
set_option maxRecDepth 100000 in
theorem ps_readAtom_0 {v : rfE} {p : Program} {l : Launch} {e : Env} {s : State} {m : MethodId} {args : Array Value} {below : List Frame} {meth : Method} {c : Code} {d : Nat} {rec : Nat → RS → List Int → Option (RS × Int)} {σ' : RS} {r : Int} (hR : rf_Rec l v d rec) (B : rf_B v p s m args meth c cX12_readAtom 4 (some .int)) : ∀ (σ : RS) (x1 : Int), inR x1 → pf_readAtom_0 rec σ x1 = some (σ', r) → ∀ (H : Heap) (locs : List Loc) (ls : Array Slot), rf_W v s σ H locs → lv_has ls 4 [(0, .ref (rf_h v)), (1, .int (rI x1))] → W p l e (rf_rm (d + 1)) s m args below meth c H locs 0 0 (MQ below (rf_Q v σ' (some (.int (rI r)))) args s 0 0 (rf_F v)) (F0 m 0 ls []) := by
  obtain ⟨hx, hb, hr, hml, hown, hts, hlk, hK, hD⟩ := id B
  intro σ x1 ix1 hf H locs ls hw hl
  unfold pf_readAtom_0 at hf
  refine lv_aload_n hx hb dX12_readAtom_0 rfl (lv_at hl 0 rfl) ?_
  refine lv_bipush (v := rI 40) hx hb dX12_readAtom_1 (by decide +kernel) ?_
  obtain ⟨σ1, z2, hσ1, hf⟩ := rf_cl_s hf
  obtain ⟨iz2, mσ1⟩ := hR 13 σ [40] σ1 z2 hσ1
  have mσ1 : rf_Met l v yX12_isSign cX12_isSign 2 (some .boolean) d [.ref (rf_h v), .int (rI 40)] σ σ1 (some (.int (rI z2))) := mσ1 ⟨by decide, by decide⟩
  refine rf_cv (n := 1) (rest := []) (As := [.int (rI 40)]) B mσ1 g_228_isSign (by decide +kernel) (by decide) rfl hl.1 (Nat.le_of_ble_eq_true rfl) dX12_readAtom_3 rfl hw (fun H locs hw => ?_)
  refine rn_if_ne (a := z2) (tgt := 14) hx hb iz2 dX12_readAtom_6 (by decide) (fun c3 => ?_) (fun c3 => ?_)
  · replace hf := rf_if_t hf c3
    refine lv_aload_n hx hb dX12_readAtom_14 rfl (lv_at hl 0 rfl) ?_
    obtain ⟨z4, ez4, iz4, hf⟩ := rf_gi_s hw hf
    refine rf_geti B hw 9 (by decide) rfl lk_200 ez4 dX12_readAtom_15 ?_
    refine lv_istore_n (lv' := [(2, .int (rI z4)), (0, .ref (rf_h v)), (1, .int (rI x1))]) hx hb dX12_readAtom_18 rfl hl (by decide) rfl (fun ls hl => ?_)
    refine lv_aload_n hx hb dX12_readAtom_19 rfl (lv_at hl 1 rfl) ?_
    obtain ⟨σ5, z6, hσ5, hf⟩ := rf_cl_s hf
    obtain ⟨iz6, mσ5⟩ := hR 10 σ1 [] σ5 z6 hσ5
    have mσ5 : rf_Met l v yX12_next cX12_next 4 none d [.ref (rf_h v)] σ1 σ5 none := mσ5
    refine rf_cv (n := 0) (rest := []) (As := []) B mσ5 g_231_next (by decide +kernel) (by decide) rfl hl.1 (Nat.le_of_ble_eq_true rfl) dX12_readAtom_20 rfl hw (fun H locs hw => ?_)
    refine lv_aload_n hx hb dX12_readAtom_23 rfl (lv_at hl 1 rfl) ?_
    refine lv_iload_n hx hb dX12_readAtom_24 rfl (lv_at hl 2 rfl) ?_
    refine lv_iconst (v := rI 1) hx hb dX12_readAtom_25 rfl ?_
    obtain ⟨z7, ez7, iz7, hf⟩ := rf_ck_s hf
    refine rn_add hx hb ez7 dX12_readAtom_26 ?_
    obtain ⟨σ8, z9, hσ8, hf⟩ := rf_cl_s hf
    obtain ⟨iz9, mσ8⟩ := hR 20 σ5 [z7] σ8 z9 hσ8
    have mσ8 : rf_Met l v yX12_readTerm cX12_readTerm 7 (some .int) d [.ref (rf_h v), .int (rI z7)] σ5 σ8 (some (.int (rI z9))) := mσ8 iz7
    refine rf_cv (n := 1) (rest := []) (As := [.int (rI z7)]) B mσ8 g_255_readTerm (by decide +kernel) (by decide) rfl hl.1 (Nat.le_of_ble_eq_true rfl) dX12_readAtom_27 rfl hw (fun H locs hw => ?_)
    refine lv_istore_n (lv' := [(3, .int (rI z9)), (2, .int (rI z4)), (0, .ref (rf_h v)), (1, .int (rI x1))]) hx hb dX12_readAtom_30 rfl hl (by decide) rfl (fun ls hl => ?_)
    refine lv_aload_n hx hb dX12_readAtom_31 rfl (lv_at hl 2 rfl) ?_
    refine lv_bipush (v := rI 41) hx hb dX12_readAtom_32 (by decide +kernel) ?_
    obtain ⟨σ10, z11, hσ10, hf⟩ := rf_cl_s hf
    obtain ⟨iz11, mσ10⟩ := hR 16 σ8 [41] σ10 z11 hσ10
    have mσ10 : rf_Met l v yX12_need cX12_need 2 none d [.ref (rf_h v), .int (rI 41)] σ8 σ10 none := mσ10 ⟨by decide, by decide⟩
    refine rf_cv (n := 1) (rest := []) (As := [.int (rI 41)]) B mσ10 g_252_need (by decide +kernel) (by decide) rfl hl.1 (Nat.le_of_ble_eq_true rfl) dX12_readAtom_34 rfl hw (fun H locs hw => ?_)
    refine lv_aload_n hx hb dX12_readAtom_37 rfl (lv_at hl 2 rfl) ?_
    obtain ⟨z12, ez12, iz12, hf⟩ := rf_gi_s hw hf
    refine rf_geti B hw 15 (by decide) rfl lk_237 ez12 dX12_readAtom_38 ?_
    refine rn_if_eq (a := z12) (tgt := 51) hx hb iz12 dX12_readAtom_41 (by decide) (fun c13 => ?_) (fun c13 => ?_)
    · replace hf := rf_if_t hf c13
      refine lv_iload_n hx hb dX12_readAtom_51 rfl (lv_at hl 0 rfl) ?_
      exact rf_reti B hf hw dX12_readAtom_52
    · replace hf := rf_if_f hf c13
      refine lv_aload_n hx hb dX12_readAtom_44 rfl (lv_at hl 2 rfl) ?_
      refine rf_get (val := .ref (rf_ad v 34)) B hw 34 (by decide) lk_88 rfl dX12_readAtom_45 ?_
      refine lv_iload_n hx hb dX12_readAtom_48 rfl (lv_at hl 0 rfl) ?_
      refine lv_iload_n hx hb dX12_readAtom_49 rfl (lv_at hl 1 rfl) ?_
      obtain ⟨σ14, eσ14, rσ14, hf⟩ := rf_wr_s hf
      refine rf_ast B hw iz9 iz4 rσ14 eσ14 dX12_readAtom_50 (fun H locs hw => ?_)
      refine lv_iload_n hx hb dX12_readAtom_51 rfl (lv_at hl 0 rfl) ?_
      exact rf_reti B hf hw dX12_readAtom_52
  · replace hf := rf_if_f hf c3
    refine lv_aload_n hx hb dX12_readAtom_9 rfl (lv_at hl 0 rfl) ?_
    obtain ⟨σ15, z16, hσ15, hf⟩ := rf_cl_s hf
    obtain ⟨iz16, mσ15⟩ := hR 19 σ1 [] σ15 z16 hσ15
    have mσ15 : rf_Met l v yX12_nameNode cX12_nameNode 2 (some .int) d [.ref (rf_h v)] σ1 σ15 (some (.int (rI z16))) := mσ15
    refine rf_cv (n := 0) (rest := []) (As := []) B mσ15 g_249_nameNode (by decide +kernel) (by decide) rfl hl.1 (Nat.le_of_ble_eq_true rfl) dX12_readAtom_10 rfl hw (fun H locs hw => ?_)
    exact rf_reti B hf hw dX12_readAtom_13

set_option maxHeartbeats 4000000 in
set_option maxRecDepth 100000 in
theorem pm_readAtom {v : rfE} (hD : rf_D v) {l : Launch} {d : Nat} {rec : Nat → RS → List Int → Option (RS × Int)} (hR : rf_Rec l v d rec) (σ σ' : RS) (x1 r : Int) (ix1 : inR x1) (hf : pf_readAtom_0 rec σ x1 = some (σ', r)) : rf_Met l v yX12_readAtom cX12_readAtom 4 (some .int) (d + 1) [.ref (rf_h v), .int (rI x1)] σ σ' (some (.int (rI r))) := by
  refine Met.ofW (cc := cX12_readAtom) (maxL := 4) (ret := (some .int)) (by decide +kernel) rfl ?_
  intro p e s m args below meth c s₁ B hml hv
  obtain ⟨rfl, hM, hK⟩ := hv
  have hts := atoms_spec (ws := Cond.code yX12_readAtom cX12_readAtom 4 (some .int) :: rf_bw) B.pre
  have hB : rf_B v p s m _ meth c cX12_readAtom 4 (some .int) := ⟨B.exec, B.bytes, B.returns, hml, findClass_of_methodNamed B.named, fun w h => hts w (List.mem_cons_of_mem _ h), B.notSynchronized, hK, hD⟩
  have hl := lv_entry ([.ref (rf_h v), .int (rI x1)]) (n := 4) (Nat.le_of_ble_eq_true rfl)
  rw [lg_entry_eq]
  generalize (lg_sl ([.ref (rf_h v), .int (rI x1)]) ++ List.replicate (4 - (lg_sl ([.ref (rf_h v), .int (rI x1)])).length) Slot.unset).toArray = ls at hl ⊢
  exact ps_readAtom_0 hR hB σ x1 ix1 hf _ _ _ ⟨hM, rfl, fun _ _ => rfl, fun q h => by cases h⟩ (lv_sub hl [0, 1] rfl)

set_option maxHeartbeats 4000000 in
set_option maxRecDepth 100000 in
theorem ps_readStatement_159 {v : rfE} {p : Program} {l : Launch} {e : Env} {s : State} {m : MethodId} {args : Array Value} {below : List Frame} {meth : Method} {c : Code} {d : Nat} {rec : Nat → RS → List Int → Option (RS × Int)} {σ' : RS} {r : Int} (hR : rf_Rec l v d rec) (B : rf_B v p s m args meth c cX12_readStatement 1 none) : ∀ (σ : RS), pf_readStatement_159 rec σ = some (σ', r) → ∀ (H : Heap) (locs : List Loc) (ls : Array Slot), rf_W v s σ H locs → lv_has ls 1 [(0, .ref (rf_h v))] → W p l e (rf_rm (d + 1)) s m args below meth c H locs 0 0 (MQ below (rf_Q v σ' none) args s 0 0 (rf_F v)) (F0 m 159 ls []) := by
  obtain ⟨hx, hb, hr, hml, hown, hts, hlk, hK, hD⟩ := id B
  intro σ hf H locs ls hw hl
  unfold pf_readStatement_159 at hf
  refine lv_aload_n hx hb dX12_readStatement_159 rfl (lv_at hl 0 rfl) ?_
  obtain ⟨z1, ez1, iz1, hf⟩ := rf_gi_s hw hf
  refine rf_geti B hw 72 (by decide) rfl lk_150 ez1 dX12_readStatement_160 ?_
  refine rn_if_ne (a := z1) (tgt := 256) hx hb iz1 dX12_readStatement_163 (by decide) (fun c2 => ?_) (fun c2 => ?_)
  · replace hf := rf_if_t hf c2
    exact rf_retv B hf hw dX12_readStatement_256
  · replace hf := rf_if_f hf c2
    refine lv_aload_n hx hb dX12_readStatement_166 rfl (lv_at hl 0 rfl) ?_
    refine lv_aload_n hx hb dX12_readStatement_167 rfl (lv_at hl 0 rfl) ?_
    obtain ⟨σ3, z4, hσ3, hf⟩ := rf_cl_s hf
    obtain ⟨iz4, mσ3⟩ := hR 19 σ [] σ3 z4 hσ3
    have mσ3 : rf_Met l v yX12_nameNode cX12_nameNode 2 (some .int) d [.ref (rf_h v)] σ σ3 (some (.int (rI z4))) := mσ3
    refine rf_cv (n := 0) (rest := [.ref (rf_h v)]) (As := []) B mσ3 g_249_nameNode (by decide +kernel) (by decide) rfl hl.1 (Nat.le_of_ble_eq_true rfl) dX12_readStatement_168 rfl hw (fun H locs hw => ?_)
    obtain ⟨σ5, eσ5, hf⟩ := rf_pi_s hf
    refine rf_put B hw 82 (by decide) rfl rfl lk_296 iz4 eσ5 rfl rfl dX12_readStatement_171 (fun H locs hw => ?_)
    refine lv_goto (tgt := 256) hx hb dX12_readStatement_174 (by decide) ?_
    exact rf_retv B hf hw dX12_readStatement_256

set_option maxHeartbeats 4000000 in
set_option maxRecDepth 100000 in
theorem ps_readStatement_226 {v : rfE} {p : Program} {l : Launch} {e : Env} {s : State} {m : MethodId} {args : Array Value} {below : List Frame} {meth : Method} {c : Code} {d : Nat} {rec : Nat → RS → List Int → Option (RS × Int)} {σ' : RS} {r : Int} (hR : rf_Rec l v d rec) (B : rf_B v p s m args meth c cX12_readStatement 1 none) : ∀ (σ : RS), pf_readStatement_226 rec σ = some (σ', r) → ∀ (H : Heap) (locs : List Loc) (ls : Array Slot), rf_W v s σ H locs → lv_has ls 1 [(0, .ref (rf_h v))] → W p l e (rf_rm (d + 1)) s m args below meth c H locs 0 0 (MQ below (rf_Q v σ' none) args s 0 0 (rf_F v)) (F0 m 226 ls []) := by
  obtain ⟨hx, hb, hr, hml, hown, hts, hlk, hK, hD⟩ := id B
  intro σ hf H locs ls hw hl
  unfold pf_readStatement_226 at hf
  refine lv_aload_n hx hb dX12_readStatement_226 rfl (lv_at hl 0 rfl) ?_
  obtain ⟨z1, ez1, iz1, hf⟩ := rf_gi_s hw hf
  refine rf_geti B hw 72 (by decide) rfl lk_150 ez1 dX12_readStatement_227 ?_
  refine rn_if_ne (a := z1) (tgt := 256) hx hb iz1 dX12_readStatement_230 (by decide) (fun c2 => ?_) (fun c2 => ?_)
  · replace hf := rf_if_t hf c2
    exact rf_retv B hf hw dX12_readStatement_256
  · replace hf := rf_if_f hf c2
    refine lv_aload_n hx hb dX12_readStatement_233 rfl (lv_at hl 0 rfl) ?_
    obtain ⟨z3, ez3, iz3, hf⟩ := rf_gi_s hw hf
    refine rf_geti B hw 76 (by decide) rfl lk_278 ez3 dX12_readStatement_234 ?_
    refine lv_iconst (v := rI 5) hx hb dX12_readStatement_237 rfl ?_
    refine rn_icmp_ne (a := z3) (b := 5) (tgt := 256) hx hb iz3 ⟨by decide, by decide⟩ dX12_readStatement_238 (by decide) (fun c4 => ?_) (fun c4 => ?_)
    · replace hf := rf_if_t hf c4
      exact rf_retv B hf hw dX12_readStatement_256
    · replace hf := rf_if_f hf c4
      refine lv_aload_n hx hb dX12_readStatement_241 rfl (lv_at hl 0 rfl) ?_
      refine lv_bipush (v := rI 61) hx hb dX12_readStatement_242 (by decide +kernel) ?_
      obtain ⟨σ5, z6, hσ5, hf⟩ := rf_cl_s hf
      obtain ⟨iz6, mσ5⟩ := hR 16 σ [61] σ5 z6 hσ5
      have mσ5 : rf_Met l v yX12_need cX12_need 2 none d [.ref (rf_h v), .int (rI 61)] σ σ5 none := mσ5 ⟨by decide, by decide⟩
      refine rf_cv (n := 1) (rest := []) (As := [.int (rI 61)]) B mσ5 g_252_need (by decide +kernel) (by decide) rfl hl.1 (Nat.le_of_ble_eq_true rfl) dX12_readStatement_244 rfl hw (fun H locs hw => ?_)
      refine lv_aload_n hx hb dX12_readStatement_247 rfl (lv_at hl 0 rfl) ?_
      refine lv_aload_n hx hb dX12_readStatement_248 rfl (lv_at hl 0 rfl) ?_
      refine lv_iconst (v := rI 0) hx hb dX12_readStatement_249 rfl ?_
      obtain ⟨σ7, z8, hσ7, hf⟩ := rf_cl_s hf
      obtain ⟨iz8, mσ7⟩ := hR 20 σ5 [0] σ7 z8 hσ7
      have mσ7 : rf_Met l v yX12_readTerm cX12_readTerm 7 (some .int) d [.ref (rf_h v), .int (rI 0)] σ5 σ7 (some (.int (rI z8))) := mσ7 ⟨by decide, by decide⟩
      refine rf_cv (n := 1) (rest := [.ref (rf_h v)]) (As := [.int (rI 0)]) B mσ7 g_255_readTerm (by decide +kernel) (by decide) rfl hl.1 (Nat.le_of_ble_eq_true rfl) dX12_readStatement_250 rfl hw (fun H locs hw => ?_)
      obtain ⟨σ9, eσ9, hf⟩ := rf_pi_s hf
      refine rf_put B hw 79 (by decide) rfl rfl lk_284 iz8 eσ9 rfl rfl dX12_readStatement_253 (fun H locs hw => ?_)
      exact rf_retv B hf hw dX12_readStatement_256

set_option maxHeartbeats 4000000 in
set_option maxRecDepth 100000 in
theorem ps_readStatement_25 {v : rfE} {p : Program} {l : Launch} {e : Env} {s : State} {m : MethodId} {args : Array Value} {below : List Frame} {meth : Method} {c : Code} {d : Nat} {rec : Nat → RS → List Int → Option (RS × Int)} {σ' : RS} {r : Int} (hR : rf_Rec l v d rec) (B : rf_B v p s m args meth c cX12_readStatement 1 none) : ∀ (σ : RS) (t0 : Int), inR t0 → pf_readStatement_25 rec σ t0 = some (σ', r) → ∀ (H : Heap) (locs : List Loc) (ls : Array Slot), rf_W v s σ H locs → lv_has ls 1 [(0, .ref (rf_h v))] → W p l e (rf_rm (d + 1)) s m args below meth c H locs 0 0 (MQ below (rf_Q v σ' none) args s 0 0 (rf_F v)) (F0 m 25 ls [.int (rI t0), .ref (rf_h v)]) := by
  obtain ⟨hx, hb, hr, hml, hown, hts, hlk, hK, hD⟩ := id B
  intro σ t0 it0 hf H locs ls hw hl
  unfold pf_readStatement_25 at hf
  obtain ⟨σ1, eσ1, hf⟩ := rf_pi_s hf
  refine rf_put B hw 76 (by decide) rfl rfl lk_278 it0 eσ1 rfl rfl dX12_readStatement_25 (fun H locs hw => ?_)
  refine lv_aload_n hx hb dX12_readStatement_28 rfl (lv_at hl 0 rfl) ?_
  refine lv_iconst (v := rI (-1)) hx hb dX12_readStatement_29 rfl ?_
  obtain ⟨σ2, eσ2, hf⟩ := rf_pi_s hf
  refine rf_put B hw 78 (by decide) rfl rfl lk_281 ⟨by decide, by decide⟩ eσ2 rfl rfl dX12_readStatement_30 (fun H locs hw => ?_)
  refine lv_aload_n hx hb dX12_readStatement_33 rfl (lv_at hl 0 rfl) ?_
  refine lv_iconst (v := rI (-1)) hx hb dX12_readStatement_34 rfl ?_
  obtain ⟨σ3, eσ3, hf⟩ := rf_pi_s hf
  refine rf_put B hw 79 (by decide) rfl rfl lk_284 ⟨by decide, by decide⟩ eσ3 rfl rfl dX12_readStatement_35 (fun H locs hw => ?_)
  refine lv_aload_n hx hb dX12_readStatement_38 rfl (lv_at hl 0 rfl) ?_
  obtain ⟨z4, ez4, iz4, hf⟩ := rf_gi_s hw hf
  refine rf_geti B hw 76 (by decide) rfl lk_278 ez4 dX12_readStatement_39 ?_
  refine lv_iconst (v := rI (-1)) hx hb dX12_readStatement_42 rfl ?_
  refine rn_icmp_ne (a := z4) (b := (-1)) (tgt := 51) hx hb iz4 ⟨by decide, by decide⟩ dX12_readStatement_43 (by decide) (fun c5 => ?_) (fun c5 => ?_)
  · replace hf := rf_if_t hf c5
    refine lv_aload_n hx hb dX12_readStatement_51 rfl (lv_at hl 0 rfl) ?_
    obtain ⟨z6, ez6, iz6, hf⟩ := rf_gi_s hw hf
    refine rf_geti B hw 76 (by decide) rfl lk_278 ez6 dX12_readStatement_52 ?_
    refine lv_bipush (v := rI 6) hx hb dX12_readStatement_55 (by decide +kernel) ?_
    refine rn_icmp_le (a := z6) (b := 6) (tgt := 65) hx hb iz6 ⟨by decide, by decide⟩ dX12_readStatement_57 (by decide) (fun c7 => ?_) (fun c7 => ?_)
    · replace hf := rf_if_t hf c7
      refine lv_aload_n hx hb dX12_readStatement_65 rfl (lv_at hl 0 rfl) ?_
      obtain ⟨σ8, z9, hσ8, hf⟩ := rf_cl_s hf
      obtain ⟨iz9, mσ8⟩ := hR 10 σ3 [] σ8 z9 hσ8
      have mσ8 : rf_Met l v yX12_next cX12_next 4 none d [.ref (rf_h v)] σ3 σ8 none := mσ8
      refine rf_cv (n := 0) (rest := []) (As := []) B mσ8 g_231_next (by decide +kernel) (by decide) rfl hl.1 (Nat.le_of_ble_eq_true rfl) dX12_readStatement_66 rfl hw (fun H locs hw => ?_)
      refine lv_aload_n hx hb dX12_readStatement_69 rfl (lv_at hl 0 rfl) ?_
      obtain ⟨z10, ez10, iz10, hf⟩ := rf_gi_s hw hf
      refine rf_geti B hw 76 (by decide) rfl lk_278 ez10 dX12_readStatement_70 ?_
      by_cases c11 : z10 = 0
      · replace hf := rf_if_t hf c11
        refine rn_tab (n := 0) (tgt := 100) hx hb iz10 c11 dX12_readStatement_73 (by decide) (by decide) rfl (by decide) ?_
        refine lv_aload_n hx hb dX12_readStatement_100 rfl (lv_at hl 0 rfl) ?_
        refine lv_aload_n hx hb dX12_readStatement_101 rfl (lv_at hl 0 rfl) ?_
        obtain ⟨σ12, z13, hσ12, hf⟩ := rf_cl_s hf
        obtain ⟨iz13, mσ12⟩ := hR 19 σ8 [] σ12 z13 hσ12
        have mσ12 : rf_Met l v yX12_nameNode cX12_nameNode 2 (some .int) d [.ref (rf_h v)] σ8 σ12 (some (.int (rI z13))) := mσ12
        refine rf_cv (n := 0) (rest := [.ref (rf_h v)]) (As := []) B mσ12 g_249_nameNode (by decide +kernel) (by decide) rfl hl.1 (Nat.le_of_ble_eq_true rfl) dX12_readStatement_102 rfl hw (fun H locs hw => ?_)
        obtain ⟨σ14, eσ14, hf⟩ := rf_pi_s hf
        refine rf_put B hw 80 (by decide) rfl rfl lk_290 iz13 eσ14 rfl rfl dX12_readStatement_105 (fun H locs hw => ?_)
        refine lv_goto (tgt := 256) hx hb dX12_readStatement_108 (by decide) ?_
        exact rf_retv B hf hw dX12_readStatement_256
      · replace hf := rf_if_f hf c11
        by_cases c15 : z10 = 1
        · replace hf := rf_if_t hf c15
          refine rn_tab (n := 1) (tgt := 111) hx hb iz10 c15 dX12_readStatement_73 (by decide) (by decide) rfl (by decide) ?_
          refine lv_aload_n hx hb dX12_readStatement_111 rfl (lv_at hl 0 rfl) ?_
          refine lv_aload_n hx hb dX12_readStatement_112 rfl (lv_at hl 0 rfl) ?_
          obtain ⟨σ16, z17, hσ16, hf⟩ := rf_cl_s hf
          obtain ⟨iz17, mσ16⟩ := hR 19 σ8 [] σ16 z17 hσ16
          have mσ16 : rf_Met l v yX12_nameNode cX12_nameNode 2 (some .int) d [.ref (rf_h v)] σ8 σ16 (some (.int (rI z17))) := mσ16
          refine rf_cv (n := 0) (rest := [.ref (rf_h v)]) (As := []) B mσ16 g_249_nameNode (by decide +kernel) (by decide) rfl hl.1 (Nat.le_of_ble_eq_true rfl) dX12_readStatement_113 rfl hw (fun H locs hw => ?_)
          obtain ⟨σ18, eσ18, hf⟩ := rf_pi_s hf
          refine rf_put B hw 80 (by decide) rfl rfl lk_290 iz17 eσ18 rfl rfl dX12_readStatement_116 (fun H locs hw => ?_)
          refine lv_aload_n hx hb dX12_readStatement_119 rfl (lv_at hl 0 rfl) ?_
          refine lv_bipush (v := rI 58) hx hb dX12_readStatement_120 (by decide +kernel) ?_
          obtain ⟨σ19, z20, hσ19, hf⟩ := rf_cl_s hf
          obtain ⟨iz20, mσ19⟩ := hR 16 σ18 [58] σ19 z20 hσ19
          have mσ19 : rf_Met l v yX12_need cX12_need 2 none d [.ref (rf_h v), .int (rI 58)] σ18 σ19 none := mσ19 ⟨by decide, by decide⟩
          refine rf_cv (n := 1) (rest := []) (As := [.int (rI 58)]) B mσ19 g_252_need (by decide +kernel) (by decide) rfl hl.1 (Nat.le_of_ble_eq_true rfl) dX12_readStatement_122 rfl hw (fun H locs hw => ?_)
          refine lv_aload_n hx hb dX12_readStatement_125 rfl (lv_at hl 0 rfl) ?_
          refine lv_aload_n hx hb dX12_readStatement_126 rfl (lv_at hl 0 rfl) ?_
          obtain ⟨σ21, z22, hσ21, hf⟩ := rf_cl_s hf
          obtain ⟨iz22, mσ21⟩ := hR 19 σ19 [] σ21 z22 hσ21
          have mσ21 : rf_Met l v yX12_nameNode cX12_nameNode 2 (some .int) d [.ref (rf_h v)] σ19 σ21 (some (.int (rI z22))) := mσ21
          refine rf_cv (n := 0) (rest := [.ref (rf_h v)]) (As := []) B mσ21 g_249_nameNode (by decide +kernel) (by decide) rfl hl.1 (Nat.le_of_ble_eq_true rfl) dX12_readStatement_127 rfl hw (fun H locs hw => ?_)
          obtain ⟨σ23, eσ23, hf⟩ := rf_pi_s hf
          refine rf_put B hw 81 (by decide) rfl rfl lk_293 iz22 eσ23 rfl rfl dX12_readStatement_130 (fun H locs hw => ?_)
          refine lv_goto (tgt := 256) hx hb dX12_readStatement_133 (by decide) ?_
          exact rf_retv B hf hw dX12_readStatement_256
        · replace hf := rf_if_f hf c15
          by_cases c24 : z10 = 2
          · replace hf := rf_if_t hf c24
            refine rn_tab (n := 2) (tgt := 136) hx hb iz10 c24 dX12_readStatement_73 (by decide) (by decide) rfl (by decide) ?_
            refine lv_aload_n hx hb dX12_readStatement_136 rfl (lv_at hl 0 rfl) ?_
            refine lv_aload_n hx hb dX12_readStatement_137 rfl (lv_at hl 0 rfl) ?_
            obtain ⟨σ25, z26, hσ25, hf⟩ := rf_cl_s hf
            obtain ⟨iz26, mσ25⟩ := hR 19 σ8 [] σ25 z26 hσ25
            have mσ25 : rf_Met l v yX12_nameNode cX12_nameNode 2 (some .int) d [.ref (rf_h v)] σ8 σ25 (some (.int (rI z26))) := mσ25
            refine rf_cv (n := 0) (rest := [.ref (rf_h v)]) (As := []) B mσ25 g_249_nameNode (by decide +kernel) (by decide) rfl hl.1 (Nat.le_of_ble_eq_true rfl) dX12_readStatement_138 rfl hw (fun H locs hw => ?_)
            obtain ⟨σ27, eσ27, hf⟩ := rf_pi_s hf
            refine rf_put B hw 80 (by decide) rfl rfl lk_290 iz26 eσ27 rfl rfl dX12_readStatement_141 (fun H locs hw => ?_)
            refine lv_aload_n hx hb dX12_readStatement_144 rfl (lv_at hl 0 rfl) ?_
            obtain ⟨z28, ez28, iz28, hf⟩ := rf_gi_s hw hf
            refine rf_geti B hw 72 (by decide) rfl lk_150 ez28 dX12_readStatement_145 ?_
            refine rn_if_ne (a := z28) (tgt := 159) hx hb iz28 dX12_readStatement_148 (by decide) (fun c29 => ?_) (fun c29 => ?_)
            · replace hf := rf_if_t hf c29
              exact ps_readStatement_159 hR B σ27 hf _ _ _ hw (lv_sub hl [0] rfl)
            · replace hf := rf_if_f hf c29
              refine lv_aload_n hx hb dX12_readStatement_151 rfl (lv_at hl 0 rfl) ?_
              refine lv_aload_n hx hb dX12_readStatement_152 rfl (lv_at hl 0 rfl) ?_
              obtain ⟨σ30, z31, hσ30, hf⟩ := rf_cl_s hf
              obtain ⟨iz31, mσ30⟩ := hR 19 σ27 [] σ30 z31 hσ30
              have mσ30 : rf_Met l v yX12_nameNode cX12_nameNode 2 (some .int) d [.ref (rf_h v)] σ27 σ30 (some (.int (rI z31))) := mσ30
              refine rf_cv (n := 0) (rest := [.ref (rf_h v)]) (As := []) B mσ30 g_249_nameNode (by decide +kernel) (by decide) rfl hl.1 (Nat.le_of_ble_eq_true rfl) dX12_readStatement_153 rfl hw (fun H locs hw => ?_)
              obtain ⟨σ32, eσ32, hf⟩ := rf_pi_s hf
              refine rf_put B hw 81 (by decide) rfl rfl lk_293 iz31 eσ32 rfl rfl dX12_readStatement_156 (fun H locs hw => ?_)
              exact ps_readStatement_159 hR B σ32 hf _ _ _ hw (lv_sub hl [0] rfl)
          · replace hf := rf_if_f hf c24
            refine rn_tabO (tgt := 177) hx hb iz10 dX12_readStatement_73 (by omega) (by decide) ?_
            refine lv_aload_n hx hb dX12_readStatement_177 rfl (lv_at hl 0 rfl) ?_
            refine lv_aload_n hx hb dX12_readStatement_178 rfl (lv_at hl 0 rfl) ?_
            refine lv_iconst (v := rI 0) hx hb dX12_readStatement_179 rfl ?_
            obtain ⟨σ33, z34, hσ33, hf⟩ := rf_cl_s hf
            obtain ⟨iz34, mσ33⟩ := hR 20 σ8 [0] σ33 z34 hσ33
            have mσ33 : rf_Met l v yX12_readTerm cX12_readTerm 7 (some .int) d [.ref (rf_h v), .int (rI 0)] σ8 σ33 (some (.int (rI z34))) := mσ33 ⟨by decide, by decide⟩
            refine rf_cv (n := 1) (rest := [.ref (rf_h v)]) (As := [.int (rI 0)]) B mσ33 g_255_readTerm (by decide +kernel) (by decide) rfl hl.1 (Nat.le_of_ble_eq_true rfl) dX12_readStatement_180 rfl hw (fun H locs hw => ?_)
            obtain ⟨σ35, eσ35, hf⟩ := rf_pi_s hf
            refine rf_put B hw 78 (by decide) rfl rfl lk_281 iz34 eσ35 rfl rfl dX12_readStatement_183 (fun H locs hw => ?_)
            refine lv_aload_n hx hb dX12_readStatement_186 rfl (lv_at hl 0 rfl) ?_
            obtain ⟨z36, ez36, iz36, hf⟩ := rf_gi_s hw hf
            refine rf_geti B hw 72 (by decide) rfl lk_150 ez36 dX12_readStatement_187 ?_
            refine rn_if_ne (a := z36) (tgt := 226) hx hb iz36 dX12_readStatement_190 (by decide) (fun c37 => ?_) (fun c37 => ?_)
            · replace hf := rf_if_t hf c37
              exact ps_readStatement_226 hR B σ35 hf _ _ _ hw (lv_sub hl [0] rfl)
            · replace hf := rf_if_f hf c37
              refine lv_aload_n hx hb dX12_readStatement_193 rfl (lv_at hl 0 rfl) ?_
              obtain ⟨z38, ez38, iz38, hf⟩ := rf_gi_s hw hf
              refine rf_geti B hw 76 (by decide) rfl lk_278 ez38 dX12_readStatement_194 ?_
              refine lv_iconst (v := rI 3) hx hb dX12_readStatement_197 rfl ?_
              refine rn_icmp_ne (a := z38) (b := 3) (tgt := 226) hx hb iz38 ⟨by decide, by decide⟩ dX12_readStatement_198 (by decide) (fun c39 => ?_) (fun c39 => ?_)
              · replace hf := rf_if_t hf c39
                exact ps_readStatement_226 hR B σ35 hf _ _ _ hw (lv_sub hl [0] rfl)
              · replace hf := rf_if_f hf c39
                refine lv_aload_n hx hb dX12_readStatement_201 rfl (lv_at hl 0 rfl) ?_
                refine lv_bipush (v := rI 58) hx hb dX12_readStatement_202 (by decide +kernel) ?_
                obtain ⟨σ40, z41, hσ40, hf⟩ := rf_cl_s hf
                obtain ⟨iz41, mσ40⟩ := hR 13 σ35 [58] σ40 z41 hσ40
                have mσ40 : rf_Met l v yX12_isSign cX12_isSign 2 (some .boolean) d [.ref (rf_h v), .int (rI 58)] σ35 σ40 (some (.int (rI z41))) := mσ40 ⟨by decide, by decide⟩
                refine rf_cv (n := 1) (rest := []) (As := [.int (rI 58)]) B mσ40 g_228_isSign (by decide +kernel) (by decide) rfl hl.1 (Nat.le_of_ble_eq_true rfl) dX12_readStatement_204 rfl hw (fun H locs hw => ?_)
                refine rn_if_eq (a := z41) (tgt := 226) hx hb iz41 dX12_readStatement_207 (by decide) (fun c42 => ?_) (fun c42 => ?_)
                · replace hf := rf_if_t hf c42
                  exact ps_readStatement_226 hR B σ40 hf _ _ _ hw (lv_sub hl [0] rfl)
                · replace hf := rf_if_f hf c42
                  refine lv_aload_n hx hb dX12_readStatement_210 rfl (lv_at hl 0 rfl) ?_
                  obtain ⟨σ43, z44, hσ43, hf⟩ := rf_cl_s hf
                  obtain ⟨iz44, mσ43⟩ := hR 10 σ40 [] σ43 z44 hσ43
                  have mσ43 : rf_Met l v yX12_next cX12_next 4 none d [.ref (rf_h v)] σ40 σ43 none := mσ43
                  refine rf_cv (n := 0) (rest := []) (As := []) B mσ43 g_231_next (by decide +kernel) (by decide) rfl hl.1 (Nat.le_of_ble_eq_true rfl) dX12_readStatement_211 rfl hw (fun H locs hw => ?_)
                  refine lv_aload_n hx hb dX12_readStatement_214 rfl (lv_at hl 0 rfl) ?_
                  refine lv_aload_n hx hb dX12_readStatement_215 rfl (lv_at hl 0 rfl) ?_
                  refine lv_iconst (v := rI 0) hx hb dX12_readStatement_216 rfl ?_
                  obtain ⟨σ45, z46, hσ45, hf⟩ := rf_cl_s hf
                  obtain ⟨iz46, mσ45⟩ := hR 20 σ43 [0] σ45 z46 hσ45
                  have mσ45 : rf_Met l v yX12_readTerm cX12_readTerm 7 (some .int) d [.ref (rf_h v), .int (rI 0)] σ43 σ45 (some (.int (rI z46))) := mσ45 ⟨by decide, by decide⟩
                  refine rf_cv (n := 1) (rest := [.ref (rf_h v)]) (As := [.int (rI 0)]) B mσ45 g_255_readTerm (by decide +kernel) (by decide) rfl hl.1 (Nat.le_of_ble_eq_true rfl) dX12_readStatement_217 rfl hw (fun H locs hw => ?_)
                  obtain ⟨σ47, eσ47, hf⟩ := rf_pi_s hf
                  refine rf_put B hw 79 (by decide) rfl rfl lk_284 iz46 eσ47 rfl rfl dX12_readStatement_220 (fun H locs hw => ?_)
                  refine lv_goto (tgt := 256) hx hb dX12_readStatement_223 (by decide) ?_
                  exact rf_retv B hf hw dX12_readStatement_256
    · replace hf := rf_if_f hf c7
      refine lv_aload_n hx hb dX12_readStatement_60 rfl (lv_at hl 0 rfl) ?_
      obtain ⟨σ48, z49, hσ48, hf⟩ := rf_cl_s hf
      obtain ⟨iz49, mσ48⟩ := hR 15 σ3 [] σ48 z49 hσ48
      have mσ48 : rf_Met l v yX12_cant cX12_cant 1 none d [.ref (rf_h v)] σ3 σ48 none := mσ48
      refine rf_cv (n := 0) (rest := []) (As := []) B mσ48 g_234_cant (by decide +kernel) (by decide) rfl hl.1 (Nat.le_of_ble_eq_true rfl) dX12_readStatement_61 rfl hw (fun H locs hw => ?_)
      exact rf_retv B hf hw dX12_readStatement_64
  · replace hf := rf_if_f hf c5
    refine lv_aload_n hx hb dX12_readStatement_46 rfl (lv_at hl 0 rfl) ?_
    obtain ⟨σ50, z51, hσ50, hf⟩ := rf_cl_s hf
    obtain ⟨iz51, mσ50⟩ := hR 26 σ3 [] σ50 z51 hσ50
    have mσ50 : rf_Met l v yX12_readTold cX12_readTold 1 none d [.ref (rf_h v)] σ3 σ50 none := mσ50
    refine rf_cv (n := 0) (rest := []) (As := []) B mσ50 g_287_readTold (by decide +kernel) (by decide) rfl hl.1 (Nat.le_of_ble_eq_true rfl) dX12_readStatement_47 rfl hw (fun H locs hw => ?_)
    exact rf_retv B hf hw dX12_readStatement_50

