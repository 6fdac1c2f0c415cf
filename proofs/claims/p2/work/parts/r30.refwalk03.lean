set_option maxHeartbeats 4000000 in
set_option maxRecDepth 100000 in
theorem ps_compare_92 {v : rfE} {p : Program} {l : Launch} {e : Env} {s : State} {m : MethodId} {args : Array Value} {below : List Frame} {meth : Method} {c : Code} {d : Nat} {rec : Nat → RS → List Int → Option (RS × Int)} {σ' : RS} {r : Int} (hR : rf_Rec l v d rec) (B : rf_B v p s m args meth c cX12_compare 13 (some .boolean)) : ∀ (σ : RS) (x6 : Int), inR x6 → pf_compare_92 rec σ x6 = some (σ', r) → ∀ (H : Heap) (locs : List Loc) (ls : Array Slot), rf_W v s σ H locs → lv_has ls 13 [(0, .ref (rf_h v)), (6, .int (rI x6))] → W p l e (rf_rm (d + 1)) s m args below meth c H locs 0 0 (MQ below (rf_Q v σ' (some (.int (rI r)))) args s 0 0 (rf_F v)) (F0 m 92 ls []) := by
  obtain ⟨hx, hb, hr, hml, hown, hts, hlk, hK, hD⟩ := id B
  intro σ x6 ix6 hf H locs ls hw hl
  unfold pf_compare_92 at hf
  refine lv_iconst (v := rI 0) hx hb dX12_compare_92 rfl ?_
  refine lv_istore (lv' := [(12, .int (rI 0)), (0, .ref (rf_h v)), (6, .int (rI x6))]) hx hb dX12_compare_93 hl (by decide) rfl (fun ls hl => ?_)
  refine lv_aload_n hx hb dX12_compare_95 rfl (lv_at hl 1 rfl) ?_
  refine lv_iload hx hb dX12_compare_96 (lv_at hl 2 rfl) ?_
  obtain ⟨σ1, eσ1, hf⟩ := rf_pi_s hf
  refine rf_put B hw 51 (by decide) rfl rfl lk_324 ix6 eσ1 rfl rfl dX12_compare_98 (fun H locs hw => ?_)
  refine lv_iload hx hb dX12_compare_101 (lv_at hl 0 rfl) ?_
  obtain ⟨h01, hf⟩ := rf_bo_s hf
  exact rf_retz B h01 hf hw dX12_compare_103

set_option maxHeartbeats 4000000 in
set_option maxRecDepth 100000 in
theorem ps_compare_0 {v : rfE} {p : Program} {l : Launch} {e : Env} {s : State} {m : MethodId} {args : Array Value} {below : List Frame} {meth : Method} {c : Code} {d : Nat} {rec : Nat → RS → List Int → Option (RS × Int)} {σ' : RS} {r : Int} (hR : rf_Rec l v d rec) (B : rf_B v p s m args meth c cX12_compare 13 (some .boolean)) : ∀ (σ : RS) (x1 x2 x3 x4 x5 : Int), inR x1 → inR x2 → inR x3 → inR x4 → inR x5 → pf_compare_0 rec σ x1 x2 x3 x4 x5 = some (σ', r) → ∀ (H : Heap) (locs : List Loc) (ls : Array Slot), rf_W v s σ H locs → lv_has ls 13 [(0, .ref (rf_h v)), (1, .int (rI x1)), (2, .int (rI x2)), (3, .int (rI x3)), (4, .int (rI x4)), (5, .int (rI x5))] → W p l e (rf_rm (d + 1)) s m args below meth c H locs 0 0 (MQ below (rf_Q v σ' (some (.int (rI r)))) args s 0 0 (rf_F v)) (F0 m 0 ls []) := by
  obtain ⟨hx, hb, hr, hml, hown, hts, hlk, hK, hD⟩ := id B
  intro σ x1 x2 x3 x4 x5 ix1 ix2 ix3 ix4 ix5 hf H locs ls hw hl
  unfold pf_compare_0 at hf
  refine lv_aload_n hx hb dX12_compare_0 rfl (lv_at hl 0 rfl) ?_
  refine lv_iload hx hb dX12_compare_1 (lv_at hl 5 rfl) ?_
  obtain ⟨σ1, z2, hσ1, hf⟩ := rf_cl_s hf
  obtain ⟨iz2, mσ1⟩ := hR 29 σ [x5] σ1 z2 hσ1
  have mσ1 : rf_Met l v yX12_look cX12_look 2 (some .boolean) d [.ref (rf_h v), .int (rI x5)] σ σ1 (some (.int (rI z2))) := mσ1 ix5
  refine rf_cv (n := 1) (rest := []) (As := [.int (rI x5)]) B mσ1 g_354_look (by decide +kernel) (by decide) rfl hl.1 (Nat.le_of_ble_eq_true rfl) dX12_compare_3 rfl hw (fun H locs hw => ?_)
  refine rn_if_ne (a := z2) (tgt := 11) hx hb iz2 dX12_compare_6 (by decide) (fun c3 => ?_) (fun c3 => ?_)
  · replace hf := rf_if_t hf c3
    refine lv_aload_n hx hb dX12_compare_11 rfl (lv_at hl 0 rfl) ?_
    obtain ⟨z4, ez4, iz4, hf⟩ := rf_gi_s hw hf
    refine rf_geti B hw 51 (by decide) rfl lk_324 ez4 dX12_compare_12 ?_
    refine lv_istore (lv' := [(6, .int (rI z4)), (0, .ref (rf_h v)), (1, .int (rI x1)), (2, .int (rI x2)), (3, .int (rI x3)), (4, .int (rI x4)), (5, .int (rI x5))]) hx hb dX12_compare_15 hl (by decide) rfl (fun ls hl => ?_)
    refine lv_aload_n hx hb dX12_compare_17 rfl (lv_at hl 1 rfl) ?_
    refine lv_iload_n hx hb dX12_compare_18 rfl (lv_at hl 2 rfl) ?_
    refine lv_iload_n hx hb dX12_compare_19 rfl (lv_at hl 3 rfl) ?_
    obtain ⟨σ5, z6, hσ5, hf⟩ := rf_cl_s hf
    obtain ⟨iz6, mσ5⟩ := hR 32 σ1 [x1, x2] σ5 z6 hσ5
    have mσ5 : rf_Met l v yX12_head cX12_head 8 none d [.ref (rf_h v), .int (rI x1), .int (rI x2)] σ1 σ5 none := mσ5 ix1 ix2
    refine rf_cv (n := 2) (rest := []) (As := [.int (rI x1), .int (rI x2)]) B mσ5 g_357_head (by decide +kernel) (by decide) rfl hl.1 (Nat.le_of_ble_eq_true rfl) dX12_compare_20 rfl hw (fun H locs hw => ?_)
    refine lv_aload_n hx hb dX12_compare_23 rfl (lv_at hl 1 rfl) ?_
    obtain ⟨z7, ez7, iz7, hf⟩ := rf_gi_s hw hf
    refine rf_geti B hw 52 (by decide) rfl lk_348 ez7 dX12_compare_24 ?_
    refine lv_istore (lv' := [(7, .int (rI z7)), (6, .int (rI z4)), (0, .ref (rf_h v)), (1, .int (rI x1)), (2, .int (rI x2)), (3, .int (rI x3)), (4, .int (rI x4)), (5, .int (rI x5))]) hx hb dX12_compare_27 hl (by decide) rfl (fun ls hl => ?_)
    refine lv_aload_n hx hb dX12_compare_29 rfl (lv_at hl 2 rfl) ?_
    obtain ⟨z8, ez8, iz8, hf⟩ := rf_gi_s hw hf
    refine rf_geti B hw 53 (by decide) rfl lk_351 ez8 dX12_compare_30 ?_
    refine lv_istore (lv' := [(8, .int (rI z8)), (7, .int (rI z7)), (6, .int (rI z4)), (0, .ref (rf_h v)), (1, .int (rI x1)), (2, .int (rI x2)), (3, .int (rI x3)), (4, .int (rI x4)), (5, .int (rI x5))]) hx hb dX12_compare_33 hl (by decide) rfl (fun ls hl => ?_)
    refine lv_aload_n hx hb dX12_compare_35 rfl (lv_at hl 3 rfl) ?_
    obtain ⟨z9, ez9, iz9, hf⟩ := rf_gi_s hw hf
    refine rf_geti B hw 51 (by decide) rfl lk_324 ez9 dX12_compare_36 ?_
    refine lv_istore (lv' := [(9, .int (rI z9)), (8, .int (rI z8)), (7, .int (rI z7)), (6, .int (rI z4)), (0, .ref (rf_h v)), (1, .int (rI x1)), (2, .int (rI x2)), (3, .int (rI x3)), (4, .int (rI x4)), (5, .int (rI x5))]) hx hb dX12_compare_39 hl (by decide) rfl (fun ls hl => ?_)
    refine lv_aload_n hx hb dX12_compare_41 rfl (lv_at hl 4 rfl) ?_
    refine lv_iload_n hx hb dX12_compare_42 rfl (lv_at hl 7 rfl) ?_
    refine lv_iload hx hb dX12_compare_43 (lv_at hl 8 rfl) ?_
    obtain ⟨σ10, z11, hσ10, hf⟩ := rf_cl_s hf
    obtain ⟨iz11, mσ10⟩ := hR 32 σ5 [x3, x4] σ10 z11 hσ10
    have mσ10 : rf_Met l v yX12_head cX12_head 8 none d [.ref (rf_h v), .int (rI x3), .int (rI x4)] σ5 σ10 none := mσ10 ix3 ix4
    refine rf_cv (n := 2) (rest := []) (As := [.int (rI x3), .int (rI x4)]) B mσ10 g_357_head (by decide +kernel) (by decide) rfl hl.1 (Nat.le_of_ble_eq_true rfl) dX12_compare_45 rfl hw (fun H locs hw => ?_)
    refine lv_aload_n hx hb dX12_compare_48 rfl (lv_at hl 4 rfl) ?_
    obtain ⟨z12, ez12, iz12, hf⟩ := rf_gi_s hw hf
    refine rf_geti B hw 52 (by decide) rfl lk_348 ez12 dX12_compare_49 ?_
    refine lv_istore (lv' := [(10, .int (rI z12)), (9, .int (rI z9)), (8, .int (rI z8)), (7, .int (rI z7)), (6, .int (rI z4)), (0, .ref (rf_h v)), (1, .int (rI x1)), (2, .int (rI x2)), (3, .int (rI x3)), (4, .int (rI x4)), (5, .int (rI x5))]) hx hb dX12_compare_52 hl (by decide) rfl (fun ls hl => ?_)
    refine lv_aload_n hx hb dX12_compare_54 rfl (lv_at hl 5 rfl) ?_
    obtain ⟨z13, ez13, iz13, hf⟩ := rf_gi_s hw hf
    refine rf_geti B hw 53 (by decide) rfl lk_351 ez13 dX12_compare_55 ?_
    refine lv_istore (lv' := [(11, .int (rI z13)), (10, .int (rI z12)), (9, .int (rI z9)), (8, .int (rI z8)), (7, .int (rI z7)), (6, .int (rI z4)), (0, .ref (rf_h v)), (1, .int (rI x1)), (2, .int (rI x2)), (3, .int (rI x3)), (4, .int (rI x4)), (5, .int (rI x5))]) hx hb dX12_compare_58 hl (by decide) rfl (fun ls hl => ?_)
    refine lv_aload_n hx hb dX12_compare_60 rfl (lv_at hl 6 rfl) ?_
    obtain ⟨z14, ez14, iz14, hf⟩ := rf_gi_s hw hf
    refine rf_geti B hw 72 (by decide) rfl lk_150 ez14 dX12_compare_61 ?_
    refine rn_if_ne (a := z14) (tgt := 92) hx hb iz14 dX12_compare_64 (by decide) (fun c15 => ?_) (fun c15 => ?_)
    · replace hf := rf_if_t hf c15
      exact ps_compare_92 hR B σ10 z4 iz4 hf _ _ _ hw (lv_sub hl [6, 5] rfl)
    · replace hf := rf_if_f hf c15
      refine lv_aload_n hx hb dX12_compare_67 rfl (lv_at hl 6 rfl) ?_
      refine lv_iload hx hb dX12_compare_68 (lv_at hl 4 rfl) ?_
      refine lv_iload hx hb dX12_compare_70 (lv_at hl 3 rfl) ?_
      refine lv_iload hx hb dX12_compare_72 (lv_at hl 2 rfl) ?_
      refine lv_iload hx hb dX12_compare_74 (lv_at hl 5 rfl) ?_
      refine lv_iload hx hb dX12_compare_76 (lv_at hl 1 rfl) ?_
      refine lv_iload hx hb dX12_compare_78 (lv_at hl 0 rfl) ?_
      refine lv_iload hx hb dX12_compare_80 (lv_at hl 11 rfl) ?_
      obtain ⟨σ16, z17, hσ16, hf⟩ := rf_cl_s hf
      obtain ⟨iz17, mσ16⟩ := hR 36 σ10 [z7, z8, z9, z4, z12, z13, x5] σ16 z17 hσ16
      have mσ16 : rf_Met l v yX12_alike cX12_alike 14 (some .boolean) d [.ref (rf_h v), .int (rI z7), .int (rI z8), .int (rI z9), .int (rI z4), .int (rI z12), .int (rI z13), .int (rI x5)] σ10 σ16 (some (.int (rI z17))) := mσ16 iz7 iz8 iz9 iz4 iz12 iz13 ix5
      refine rf_cv (n := 7) (rest := []) (As := [.int (rI z7), .int (rI z8), .int (rI z9), .int (rI z4), .int (rI z12), .int (rI z13), .int (rI x5)]) B mσ16 g_359_alike (by decide +kernel) (by decide) rfl hl.1 (Nat.le_of_ble_eq_true rfl) dX12_compare_82 rfl hw (fun H locs hw => ?_)
      refine rn_if_eq (a := z17) (tgt := 92) hx hb iz17 dX12_compare_85 (by decide) (fun c18 => ?_) (fun c18 => ?_)
      · replace hf := rf_if_t hf c18
        exact ps_compare_92 hR B σ16 z4 iz4 hf _ _ _ hw (lv_sub hl [6, 5] rfl)
      · replace hf := rf_if_f hf c18
        refine lv_iconst (v := rI 1) hx hb dX12_compare_88 rfl ?_
        refine lv_goto (tgt := 93) hx hb dX12_compare_89 (by decide) ?_
        refine lv_istore (lv' := [(12, .int (rI 1)), (11, .int (rI z13)), (10, .int (rI z12)), (9, .int (rI z9)), (8, .int (rI z8)), (7, .int (rI z7)), (6, .int (rI z4)), (0, .ref (rf_h v)), (1, .int (rI x1)), (2, .int (rI x2)), (3, .int (rI x3)), (4, .int (rI x4)), (5, .int (rI x5))]) hx hb dX12_compare_93 hl (by decide) rfl (fun ls hl => ?_)
        refine lv_aload_n hx hb dX12_compare_95 rfl (lv_at hl 7 rfl) ?_
        refine lv_iload hx hb dX12_compare_96 (lv_at hl 6 rfl) ?_
        obtain ⟨σ19, eσ19, hf⟩ := rf_pi_s hf
        refine rf_put B hw 51 (by decide) rfl rfl lk_324 iz4 eσ19 rfl rfl dX12_compare_98 (fun H locs hw => ?_)
        refine lv_iload hx hb dX12_compare_101 (lv_at hl 0 rfl) ?_
        obtain ⟨h01, hf⟩ := rf_bo_s hf
        exact rf_retz B h01 hf hw dX12_compare_103
  · replace hf := rf_if_f hf c3
    refine lv_iconst (v := rI 0) hx hb dX12_compare_9 rfl ?_
    obtain ⟨h01, hf⟩ := rf_bo_s hf
    exact rf_retz B h01 hf hw dX12_compare_10

set_option maxHeartbeats 4000000 in
set_option maxRecDepth 100000 in
theorem pm_compare {v : rfE} (hD : rf_D v) {l : Launch} {d : Nat} {rec : Nat → RS → List Int → Option (RS × Int)} (hR : rf_Rec l v d rec) (σ σ' : RS) (x1 x2 x3 x4 x5 r : Int) (ix1 : inR x1) (ix2 : inR x2) (ix3 : inR x3) (ix4 : inR x4) (ix5 : inR x5) (hf : pf_compare_0 rec σ x1 x2 x3 x4 x5 = some (σ', r)) : rf_Met l v yX12_compare cX12_compare 13 (some .boolean) (d + 1) [.ref (rf_h v), .int (rI x1), .int (rI x2), .int (rI x3), .int (rI x4), .int (rI x5)] σ σ' (some (.int (rI r))) := by
  refine Met.ofW (cc := cX12_compare) (maxL := 13) (ret := (some .boolean)) (by decide +kernel) rfl ?_
  intro p e s m args below meth c s₁ B hml hv
  obtain ⟨rfl, hM, hK⟩ := hv
  have hts := atoms_spec (ws := Cond.code yX12_compare cX12_compare 13 (some .boolean) :: rf_bw) B.pre
  have hB : rf_B v p s m _ meth c cX12_compare 13 (some .boolean) := ⟨B.exec, B.bytes, B.returns, hml, findClass_of_methodNamed B.named, fun w h => hts w (List.mem_cons_of_mem _ h), B.notSynchronized, hK, hD⟩
  have hl := lv_entry ([.ref (rf_h v), .int (rI x1), .int (rI x2), .int (rI x3), .int (rI x4), .int (rI x5)]) (n := 13) (Nat.le_of_ble_eq_true rfl)
  rw [lg_entry_eq]
  generalize (lg_sl ([.ref (rf_h v), .int (rI x1), .int (rI x2), .int (rI x3), .int (rI x4), .int (rI x5)]) ++ List.replicate (13 - (lg_sl ([.ref (rf_h v), .int (rI x1), .int (rI x2), .int (rI x3), .int (rI x4), .int (rI x5)])).length) Slot.unset).toArray = ls at hl ⊢
  exact ps_compare_0 hR hB σ x1 x2 x3 x4 x5 ix1 ix2 ix3 ix4 ix5 hf _ _ _ ⟨hM, rfl, fun _ _ => rfl, fun q h => by cases h⟩ (lv_sub hl [0, 1, 2, 3, 4, 5] rfl)

set_option maxHeartbeats 4000000 in
set_option maxRecDepth 100000 in
theorem ps_alike_34 {v : rfE} {p : Program} {l : Launch} {e : Env} {s : State} {m : MethodId} {args : Array Value} {below : List Frame} {meth : Method} {c : Code} {d : Nat} {rec : Nat → RS → List Int → Option (RS × Int)} {σ' : RS} {r : Int} (hR : rf_Rec l v d rec) (B : rf_B v p s m args meth c cX12_alike 14 (some .boolean)) : ∀ (σ : RS) (x1 x2 x5 x6 x7 : Int), inR x1 → inR x2 → inR x5 → inR x6 → inR x7 → pf_alike_34 rec σ x1 x2 x5 x6 x7 = some (σ', r) → ∀ (H : Heap) (locs : List Loc) (ls : Array Slot), rf_W v s σ H locs → lv_has ls 14 [(0, .ref (rf_h v)), (1, .int (rI x1)), (2, .int (rI x2)), (5, .int (rI x5)), (6, .int (rI x6)), (7, .int (rI x7))] → W p l e (rf_rm (d + 1)) s m args below meth c H locs 0 0 (MQ below (rf_Q v σ' (some (.int (rI r)))) args s 0 0 (rf_F v)) (F0 m 34 ls []) := by
  obtain ⟨hx, hb, hr, hml, hown, hts, hlk, hK, hD⟩ := id B
  intro σ x1 x2 x5 x6 x7 ix1 ix2 ix5 ix6 ix7 hf H locs ls hw hl
  unfold pf_alike_34 at hf
  refine lv_aload_n hx hb dX12_alike_34 rfl (lv_at hl 0 rfl) ?_
  refine lv_aload_n hx hb dX12_alike_35 rfl (lv_at hl 0 rfl) ?_
  refine rf_get (val := .ref (rf_ad v 32)) B hw 32 (by decide) lk_82 rfl dX12_alike_36 ?_
  refine lv_iload_n hx hb dX12_alike_39 rfl (lv_at hl 1 rfl) ?_
  obtain ⟨z1, ez1, iz1, rz1, hf⟩ := rf_rd_s hw hf
  refine rf_ald B hw ix1 rz1 ez1 dX12_alike_40 ?_
  refine lv_iload_n hx hb dX12_alike_41 rfl (lv_at hl 2 rfl) ?_
  refine lv_aload_n hx hb dX12_alike_42 rfl (lv_at hl 0 rfl) ?_
  refine rf_get (val := .ref (rf_ad v 32)) B hw 32 (by decide) lk_82 rfl dX12_alike_43 ?_
  refine lv_iload hx hb dX12_alike_46 (lv_at hl 3 rfl) ?_
  obtain ⟨z2, ez2, iz2, rz2, hf⟩ := rf_rd_s hw hf
  refine rf_ald B hw ix5 rz2 ez2 dX12_alike_48 ?_
  refine lv_iload hx hb dX12_alike_49 (lv_at hl 4 rfl) ?_
  refine lv_iload hx hb dX12_alike_51 (lv_at hl 5 rfl) ?_
  refine lv_iconst (v := rI 1) hx hb dX12_alike_53 rfl ?_
  obtain ⟨z3, ez3, iz3, hf⟩ := rf_ck_s hf
  refine rn_add hx hb ez3 dX12_alike_54 ?_
  obtain ⟨σ4, z5, hσ4, hf⟩ := rf_cl_s hf
  obtain ⟨iz5, mσ4⟩ := hR 35 σ [z1, x2, z2, x6, z3] σ4 z5 hσ4
  have mσ4 : rf_Met l v yX12_compare cX12_compare 13 (some .boolean) d [.ref (rf_h v), .int (rI z1), .int (rI x2), .int (rI z2), .int (rI x6), .int (rI z3)] σ σ4 (some (.int (rI z5))) := mσ4 iz1 ix2 iz2 ix6 iz3
  refine rf_cv (n := 5) (rest := []) (As := [.int (rI z1), .int (rI x2), .int (rI z2), .int (rI x6), .int (rI z3)]) B mσ4 g_366_compare (by decide +kernel) (by decide) rfl hl.1 (Nat.le_of_ble_eq_true rfl) dX12_alike_55 rfl hw (fun H locs hw => ?_)
  refine rn_if_ne (a := z5) (tgt := 63) hx hb iz5 dX12_alike_58 (by decide) (fun c6 => ?_) (fun c6 => ?_)
  · replace hf := rf_if_t hf c6
    refine lv_ldcw (v := rI (-200000)) hx hb hown (hts _ lc_370) dX12_alike_63 ?_
    refine lv_aload_n hx hb dX12_alike_66 rfl (lv_at hl 0 rfl) ?_
    obtain ⟨z7, ez7, iz7, hf⟩ := rf_gi_s hw hf
    refine rf_geti B hw 57 (by decide) rfl lk_371 ez7 dX12_alike_67 ?_
    obtain ⟨z8, ez8, iz8, hf⟩ := rf_ck_s hf
    refine rn_sub hx hb ez8 dX12_alike_70 ?_
    refine lv_istore (lv' := [(10, .int (rI z8)), (0, .ref (rf_h v)), (1, .int (rI x1)), (2, .int (rI x2)), (5, .int (rI x5)), (6, .int (rI x6)), (7, .int (rI x7))]) hx hb dX12_alike_71 hl (by decide) rfl (fun ls hl => ?_)
    refine lv_aload_n hx hb dX12_alike_73 rfl (lv_at hl 1 rfl) ?_
    refine lv_dup hx hb dX12_alike_74 rfl ?_
    obtain ⟨z9, ez9, iz9, hf⟩ := rf_gi_s hw hf
    refine rf_geti B hw 57 (by decide) rfl lk_371 ez9 dX12_alike_75 ?_
    refine lv_iconst (v := rI 1) hx hb dX12_alike_78 rfl ?_
    obtain ⟨z10, ez10, iz10, hf⟩ := rf_ck_s hf
    refine rn_add hx hb ez10 dX12_alike_79 ?_
    obtain ⟨σ11, eσ11, hf⟩ := rf_pi_s hf
    refine rf_put B hw 57 (by decide) rfl rfl lk_371 iz10 eσ11 rfl rfl dX12_alike_80 (fun H locs hw => ?_)
    refine lv_aload_n hx hb dX12_alike_83 rfl (lv_at hl 1 rfl) ?_
    refine lv_iload_n hx hb dX12_alike_84 rfl (lv_at hl 2 rfl) ?_
    refine lv_iload_n hx hb dX12_alike_85 rfl (lv_at hl 3 rfl) ?_
    refine lv_iload hx hb dX12_alike_86 (lv_at hl 0 rfl) ?_
    obtain ⟨σ12, z13, hσ12, hf⟩ := rf_cl_s hf
    obtain ⟨iz13, mσ12⟩ := hR 34 σ11 [x1, x2, z8] σ12 z13 hσ12
    have mσ12 : rf_Met l v yX12_inside cX12_inside 4 (some .int) d [.ref (rf_h v), .int (rI x1), .int (rI x2), .int (rI z8)] σ11 σ12 (some (.int (rI z13))) := mσ12 ix1 ix2 iz8
    refine rf_cv (n := 3) (rest := []) (As := [.int (rI x1), .int (rI x2), .int (rI z8)]) B mσ12 g_374_inside (by decide +kernel) (by decide) rfl hl.1 (Nat.le_of_ble_eq_true rfl) dX12_alike_88 rfl hw (fun H locs hw => ?_)
    refine lv_istore (lv' := [(11, .int (rI z13)), (10, .int (rI z8)), (0, .ref (rf_h v)), (1, .int (rI x1)), (2, .int (rI x2)), (5, .int (rI x5)), (6, .int (rI x6)), (7, .int (rI x7))]) hx hb dX12_alike_91 hl (by decide) rfl (fun ls hl => ?_)
    refine lv_aload_n hx hb dX12_alike_93 rfl (lv_at hl 2 rfl) ?_
    refine lv_iload hx hb dX12_alike_94 (lv_at hl 5 rfl) ?_
    refine lv_iload hx hb dX12_alike_96 (lv_at hl 6 rfl) ?_
    refine lv_iload hx hb dX12_alike_98 (lv_at hl 1 rfl) ?_
    obtain ⟨σ14, z15, hσ14, hf⟩ := rf_cl_s hf
    obtain ⟨iz15, mσ14⟩ := hR 34 σ12 [x5, x6, z8] σ14 z15 hσ14
    have mσ14 : rf_Met l v yX12_inside cX12_inside 4 (some .int) d [.ref (rf_h v), .int (rI x5), .int (rI x6), .int (rI z8)] σ12 σ14 (some (.int (rI z15))) := mσ14 ix5 ix6 iz8
    refine rf_cv (n := 3) (rest := []) (As := [.int (rI x5), .int (rI x6), .int (rI z8)]) B mσ14 g_374_inside (by decide +kernel) (by decide) rfl hl.1 (Nat.le_of_ble_eq_true rfl) dX12_alike_100 rfl hw (fun H locs hw => ?_)
    refine lv_istore (lv' := [(12, .int (rI z15)), (11, .int (rI z13)), (10, .int (rI z8)), (0, .ref (rf_h v)), (1, .int (rI x1)), (2, .int (rI x2)), (5, .int (rI x5)), (6, .int (rI x6)), (7, .int (rI x7))]) hx hb dX12_alike_103 hl (by decide) rfl (fun ls hl => ?_)
    refine lv_aload_n hx hb dX12_alike_105 rfl (lv_at hl 3 rfl) ?_
    refine lv_aload_n hx hb dX12_alike_106 rfl (lv_at hl 3 rfl) ?_
    refine rf_get (val := .ref (rf_ad v 33)) B hw 33 (by decide) lk_85 rfl dX12_alike_107 ?_
    refine lv_iload_n hx hb dX12_alike_110 rfl (lv_at hl 4 rfl) ?_
    obtain ⟨z16, ez16, iz16, rz16, hf⟩ := rf_rd_s hw hf
    refine rf_ald B hw ix1 rz16 ez16 dX12_alike_111 ?_
    refine lv_iload hx hb dX12_alike_112 (lv_at hl 1 rfl) ?_
    refine lv_aload_n hx hb dX12_alike_114 rfl (lv_at hl 3 rfl) ?_
    refine rf_get (val := .ref (rf_ad v 33)) B hw 33 (by decide) lk_85 rfl dX12_alike_115 ?_
    refine lv_iload hx hb dX12_alike_118 (lv_at hl 6 rfl) ?_
    obtain ⟨z17, ez17, iz17, rz17, hf⟩ := rf_rd_s hw hf
    refine rf_ald B hw ix5 rz17 ez17 dX12_alike_120 ?_
    refine lv_iload hx hb dX12_alike_121 (lv_at hl 0 rfl) ?_
    refine lv_iload hx hb dX12_alike_123 (lv_at hl 8 rfl) ?_
    refine lv_iconst (v := rI 1) hx hb dX12_alike_125 rfl ?_
    obtain ⟨z18, ez18, iz18, hf⟩ := rf_ck_s hf
    refine rn_add hx hb ez18 dX12_alike_126 ?_
    obtain ⟨σ19, z20, hσ19, hf⟩ := rf_cl_s hf
    obtain ⟨iz20, mσ19⟩ := hR 35 σ14 [z16, z13, z17, z15, z18] σ19 z20 hσ19
    have mσ19 : rf_Met l v yX12_compare cX12_compare 13 (some .boolean) d [.ref (rf_h v), .int (rI z16), .int (rI z13), .int (rI z17), .int (rI z15), .int (rI z18)] σ14 σ19 (some (.int (rI z20))) := mσ19 iz16 iz13 iz17 iz15 iz18
    refine rf_cv (n := 5) (rest := []) (As := [.int (rI z16), .int (rI z13), .int (rI z17), .int (rI z15), .int (rI z18)]) B mσ19 g_366_compare (by decide +kernel) (by decide) rfl hl.1 (Nat.le_of_ble_eq_true rfl) dX12_alike_127 rfl hw (fun H locs hw => ?_)
    obtain ⟨h01, hf⟩ := rf_bo_s hf
    exact rf_retz B h01 hf hw dX12_alike_130
  · replace hf := rf_if_f hf c6
    refine lv_iconst (v := rI 0) hx hb dX12_alike_61 rfl ?_
    obtain ⟨h01, hf⟩ := rf_bo_s hf
    exact rf_retz B h01 hf hw dX12_alike_62

set_option maxHeartbeats 4000000 in
set_option maxRecDepth 100000 in
theorem ps_alike_220 {v : rfE} {p : Program} {l : Launch} {e : Env} {s : State} {m : MethodId} {args : Array Value} {below : List Frame} {meth : Method} {c : Code} {d : Nat} {rec : Nat → RS → List Int → Option (RS × Int)} {σ' : RS} {r : Int} (hR : rf_Rec l v d rec) (B : rf_B v p s m args meth c cX12_alike 14 (some .boolean)) : ∀ (n : Nat) (σ : RS) (x3 x7 x10 x11 x12 x13 : Int), inR x3 → inR x7 → inR x10 → inR x11 → inR x12 → inR x13 → pf_alike_220 rec n σ x3 x7 x10 x11 x12 x13 = some (σ', r) → ∀ (H : Heap) (locs : List Loc) (ls : Array Slot), rf_W v s σ H locs → lv_has ls 14 [(0, .ref (rf_h v)), (3, .int (rI x3)), (7, .int (rI x7)), (10, .int (rI x10)), (11, .int (rI x11)), (12, .int (rI x12)), (13, .int (rI x13))] → W p l e (rf_rm (d + 1)) s m args below meth c H locs 0 0 (MQ below (rf_Q v σ' (some (.int (rI r)))) args s 0 0 (rf_F v)) (F0 m 220 ls []) := by
  obtain ⟨hx, hb, hr, hml, hown, hts, hlk, hK, hD⟩ := id B
  intro n
  induction n with
  | zero => intro σ x3 x7 x10 x11 x12 x13 ix3 ix7 ix10 ix11 ix12 ix13 hf; cases hf
  | succ n ih =>
    intro σ x3 x7 x10 x11 x12 x13 ix3 ix7 ix10 ix11 ix12 ix13 hf H locs ls hw hl
    unfold pf_alike_220 at hf
    refine lv_iload hx hb dX12_alike_220 (lv_at hl 4 rfl) ?_
    refine rn_if_eq (a := x11) (tgt := 286) hx hb ix11 dX12_alike_222 (by decide) (fun c1 => ?_) (fun c1 => ?_)
    · replace hf := rf_if_t hf c1
      refine lv_iload hx hb dX12_alike_286 (lv_at hl 4 rfl) ?_
      obtain ⟨h01, hf⟩ := rf_bo_s hf
      exact rf_retz B h01 hf hw dX12_alike_288
    · replace hf := rf_if_f hf c1
      refine lv_iload hx hb dX12_alike_225 (lv_at hl 6 rfl) ?_
      refine lv_iload hx hb dX12_alike_227 (lv_at hl 3 rfl) ?_
      refine rn_icmp_gt (a := x13) (b := x10) (tgt := 286) hx hb ix13 ix10 dX12_alike_229 (by decide) (fun c2 => ?_) (fun c2 => ?_)
      · replace hf := rf_if_t hf c2
        refine lv_iload hx hb dX12_alike_286 (lv_at hl 4 rfl) ?_
        obtain ⟨h01, hf⟩ := rf_bo_s hf
        exact rf_retz B h01 hf hw dX12_alike_288
      · replace hf := rf_if_f hf c2
        refine lv_aload_n hx hb dX12_alike_232 rfl (lv_at hl 0 rfl) ?_
        refine lv_aload_n hx hb dX12_alike_233 rfl (lv_at hl 0 rfl) ?_
        refine rf_get (val := .ref (rf_ad v 49)) B hw 49 (by decide) lk_128 rfl dX12_alike_234 ?_
        refine lv_iload_n hx hb dX12_alike_237 rfl (lv_at hl 1 rfl) ?_
        refine lv_iload hx hb dX12_alike_238 (lv_at hl 6 rfl) ?_
        obtain ⟨z3, ez3, iz3, hf⟩ := rf_ck_s hf
        refine rn_sub hx hb ez3 dX12_alike_240 ?_
        obtain ⟨z4, ez4, iz4, rz4, hf⟩ := rf_rd_s hw hf
        refine rf_ald B hw iz3 rz4 ez4 dX12_alike_241 ?_
        refine lv_aload_n hx hb dX12_alike_242 rfl (lv_at hl 0 rfl) ?_
        refine rf_get (val := .ref (rf_ad v 50)) B hw 50 (by decide) lk_131 rfl dX12_alike_243 ?_
        refine lv_iload_n hx hb dX12_alike_246 rfl (lv_at hl 1 rfl) ?_
        refine lv_iload hx hb dX12_alike_247 (lv_at hl 6 rfl) ?_
        obtain ⟨z5, ez5, iz5, hf⟩ := rf_ck_s hf
        refine rn_sub hx hb ez5 dX12_alike_249 ?_
        obtain ⟨z6, ez6, iz6, rz6, hf⟩ := rf_rd_s hw hf
        refine rf_ald B hw iz5 rz6 ez6 dX12_alike_250 ?_
        refine lv_aload_n hx hb dX12_alike_251 rfl (lv_at hl 0 rfl) ?_
        refine rf_get (val := .ref (rf_ad v 49)) B hw 49 (by decide) lk_128 rfl dX12_alike_252 ?_
        refine lv_iload hx hb dX12_alike_255 (lv_at hl 5 rfl) ?_
        refine lv_iload hx hb dX12_alike_257 (lv_at hl 6 rfl) ?_
        obtain ⟨z7, ez7, iz7, hf⟩ := rf_ck_s hf
        refine rn_sub hx hb ez7 dX12_alike_259 ?_
        obtain ⟨z8, ez8, iz8, rz8, hf⟩ := rf_rd_s hw hf
        refine rf_ald B hw iz7 rz8 ez8 dX12_alike_260 ?_
        refine lv_aload_n hx hb dX12_alike_261 rfl (lv_at hl 0 rfl) ?_
        refine rf_get (val := .ref (rf_ad v 50)) B hw 50 (by decide) lk_131 rfl dX12_alike_262 ?_
        refine lv_iload hx hb dX12_alike_265 (lv_at hl 5 rfl) ?_
        refine lv_iload hx hb dX12_alike_267 (lv_at hl 6 rfl) ?_
        obtain ⟨z9, ez9, iz9, hf⟩ := rf_ck_s hf
        refine rn_sub hx hb ez9 dX12_alike_269 ?_
        obtain ⟨z10, ez10, iz10, rz10, hf⟩ := rf_rd_s hw hf
        refine rf_ald B hw iz9 rz10 ez10 dX12_alike_270 ?_
        refine lv_iload hx hb dX12_alike_271 (lv_at hl 2 rfl) ?_
        refine lv_iconst (v := rI 1) hx hb dX12_alike_273 rfl ?_
        obtain ⟨z11, ez11, iz11, hf⟩ := rf_ck_s hf
        refine rn_add hx hb ez11 dX12_alike_274 ?_
        obtain ⟨σ12, z13, hσ12, hf⟩ := rf_cl_s hf
        obtain ⟨iz13, mσ12⟩ := hR 35 σ [z4, z6, z8, z10, z11] σ12 z13 hσ12
        have mσ12 : rf_Met l v yX12_compare cX12_compare 13 (some .boolean) d [.ref (rf_h v), .int (rI z4), .int (rI z6), .int (rI z8), .int (rI z10), .int (rI z11)] σ σ12 (some (.int (rI z13))) := mσ12 iz4 iz6 iz8 iz10 iz11
        refine rf_cv (n := 5) (rest := []) (As := [.int (rI z4), .int (rI z6), .int (rI z8), .int (rI z10), .int (rI z11)]) B mσ12 g_366_compare (by decide +kernel) (by decide) rfl hl.1 (Nat.le_of_ble_eq_true rfl) dX12_alike_275 rfl hw (fun H locs hw => ?_)
        refine lv_istore (lv' := [(11, .int (rI z13)), (0, .ref (rf_h v)), (3, .int (rI x3)), (7, .int (rI x7)), (10, .int (rI x10)), (12, .int (rI x12)), (13, .int (rI x13))]) hx hb dX12_alike_278 hl (by decide) rfl (fun ls hl => ?_)
        obtain ⟨z14, ez14, iz14, hf⟩ := rf_ck_s hf
        refine lv_iinc (v := rI z14) (lv' := [(13, .int (rI z14)), (11, .int (rI z13)), (0, .ref (rf_h v)), (3, .int (rI x3)), (7, .int (rI x7)), (10, .int (rI x10)), (12, .int (rI x12))]) hx hb dX12_alike_280 hl (k := 6) rfl (by rw [ez14]; exact rI_add _ _) (by decide) rfl (fun ls hl => ?_)
        refine lv_goto (tgt := 220) hx hb dX12_alike_283 (by decide) ?_
        exact ih σ12 x3 x7 x10 z13 x12 z14 ix3 ix7 ix10 iz13 ix12 iz14 hf _ _ _ hw (lv_sub hl [2, 3, 4, 5, 1, 6, 0] rfl)

set_option maxHeartbeats 4000000 in
set_option maxRecDepth 100000 in
theorem ps_alike_209 {v : rfE} {p : Program} {l : Launch} {e : Env} {s : State} {m : MethodId} {args : Array Value} {below : List Frame} {meth : Method} {c : Code} {d : Nat} {rec : Nat → RS → List Int → Option (RS × Int)} {σ' : RS} {r : Int} (hR : rf_Rec l v d rec) (B : rf_B v p s m args meth c cX12_alike 14 (some .boolean)) : ∀ (σ : RS) (x3 x7 x10 t0 : Int), inR x3 → inR x7 → inR x10 → inR t0 → pf_alike_209 rec σ x3 x7 x10 t0 = some (σ', r) → ∀ (H : Heap) (locs : List Loc) (ls : Array Slot), rf_W v s σ H locs → lv_has ls 14 [(0, .ref (rf_h v)), (3, .int (rI x3)), (7, .int (rI x7)), (10, .int (rI x10))] → W p l e (rf_rm (d + 1)) s m args below meth c H locs 0 0 (MQ below (rf_Q v σ' (some (.int (rI r)))) args s 0 0 (rf_F v)) (F0 m 209 ls [.int (rI t0)]) := by
  obtain ⟨hx, hb, hr, hml, hown, hts, hlk, hK, hD⟩ := id B
  intro σ x3 x7 x10 t0 ix3 ix7 ix10 it0 hf H locs ls hw hl
  unfold pf_alike_209 at hf
  refine lv_istore (lv' := [(11, .int (rI t0)), (0, .ref (rf_h v)), (3, .int (rI x3)), (7, .int (rI x7)), (10, .int (rI x10))]) hx hb dX12_alike_209 hl (by decide) rfl (fun ls hl => ?_)
  refine lv_aload_n hx hb dX12_alike_211 rfl (lv_at hl 1 rfl) ?_
  obtain ⟨z1, ez1, iz1, hf⟩ := rf_gi_s hw hf
  refine rf_geti B hw 51 (by decide) rfl lk_324 ez1 dX12_alike_212 ?_
  refine lv_istore (lv' := [(12, .int (rI z1)), (11, .int (rI t0)), (0, .ref (rf_h v)), (3, .int (rI x3)), (7, .int (rI x7)), (10, .int (rI x10))]) hx hb dX12_alike_215 hl (by decide) rfl (fun ls hl => ?_)
  refine lv_iconst (v := rI 1) hx hb dX12_alike_217 rfl ?_
  refine lv_istore (lv' := [(13, .int (rI 1)), (12, .int (rI z1)), (11, .int (rI t0)), (0, .ref (rf_h v)), (3, .int (rI x3)), (7, .int (rI x7)), (10, .int (rI x10))]) hx hb dX12_alike_218 hl (by decide) rfl (fun ls hl => ?_)
  exact ps_alike_220 hR B 200000 σ x3 x7 x10 t0 z1 1 ix3 ix7 ix10 it0 iz1 ⟨by decide, by decide⟩ hf _ _ _ hw (lv_sub hl [3, 4, 5, 6, 2, 1, 0] rfl)

set_option maxHeartbeats 4000000 in
set_option maxRecDepth 100000 in
theorem ps_alike_204 {v : rfE} {p : Program} {l : Launch} {e : Env} {s : State} {m : MethodId} {args : Array Value} {below : List Frame} {meth : Method} {c : Code} {d : Nat} {rec : Nat → RS → List Int → Option (RS × Int)} {σ' : RS} {r : Int} (hR : rf_Rec l v d rec) (B : rf_B v p s m args meth c cX12_alike 14 (some .boolean)) : ∀ (σ : RS) (x3 x7 x10 : Int), inR x3 → inR x7 → inR x10 → pf_alike_204 rec σ x3 x7 x10 = some (σ', r) → ∀ (H : Heap) (locs : List Loc) (ls : Array Slot), rf_W v s σ H locs → lv_has ls 14 [(0, .ref (rf_h v)), (3, .int (rI x3)), (7, .int (rI x7)), (10, .int (rI x10))] → W p l e (rf_rm (d + 1)) s m args below meth c H locs 0 0 (MQ below (rf_Q v σ' (some (.int (rI r)))) args s 0 0 (rf_F v)) (F0 m 204 ls []) := by
  obtain ⟨hx, hb, hr, hml, hown, hts, hlk, hK, hD⟩ := id B
  intro σ x3 x7 x10 ix3 ix7 ix10 hf H locs ls hw hl
  unfold pf_alike_204 at hf
  refine lv_iconst (v := rI 1) hx hb dX12_alike_204 rfl ?_
  refine lv_goto (tgt := 209) hx hb dX12_alike_205 (by decide) ?_
  exact ps_alike_209 hR B σ x3 x7 x10 1 ix3 ix7 ix10 ⟨by decide, by decide⟩ hf _ _ _ hw (lv_sub hl [0, 1, 2, 3] rfl)

set_option maxHeartbeats 4000000 in
set_option maxRecDepth 100000 in
theorem ps_alike_208 {v : rfE} {p : Program} {l : Launch} {e : Env} {s : State} {m : MethodId} {args : Array Value} {below : List Frame} {meth : Method} {c : Code} {d : Nat} {rec : Nat → RS → List Int → Option (RS × Int)} {σ' : RS} {r : Int} (hR : rf_Rec l v d rec) (B : rf_B v p s m args meth c cX12_alike 14 (some .boolean)) : ∀ (σ : RS) (x3 x7 x10 : Int), inR x3 → inR x7 → inR x10 → pf_alike_208 rec σ x3 x7 x10 = some (σ', r) → ∀ (H : Heap) (locs : List Loc) (ls : Array Slot), rf_W v s σ H locs → lv_has ls 14 [(0, .ref (rf_h v)), (3, .int (rI x3)), (7, .int (rI x7)), (10, .int (rI x10))] → W p l e (rf_rm (d + 1)) s m args below meth c H locs 0 0 (MQ below (rf_Q v σ' (some (.int (rI r)))) args s 0 0 (rf_F v)) (F0 m 208 ls []) := by
  obtain ⟨hx, hb, hr, hml, hown, hts, hlk, hK, hD⟩ := id B
  intro σ x3 x7 x10 ix3 ix7 ix10 hf H locs ls hw hl
  unfold pf_alike_208 at hf
  refine lv_iconst (v := rI 0) hx hb dX12_alike_208 rfl ?_
  exact ps_alike_209 hR B σ x3 x7 x10 0 ix3 ix7 ix10 ⟨by decide, by decide⟩ hf _ _ _ hw (lv_sub hl [0, 1, 2, 3] rfl)

set_option maxHeartbeats 4000000 in
set_option maxRecDepth 100000 in
theorem ps_alike_188 {v : rfE} {p : Program} {l : Launch} {e : Env} {s : State} {m : MethodId} {args : Array Value} {below : List Frame} {meth : Method} {c : Code} {d : Nat} {rec : Nat → RS → List Int → Option (RS × Int)} {σ' : RS} {r : Int} (hR : rf_Rec l v d rec) (B : rf_B v p s m args meth c cX12_alike 14 (some .boolean)) : ∀ (σ : RS) (x1 x3 x5 x7 x10 : Int), inR x1 → inR x3 → inR x5 → inR x7 → inR x10 → pf_alike_188 rec σ x1 x3 x5 x7 x10 = some (σ', r) → ∀ (H : Heap) (locs : List Loc) (ls : Array Slot), rf_W v s σ H locs → lv_has ls 14 [(0, .ref (rf_h v)), (1, .int (rI x1)), (3, .int (rI x3)), (5, .int (rI x5)), (7, .int (rI x7)), (10, .int (rI x10))] → W p l e (rf_rm (d + 1)) s m args below meth c H locs 0 0 (MQ below (rf_Q v σ' (some (.int (rI r)))) args s 0 0 (rf_F v)) (F0 m 188 ls []) := by
  obtain ⟨hx, hb, hr, hml, hown, hts, hlk, hK, hD⟩ := id B
  intro σ x1 x3 x5 x7 x10 ix1 ix3 ix5 ix7 ix10 hf H locs ls hw hl
  unfold pf_alike_188 at hf
  refine lv_aload_n hx hb dX12_alike_188 rfl (lv_at hl 0 rfl) ?_
  refine rf_get (val := .ref (rf_ad v 31)) B hw 31 (by decide) lk_79 rfl dX12_alike_189 ?_
  refine lv_iload_n hx hb dX12_alike_192 rfl (lv_at hl 1 rfl) ?_
  obtain ⟨z1, ez1, iz1, rz1, hf⟩ := rf_rd_s hw hf
  refine rf_ald B hw ix1 rz1 ez1 dX12_alike_193 ?_
  refine lv_aload_n hx hb dX12_alike_194 rfl (lv_at hl 0 rfl) ?_
  refine rf_get (val := .ref (rf_ad v 31)) B hw 31 (by decide) lk_79 rfl dX12_alike_195 ?_
  refine lv_iload hx hb dX12_alike_198 (lv_at hl 3 rfl) ?_
  obtain ⟨z2, ez2, iz2, rz2, hf⟩ := rf_rd_s hw hf
  refine rf_ald B hw ix5 rz2 ez2 dX12_alike_200 ?_
  refine rn_icmp_ne (a := z1) (b := z2) (tgt := 208) hx hb iz1 iz2 dX12_alike_201 (by decide) (fun c3 => ?_) (fun c3 => ?_)
  · replace hf := rf_if_t hf c3
    exact ps_alike_208 hR B σ x3 x7 x10 ix3 ix7 ix10 hf _ _ _ hw (lv_sub hl [0, 2, 4, 5] rfl)
  · replace hf := rf_if_f hf c3
    exact ps_alike_204 hR B σ x3 x7 x10 ix3 ix7 ix10 hf _ _ _ hw (lv_sub hl [0, 2, 4, 5] rfl)

set_option maxHeartbeats 4000000 in
set_option maxRecDepth 100000 in
theorem ps_alike_131 {v : rfE} {p : Program} {l : Launch} {e : Env} {s : State} {m : MethodId} {args : Array Value} {below : List Frame} {meth : Method} {c : Code} {d : Nat} {rec : Nat → RS → List Int → Option (RS × Int)} {σ' : RS} {r : Int} (hR : rf_Rec l v d rec) (B : rf_B v p s m args meth c cX12_alike 14 (some .boolean)) : ∀ (σ : RS) (x1 x3 x4 x5 x7 x8 x9 : Int), inR x1 → inR x3 → inR x4 → inR x5 → inR x7 → inR x8 → inR x9 → pf_alike_131 rec σ x1 x3 x4 x5 x7 x8 x9 = some (σ', r) → ∀ (H : Heap) (locs : List Loc) (ls : Array Slot), rf_W v s σ H locs → lv_has ls 14 [(0, .ref (rf_h v)), (1, .int (rI x1)), (3, .int (rI x3)), (4, .int (rI x4)), (5, .int (rI x5)), (7, .int (rI x7)), (8, .int (rI x8)), (9, .int (rI x9))] → W p l e (rf_rm (d + 1)) s m args below meth c H locs 0 0 (MQ below (rf_Q v σ' (some (.int (rI r)))) args s 0 0 (rf_F v)) (F0 m 131 ls []) := by
  obtain ⟨hx, hb, hr, hml, hown, hts, hlk, hK, hD⟩ := id B
  intro σ x1 x3 x4 x5 x7 x8 x9 ix1 ix3 ix4 ix5 ix7 ix8 ix9 hf H locs ls hw hl
  unfold pf_alike_131 at hf
  refine lv_iload_n hx hb dX12_alike_131 rfl (lv_at hl 2 rfl) ?_
  refine lv_iload hx hb dX12_alike_132 (lv_at hl 3 rfl) ?_
  obtain ⟨z1, ez1, iz1, hf⟩ := rf_ck_s hf
  refine rn_sub hx hb ez1 dX12_alike_134 ?_
  refine lv_istore (lv' := [(10, .int (rI z1)), (0, .ref (rf_h v)), (1, .int (rI x1)), (3, .int (rI x3)), (4, .int (rI x4)), (5, .int (rI x5)), (7, .int (rI x7)), (8, .int (rI x8)), (9, .int (rI x9))]) hx hb dX12_alike_135 hl (by decide) rfl (fun ls hl => ?_)
  refine lv_iload hx hb dX12_alike_137 (lv_at hl 7 rfl) ?_
  refine lv_iload hx hb dX12_alike_139 (lv_at hl 8 rfl) ?_
  refine rn_icmp_ne (a := x8) (b := x9) (tgt := 208) hx hb ix8 ix9 dX12_alike_141 (by decide) (fun c2 => ?_) (fun c2 => ?_)
  · replace hf := rf_if_t hf c2
    exact ps_alike_208 hR B σ x3 x7 z1 ix3 ix7 iz1 hf _ _ _ hw (lv_sub hl [1, 3, 6, 0] rfl)
  · replace hf := rf_if_f hf c2
    refine lv_iload hx hb dX12_alike_144 (lv_at hl 0 rfl) ?_
    refine lv_aload_n hx hb dX12_alike_146 rfl (lv_at hl 1 rfl) ?_
    obtain ⟨z3, ez3, iz3, hf⟩ := rf_gi_s hw hf
    refine rf_geti B hw 51 (by decide) rfl lk_324 ez3 dX12_alike_147 ?_
    refine lv_iload_n hx hb dX12_alike_150 rfl (lv_at hl 3 rfl) ?_
    obtain ⟨z4, ez4, iz4, hf⟩ := rf_ck_s hf
    refine rn_sub hx hb ez4 dX12_alike_151 ?_
    refine rn_icmp_ne (a := z1) (b := z4) (tgt := 208) hx hb iz1 iz4 dX12_alike_152 (by decide) (fun c5 => ?_) (fun c5 => ?_)
    · replace hf := rf_if_t hf c5
      exact ps_alike_208 hR B σ x3 x7 z1 ix3 ix7 iz1 hf _ _ _ hw (lv_sub hl [1, 3, 6, 0] rfl)
    · replace hf := rf_if_f hf c5
      refine lv_iload hx hb dX12_alike_155 (lv_at hl 7 rfl) ?_
      refine lv_iconst (v := rI (-1)) hx hb dX12_alike_157 rfl ?_
      refine rn_icmp_ne (a := x8) (b := (-1)) (tgt := 170) hx hb ix8 ⟨by decide, by decide⟩ dX12_alike_158 (by decide) (fun c6 => ?_) (fun c6 => ?_)
      · replace hf := rf_if_t hf c6
        refine lv_iload hx hb dX12_alike_170 (lv_at hl 7 rfl) ?_
        refine lv_iconst (v := rI 1) hx hb dX12_alike_172 rfl ?_
        refine rn_icmp_eq (a := x8) (b := 1) (tgt := 188) hx hb ix8 ⟨by decide, by decide⟩ dX12_alike_173 (by decide) (fun c7 => ?_) (fun c7 => ?_)
        · replace hf := rf_if_t hf c7
          exact ps_alike_188 hR B σ x1 x3 x5 x7 z1 ix1 ix3 ix5 ix7 iz1 hf _ _ _ hw (lv_sub hl [1, 2, 3, 5, 6, 0] rfl)
        · replace hf := rf_if_f hf c7
          refine lv_iload hx hb dX12_alike_176 (lv_at hl 7 rfl) ?_
          refine lv_iconst (v := rI 2) hx hb dX12_alike_178 rfl ?_
          refine rn_icmp_eq (a := x8) (b := 2) (tgt := 188) hx hb ix8 ⟨by decide, by decide⟩ dX12_alike_179 (by decide) (fun c8 => ?_) (fun c8 => ?_)
          · replace hf := rf_if_t hf c8
            exact ps_alike_188 hR B σ x1 x3 x5 x7 z1 ix1 ix3 ix5 ix7 iz1 hf _ _ _ hw (lv_sub hl [1, 2, 3, 5, 6, 0] rfl)
          · replace hf := rf_if_f hf c8
            refine lv_iload hx hb dX12_alike_182 (lv_at hl 7 rfl) ?_
            refine lv_iconst (v := rI 3) hx hb dX12_alike_184 rfl ?_
            refine rn_icmp_ne (a := x8) (b := 3) (tgt := 208) hx hb ix8 ⟨by decide, by decide⟩ dX12_alike_185 (by decide) (fun c9 => ?_) (fun c9 => ?_)
            · replace hf := rf_if_t hf c9
              exact ps_alike_208 hR B σ x3 x7 z1 ix3 ix7 iz1 hf _ _ _ hw (lv_sub hl [1, 3, 6, 0] rfl)
            · replace hf := rf_if_f hf c9
              exact ps_alike_188 hR B σ x1 x3 x5 x7 z1 ix1 ix3 ix5 ix7 iz1 hf _ _ _ hw (lv_sub hl [1, 2, 3, 5, 6, 0] rfl)
      · replace hf := rf_if_f hf c6
        refine lv_iload_n hx hb dX12_alike_161 rfl (lv_at hl 2 rfl) ?_
        refine lv_iload hx hb dX12_alike_162 (lv_at hl 5 rfl) ?_
        refine rn_icmp_ne (a := x1) (b := x5) (tgt := 208) hx hb ix1 ix5 dX12_alike_164 (by decide) (fun c10 => ?_) (fun c10 => ?_)
        · replace hf := rf_if_t hf c10
          exact ps_alike_208 hR B σ x3 x7 z1 ix3 ix7 iz1 hf _ _ _ hw (lv_sub hl [1, 3, 6, 0] rfl)
        · replace hf := rf_if_f hf c10
          refine lv_goto (tgt := 204) hx hb dX12_alike_167 (by decide) ?_
          exact ps_alike_204 hR B σ x3 x7 z1 ix3 ix7 iz1 hf _ _ _ hw (lv_sub hl [1, 3, 6, 0] rfl)

set_option maxHeartbeats 4000000 in
set_option maxRecDepth 100000 in
theorem ps_alike_0 {v : rfE} {p : Program} {l : Launch} {e : Env} {s : State} {m : MethodId} {args : Array Value} {below : List Frame} {meth : Method} {c : Code} {d : Nat} {rec : Nat → RS → List Int → Option (RS × Int)} {σ' : RS} {r : Int} (hR : rf_Rec l v d rec) (B : rf_B v p s m args meth c cX12_alike 14 (some .boolean)) : ∀ (σ : RS) (x1 x2 x3 x4 x5 x6 x7 : Int), inR x1 → inR x2 → inR x3 → inR x4 → inR x5 → inR x6 → inR x7 → pf_alike_0 rec σ x1 x2 x3 x4 x5 x6 x7 = some (σ', r) → ∀ (H : Heap) (locs : List Loc) (ls : Array Slot), rf_W v s σ H locs → lv_has ls 14 [(0, .ref (rf_h v)), (1, .int (rI x1)), (2, .int (rI x2)), (3, .int (rI x3)), (4, .int (rI x4)), (5, .int (rI x5)), (6, .int (rI x6)), (7, .int (rI x7))] → W p l e (rf_rm (d + 1)) s m args below meth c H locs 0 0 (MQ below (rf_Q v σ' (some (.int (rI r)))) args s 0 0 (rf_F v)) (F0 m 0 ls []) := by
  obtain ⟨hx, hb, hr, hml, hown, hts, hlk, hK, hD⟩ := id B
  intro σ x1 x2 x3 x4 x5 x6 x7 ix1 ix2 ix3 ix4 ix5 ix6 ix7 hf H locs ls hw hl
  unfold pf_alike_0 at hf
  refine lv_aload_n hx hb dX12_alike_0 rfl (lv_at hl 0 rfl) ?_
  refine lv_iload_n hx hb dX12_alike_1 rfl (lv_at hl 1 rfl) ?_
  obtain ⟨σ1, z2, hσ1, hf⟩ := rf_cl_s hf
  obtain ⟨iz2, mσ1⟩ := hR 33 σ [x1] σ1 z2 hσ1
  have mσ1 : rf_Met l v yX12_kindOf cX12_kindOf 2 (some .int) d [.ref (rf_h v), .int (rI x1)] σ σ1 (some (.int (rI z2))) := mσ1 ix1
  refine rf_cv (n := 1) (rest := []) (As := [.int (rI x1)]) B mσ1 g_363_kindOf (by decide +kernel) (by decide) rfl hl.1 (Nat.le_of_ble_eq_true rfl) dX12_alike_2 rfl hw (fun H locs hw => ?_)
  refine lv_istore (lv' := [(8, .int (rI z2)), (0, .ref (rf_h v)), (1, .int (rI x1)), (2, .int (rI x2)), (3, .int (rI x3)), (4, .int (rI x4)), (5, .int (rI x5)), (6, .int (rI x6)), (7, .int (rI x7))]) hx hb dX12_alike_5 hl (by decide) rfl (fun ls hl => ?_)
  refine lv_aload_n hx hb dX12_alike_7 rfl (lv_at hl 1 rfl) ?_
  refine lv_iload hx hb dX12_alike_8 (lv_at hl 6 rfl) ?_
  obtain ⟨σ3, z4, hσ3, hf⟩ := rf_cl_s hf
  obtain ⟨iz4, mσ3⟩ := hR 33 σ1 [x5] σ3 z4 hσ3
  have mσ3 : rf_Met l v yX12_kindOf cX12_kindOf 2 (some .int) d [.ref (rf_h v), .int (rI x5)] σ1 σ3 (some (.int (rI z4))) := mσ3 ix5
  refine rf_cv (n := 1) (rest := []) (As := [.int (rI x5)]) B mσ3 g_363_kindOf (by decide +kernel) (by decide) rfl hl.1 (Nat.le_of_ble_eq_true rfl) dX12_alike_10 rfl hw (fun H locs hw => ?_)
  refine lv_istore (lv' := [(9, .int (rI z4)), (8, .int (rI z2)), (0, .ref (rf_h v)), (1, .int (rI x1)), (2, .int (rI x2)), (3, .int (rI x3)), (4, .int (rI x4)), (5, .int (rI x5)), (6, .int (rI x6)), (7, .int (rI x7))]) hx hb dX12_alike_13 hl (by decide) rfl (fun ls hl => ?_)
  refine lv_iload hx hb dX12_alike_15 (lv_at hl 1 rfl) ?_
  refine lv_iload hx hb dX12_alike_17 (lv_at hl 0 rfl) ?_
  refine rn_icmp_ne (a := z2) (b := z4) (tgt := 131) hx hb iz2 iz4 dX12_alike_19 (by decide) (fun c5 => ?_) (fun c5 => ?_)
  · replace hf := rf_if_t hf c5
    exact ps_alike_131 hR B σ3 x1 x3 x4 x5 x7 z2 z4 ix1 ix3 ix4 ix5 ix7 iz2 iz4 hf _ _ _ hw (lv_sub hl [2, 3, 5, 6, 7, 9, 1, 0] rfl)
  · replace hf := rf_if_f hf c5
    refine lv_iload hx hb dX12_alike_22 (lv_at hl 1 rfl) ?_
    refine lv_iconst (v := rI 4) hx hb dX12_alike_24 rfl ?_
    refine rn_icmp_eq (a := z2) (b := 4) (tgt := 34) hx hb iz2 ⟨by decide, by decide⟩ dX12_alike_25 (by decide) (fun c6 => ?_) (fun c6 => ?_)
    · replace hf := rf_if_t hf c6
      exact ps_alike_34 hR B σ3 x1 x2 x5 x6 x7 ix1 ix2 ix5 ix6 ix7 hf _ _ _ hw (lv_sub hl [2, 3, 4, 7, 8, 9] rfl)
    · replace hf := rf_if_f hf c6
      refine lv_iload hx hb dX12_alike_28 (lv_at hl 1 rfl) ?_
      refine lv_iconst (v := rI 5) hx hb dX12_alike_30 rfl ?_
      refine rn_icmp_ne (a := z2) (b := 5) (tgt := 131) hx hb iz2 ⟨by decide, by decide⟩ dX12_alike_31 (by decide) (fun c7 => ?_) (fun c7 => ?_)
      · replace hf := rf_if_t hf c7
        exact ps_alike_131 hR B σ3 x1 x3 x4 x5 x7 z2 z4 ix1 ix3 ix4 ix5 ix7 iz2 iz4 hf _ _ _ hw (lv_sub hl [2, 3, 5, 6, 7, 9, 1, 0] rfl)
      · replace hf := rf_if_f hf c7
        exact ps_alike_34 hR B σ3 x1 x2 x5 x6 x7 ix1 ix2 ix5 ix6 ix7 hf _ _ _ hw (lv_sub hl [2, 3, 4, 7, 8, 9] rfl)

set_option maxHeartbeats 4000000 in
set_option maxRecDepth 100000 in
theorem pm_alike {v : rfE} (hD : rf_D v) {l : Launch} {d : Nat} {rec : Nat → RS → List Int → Option (RS × Int)} (hR : rf_Rec l v d rec) (σ σ' : RS) (x1 x2 x3 x4 x5 x6 x7 r : Int) (ix1 : inR x1) (ix2 : inR x2) (ix3 : inR x3) (ix4 : inR x4) (ix5 : inR x5) (ix6 : inR x6) (ix7 : inR x7) (hf : pf_alike_0 rec σ x1 x2 x3 x4 x5 x6 x7 = some (σ', r)) : rf_Met l v yX12_alike cX12_alike 14 (some .boolean) (d + 1) [.ref (rf_h v), .int (rI x1), .int (rI x2), .int (rI x3), .int (rI x4), .int (rI x5), .int (rI x6), .int (rI x7)] σ σ' (some (.int (rI r))) := by
  refine Met.ofW (cc := cX12_alike) (maxL := 14) (ret := (some .boolean)) (by decide +kernel) rfl ?_
  intro p e s m args below meth c s₁ B hml hv
  obtain ⟨rfl, hM, hK⟩ := hv
  have hts := atoms_spec (ws := Cond.code yX12_alike cX12_alike 14 (some .boolean) :: rf_bw) B.pre
  have hB : rf_B v p s m _ meth c cX12_alike 14 (some .boolean) := ⟨B.exec, B.bytes, B.returns, hml, findClass_of_methodNamed B.named, fun w h => hts w (List.mem_cons_of_mem _ h), B.notSynchronized, hK, hD⟩
  have hl := lv_entry ([.ref (rf_h v), .int (rI x1), .int (rI x2), .int (rI x3), .int (rI x4), .int (rI x5), .int (rI x6), .int (rI x7)]) (n := 14) (Nat.le_of_ble_eq_true rfl)
  rw [lg_entry_eq]
  generalize (lg_sl ([.ref (rf_h v), .int (rI x1), .int (rI x2), .int (rI x3), .int (rI x4), .int (rI x5), .int (rI x6), .int (rI x7)]) ++ List.replicate (14 - (lg_sl ([.ref (rf_h v), .int (rI x1), .int (rI x2), .int (rI x3), .int (rI x4), .int (rI x5), .int (rI x6), .int (rI x7)])).length) Slot.unset).toArray = ls at hl ⊢
  exact ps_alike_0 hR hB σ x1 x2 x3 x4 x5 x6 x7 ix1 ix2 ix3 ix4 ix5 ix6 ix7 hf _ _ _ ⟨hM, rfl, fun _ _ => rfl, fun q h => by cases h⟩ (lv_sub hl [0, 1, 2, 3, 4, 5, 6, 7] rfl)

set_option maxHeartbeats 4000000 in
set_option maxRecDepth 100000 in
theorem ps_put_20 {v : rfE} {p : Program} {l : Launch} {e : Env} {s : State} {m : MethodId} {args : Array Value} {below : List Frame} {meth : Method} {c : Code} {d : Nat} {rec : Nat → RS → List Int → Option (RS × Int)} {σ' : RS} {r : Int} (hR : rf_Rec l v d rec) (B : rf_B v p s m args meth c cX12_put 2 none) : ∀ (σ : RS), pf_put_20 rec σ = some (σ', r) → ∀ (H : Heap) (locs : List Loc) (ls : Array Slot), rf_W v s σ H locs → lv_has ls 2 [(0, .ref (rf_h v))] → W p l e (rf_rm (d + 1)) s m args below meth c H locs 0 0 (MQ below (rf_Q v σ' none) args s 0 0 (rf_F v)) (F0 m 20 ls []) := by
  obtain ⟨hx, hb, hr, hml, hown, hts, hlk, hK, hD⟩ := id B
  intro σ hf H locs ls hw hl
  unfold pf_put_20 at hf
  refine lv_aload_n hx hb dX12_put_20 rfl (lv_at hl 0 rfl) ?_
  refine lv_dup hx hb dX12_put_21 rfl ?_
  obtain ⟨z1, ez1, iz1, hf⟩ := rf_gi_s hw hf
  refine rf_geti B hw 75 (by decide) rfl lk_378 ez1 dX12_put_22 ?_
  refine lv_iconst (v := rI 1) hx hb dX12_put_25 rfl ?_
  obtain ⟨z2, ez2, iz2, hf⟩ := rf_ck_s hf
  refine rn_add hx hb ez2 dX12_put_26 ?_
  obtain ⟨σ3, eσ3, hf⟩ := rf_pi_s hf
  refine rf_put B hw 75 (by decide) rfl rfl lk_378 iz2 eσ3 rfl rfl dX12_put_27 (fun H locs hw => ?_)
  exact rf_retv B hf hw dX12_put_30

set_option maxHeartbeats 4000000 in
set_option maxRecDepth 100000 in
theorem ps_put_0 {v : rfE} {p : Program} {l : Launch} {e : Env} {s : State} {m : MethodId} {args : Array Value} {below : List Frame} {meth : Method} {c : Code} {d : Nat} {rec : Nat → RS → List Int → Option (RS × Int)} {σ' : RS} {r : Int} (hR : rf_Rec l v d rec) (B : rf_B v p s m args meth c cX12_put 2 none) : ∀ (σ : RS) (x1 : Int), inR x1 → pf_put_0 rec σ x1 = some (σ', r) → ∀ (H : Heap) (locs : List Loc) (ls : Array Slot), rf_W v s σ H locs → lv_has ls 2 [(0, .ref (rf_h v)), (1, .int (rI x1))] → W p l e (rf_rm (d + 1)) s m args below meth c H locs 0 0 (MQ below (rf_Q v σ' none) args s 0 0 (rf_F v)) (F0 m 0 ls []) := by
  obtain ⟨hx, hb, hr, hml, hown, hts, hlk, hK, hD⟩ := id B
  intro σ x1 ix1 hf H locs ls hw hl
  unfold pf_put_0 at hf
  refine lv_aload_n hx hb dX12_put_0 rfl (lv_at hl 0 rfl) ?_
  obtain ⟨z1, ez1, iz1, hf⟩ := rf_gi_s hw hf
  refine rf_geti B hw 75 (by decide) rfl lk_378 ez1 dX12_put_1 ?_
  refine lv_sipush (v := rI 3000) hx hb dX12_put_4 (by decide +kernel) ?_
  refine rn_icmp_ge (a := z1) (b := 3000) (tgt := 20) hx hb iz1 ⟨by decide, by decide⟩ dX12_put_7 (by decide) (fun c2 => ?_) (fun c2 => ?_)
  · replace hf := rf_if_t hf c2
    exact ps_put_20 hR B σ hf _ _ _ hw (lv_sub hl [0] rfl)
  · replace hf := rf_if_f hf c2
    refine lv_aload_n hx hb dX12_put_10 rfl (lv_at hl 0 rfl) ?_
    refine rf_get (val := .ref (rf_ad v 74)) B hw 74 (by decide) lk_140 rfl dX12_put_11 ?_
    refine lv_aload_n hx hb dX12_put_14 rfl (lv_at hl 0 rfl) ?_
    obtain ⟨z3, ez3, iz3, hf⟩ := rf_gi_s hw hf
    refine rf_geti B hw 75 (by decide) rfl lk_378 ez3 dX12_put_15 ?_
    refine lv_iload_n hx hb dX12_put_18 rfl (lv_at hl 1 rfl) ?_
    obtain ⟨σ4, eσ4, rσ4, hf⟩ := rf_wr_s hf
    refine rf_ast B hw iz3 ix1 rσ4 eσ4 dX12_put_19 (fun H locs hw => ?_)
    exact ps_put_20 hR B σ4 hf _ _ _ hw (lv_sub hl [0] rfl)

set_option maxHeartbeats 4000000 in
set_option maxRecDepth 100000 in
theorem pm_put {v : rfE} (hD : rf_D v) {l : Launch} {d : Nat} {rec : Nat → RS → List Int → Option (RS × Int)} (hR : rf_Rec l v d rec) (σ σ' : RS) (x1 r : Int) (ix1 : inR x1) (hf : pf_put_0 rec σ x1 = some (σ', r)) : rf_Met l v yX12_put cX12_put 2 none (d + 1) [.ref (rf_h v), .int (rI x1)] σ σ' none := by
  refine Met.ofW (cc := cX12_put) (maxL := 2) (ret := none) (by decide +kernel) rfl ?_
  intro p e s m args below meth c s₁ B hml hv
  obtain ⟨rfl, hM, hK⟩ := hv
  have hts := atoms_spec (ws := Cond.code yX12_put cX12_put 2 none :: rf_bw) B.pre
  have hB : rf_B v p s m _ meth c cX12_put 2 none := ⟨B.exec, B.bytes, B.returns, hml, findClass_of_methodNamed B.named, fun w h => hts w (List.mem_cons_of_mem _ h), B.notSynchronized, hK, hD⟩
  have hl := lv_entry ([.ref (rf_h v), .int (rI x1)]) (n := 2) (Nat.le_of_ble_eq_true rfl)
  rw [lg_entry_eq]
  generalize (lg_sl ([.ref (rf_h v), .int (rI x1)]) ++ List.replicate (2 - (lg_sl ([.ref (rf_h v), .int (rI x1)])).length) Slot.unset).toArray = ls at hl ⊢
  exact ps_put_0 hR hB σ x1 ix1 hf _ _ _ ⟨hM, rfl, fun _ _ => rfl, fun q h => by cases h⟩ (lv_sub hl [0, 1] rfl)

set_option maxHeartbeats 4000000 in
set_option maxRecDepth 100000 in
theorem ps_number_14 {v : rfE} {p : Program} {l : Launch} {e : Env} {s : State} {m : MethodId} {args : Array Value} {below : List Frame} {meth : Method} {c : Code} {d : Nat} {rec : Nat → RS → List Int → Option (RS × Int)} {σ' : RS} {r : Int} (hR : rf_Rec l v d rec) (B : rf_B v p s m args meth c cX12_number 2 none) : ∀ (σ : RS) (x1 : Int), inR x1 → pf_number_14 rec σ x1 = some (σ', r) → ∀ (H : Heap) (locs : List Loc) (ls : Array Slot), rf_W v s σ H locs → lv_has ls 2 [(0, .ref (rf_h v)), (1, .int (rI x1))] → W p l e (rf_rm (d + 1)) s m args below meth c H locs 0 0 (MQ below (rf_Q v σ' none) args s 0 0 (rf_F v)) (F0 m 14 ls []) := by
  obtain ⟨hx, hb, hr, hml, hown, hts, hlk, hK, hD⟩ := id B
  intro σ x1 ix1 hf H locs ls hw hl
  unfold pf_number_14 at hf
  refine lv_aload_n hx hb dX12_number_14 rfl (lv_at hl 0 rfl) ?_
  refine lv_bipush (v := rI 48) hx hb dX12_number_15 (by decide +kernel) ?_
  refine lv_iload_n hx hb dX12_number_17 rfl (lv_at hl 1 rfl) ?_
  refine lv_bipush (v := rI 10) hx hb dX12_number_18 (by decide +kernel) ?_
  obtain ⟨z1, ez1, iz1, hf⟩ := rf_nm_s hf
  refine lv_irem hx hb dX12_number_20 (by decide) ?_
  refine rn_top ez1 ?_
  obtain ⟨z2, ez2, iz2, hf⟩ := rf_ck_s hf
  refine rn_add hx hb ez2 dX12_number_21 ?_
  obtain ⟨σ3, z4, hσ3, hf⟩ := rf_cl_s hf
  obtain ⟨iz4, mσ3⟩ := hR 37 σ [z2] σ3 z4 hσ3
  have mσ3 : rf_Met l v yX12_put cX12_put 2 none d [.ref (rf_h v), .int (rI z2)] σ σ3 none := mσ3 iz2
  refine rf_cv (n := 1) (rest := []) (As := [.int (rI z2)]) B mσ3 g_384_put (by decide +kernel) (by decide) rfl hl.1 (Nat.le_of_ble_eq_true rfl) dX12_number_22 rfl hw (fun H locs hw => ?_)
  exact rf_retv B hf hw dX12_number_25

set_option maxHeartbeats 4000000 in
set_option maxRecDepth 100000 in
theorem ps_number_0 {v : rfE} {p : Program} {l : Launch} {e : Env} {s : State} {m : MethodId} {args : Array Value} {below : List Frame} {meth : Method} {c : Code} {d : Nat} {rec : Nat → RS → List Int → Option (RS × Int)} {σ' : RS} {r : Int} (hR : rf_Rec l v d rec) (B : rf_B v p s m args meth c cX12_number 2 none) : ∀ (σ : RS) (x1 : Int), inR x1 → pf_number_0 rec σ x1 = some (σ', r) → ∀ (H : Heap) (locs : List Loc) (ls : Array Slot), rf_W v s σ H locs → lv_has ls 2 [(0, .ref (rf_h v)), (1, .int (rI x1))] → W p l e (rf_rm (d + 1)) s m args below meth c H locs 0 0 (MQ below (rf_Q v σ' none) args s 0 0 (rf_F v)) (F0 m 0 ls []) := by
  obtain ⟨hx, hb, hr, hml, hown, hts, hlk, hK, hD⟩ := id B
  intro σ x1 ix1 hf H locs ls hw hl
  unfold pf_number_0 at hf
  refine lv_iload_n hx hb dX12_number_0 rfl (lv_at hl 1 rfl) ?_
  refine lv_bipush (v := rI 9) hx hb dX12_number_1 (by decide +kernel) ?_
  refine rn_icmp_le (a := x1) (b := 9) (tgt := 14) hx hb ix1 ⟨by decide, by decide⟩ dX12_number_3 (by decide) (fun c1 => ?_) (fun c1 => ?_)
  · replace hf := rf_if_t hf c1
    exact ps_number_14 hR B σ x1 ix1 hf _ _ _ hw (lv_sub hl [0, 1] rfl)
  · replace hf := rf_if_f hf c1
    refine lv_aload_n hx hb dX12_number_6 rfl (lv_at hl 0 rfl) ?_
    refine lv_iload_n hx hb dX12_number_7 rfl (lv_at hl 1 rfl) ?_
    refine lv_bipush (v := rI 10) hx hb dX12_number_8 (by decide +kernel) ?_
    obtain ⟨z2, ez2, iz2, hf⟩ := rf_nm_s hf
    refine lv_idiv hx hb dX12_number_10 (by decide) ?_
    refine rn_top ez2 ?_
    obtain ⟨σ3, z4, hσ3, hf⟩ := rf_cl_s hf
    obtain ⟨iz4, mσ3⟩ := hR 38 σ [z2] σ3 z4 hσ3
    have mσ3 : rf_Met l v yX12_number cX12_number 2 none d [.ref (rf_h v), .int (rI z2)] σ σ3 none := mσ3 iz2
    refine rf_cv (n := 1) (rest := []) (As := [.int (rI z2)]) B mσ3 g_381_number (by decide +kernel) (by decide) rfl hl.1 (Nat.le_of_ble_eq_true rfl) dX12_number_11 rfl hw (fun H locs hw => ?_)
    exact ps_number_14 hR B σ3 x1 ix1 hf _ _ _ hw (lv_sub hl [0, 1] rfl)

set_option maxHeartbeats 4000000 in
set_option maxRecDepth 100000 in
theorem pm_number {v : rfE} (hD : rf_D v) {l : Launch} {d : Nat} {rec : Nat → RS → List Int → Option (RS × Int)} (hR : rf_Rec l v d rec) (σ σ' : RS) (x1 r : Int) (ix1 : inR x1) (hf : pf_number_0 rec σ x1 = some (σ', r)) : rf_Met l v yX12_number cX12_number 2 none (d + 1) [.ref (rf_h v), .int (rI x1)] σ σ' none := by
  refine Met.ofW (cc := cX12_number) (maxL := 2) (ret := none) (by decide +kernel) rfl ?_
  intro p e s m args below meth c s₁ B hml hv
  obtain ⟨rfl, hM, hK⟩ := hv
  have hts := atoms_spec (ws := Cond.code yX12_number cX12_number 2 none :: rf_bw) B.pre
  have hB : rf_B v p s m _ meth c cX12_number 2 none := ⟨B.exec, B.bytes, B.returns, hml, findClass_of_methodNamed B.named, fun w h => hts w (List.mem_cons_of_mem _ h), B.notSynchronized, hK, hD⟩
  have hl := lv_entry ([.ref (rf_h v), .int (rI x1)]) (n := 2) (Nat.le_of_ble_eq_true rfl)
  rw [lg_entry_eq]
  generalize (lg_sl ([.ref (rf_h v), .int (rI x1)]) ++ List.replicate (2 - (lg_sl ([.ref (rf_h v), .int (rI x1)])).length) Slot.unset).toArray = ls at hl ⊢
  exact ps_number_0 hR hB σ x1 ix1 hf _ _ _ ⟨hM, rfl, fun _ _ => rfl, fun q h => by cases h⟩ (lv_sub hl [0, 1] rfl)

set_option maxHeartbeats 4000000 in
set_option maxRecDepth 100000 in
theorem ps_putWord_3 {v : rfE} {p : Program} {l : Launch} {e : Env} {s : State} {m : MethodId} {args : Array Value} {below : List Frame} {meth : Method} {c : Code} {d : Nat} {rec : Nat → RS → List Int → Option (RS × Int)} {σ' : RS} {r : Int} (hR : rf_Rec l v d rec) (B : rf_B v p s m args meth c cX12_putWord 5 none) (b2 : Int) : ∀ (n : Nat) (σ : RS) (x1 x3 x4 : Int), inR x1 → inR x3 → inR x4 → pf_putWord_3 rec b2 n σ x1 x3 x4 = some (σ', r) → ∀ (H : Heap) (locs : List Loc) (ls : Array Slot), rf_W v s σ H locs → lv_has ls 5 [(0, .ref (rf_h v)), (2, .ref (rf_ad v (Int.toNat b2))), (1, .int (rI x1)), (3, .int (rI x3)), (4, .int (rI x4))] → W p l e (rf_rm (d + 1)) s m args below meth c H locs 0 0 (MQ below (rf_Q v σ' none) args s 0 0 (rf_F v)) (F0 m 3 ls []) := by
  obtain ⟨hx, hb, hr, hml, hown, hts, hlk, hK, hD⟩ := id B
  intro n
  induction n with
  | zero => intro σ x1 x3 x4 ix1 ix3 ix4 hf; cases hf
  | succ n ih =>
    intro σ x1 x3 x4 ix1 ix3 ix4 hf H locs ls hw hl
    unfold pf_putWord_3 at hf
    refine lv_iload hx hb dX12_putWord_3 (lv_at hl 4 rfl) ?_
    refine lv_iload_n hx hb dX12_putWord_5 rfl (lv_at hl 3 rfl) ?_
    refine rn_icmp_ge (a := x4) (b := x3) (tgt := 25) hx hb ix4 ix3 dX12_putWord_6 (by decide) (fun c1 => ?_) (fun c1 => ?_)
    · replace hf := rf_if_t hf c1
      exact rf_retv B hf hw dX12_putWord_25
    · replace hf := rf_if_f hf c1
      refine lv_aload_n hx hb dX12_putWord_9 rfl (lv_at hl 0 rfl) ?_
      refine lv_aload_n hx hb dX12_putWord_10 rfl (lv_at hl 1 rfl) ?_
      refine lv_iload_n hx hb dX12_putWord_11 rfl (lv_at hl 2 rfl) ?_
      refine lv_iload hx hb dX12_putWord_12 (lv_at hl 4 rfl) ?_
      obtain ⟨z2, ez2, iz2, hf⟩ := rf_ck_s hf
      refine rn_add hx hb ez2 dX12_putWord_14 ?_
      obtain ⟨z3, ez3, iz3, rz3, hf⟩ := rf_rd_s hw hf
      refine rf_ald B hw iz2 rz3 ez3 dX12_putWord_15 ?_
      obtain ⟨σ4, z5, hσ4, hf⟩ := rf_cl_s hf
      obtain ⟨iz5, mσ4⟩ := hR 37 σ [z3] σ4 z5 hσ4
      have mσ4 : rf_Met l v yX12_put cX12_put 2 none d [.ref (rf_h v), .int (rI z3)] σ σ4 none := mσ4 iz3
      refine rf_cv (n := 1) (rest := []) (As := [.int (rI z3)]) B mσ4 g_384_put (by decide +kernel) (by decide) rfl hl.1 (Nat.le_of_ble_eq_true rfl) dX12_putWord_16 rfl hw (fun H locs hw => ?_)
      obtain ⟨z6, ez6, iz6, hf⟩ := rf_ck_s hf
      refine lv_iinc (v := rI z6) (lv' := [(4, .int (rI z6)), (0, .ref (rf_h v)), (2, .ref (rf_ad v (Int.toNat b2))), (1, .int (rI x1)), (3, .int (rI x3))]) hx hb dX12_putWord_19 hl (k := 4) rfl (by rw [ez6]; exact rI_add _ _) (by decide) rfl (fun ls hl => ?_)
      refine lv_goto (tgt := 3) hx hb dX12_putWord_22 (by decide) ?_
      exact ih σ4 x1 x3 z6 ix1 ix3 iz6 hf _ _ _ hw (lv_sub hl [1, 2, 3, 4, 0] rfl)

set_option maxHeartbeats 4000000 in
set_option maxRecDepth 100000 in
theorem ps_putWord_0 {v : rfE} {p : Program} {l : Launch} {e : Env} {s : State} {m : MethodId} {args : Array Value} {below : List Frame} {meth : Method} {c : Code} {d : Nat} {rec : Nat → RS → List Int → Option (RS × Int)} {σ' : RS} {r : Int} (hR : rf_Rec l v d rec) (B : rf_B v p s m args meth c cX12_putWord 5 none) (b2 : Int) : ∀ (σ : RS) (x1 x3 : Int), inR x1 → inR x3 → pf_putWord_0 rec b2 σ x1 x3 = some (σ', r) → ∀ (H : Heap) (locs : List Loc) (ls : Array Slot), rf_W v s σ H locs → lv_has ls 5 [(0, .ref (rf_h v)), (2, .ref (rf_ad v (Int.toNat b2))), (1, .int (rI x1)), (3, .int (rI x3))] → W p l e (rf_rm (d + 1)) s m args below meth c H locs 0 0 (MQ below (rf_Q v σ' none) args s 0 0 (rf_F v)) (F0 m 0 ls []) := by
  obtain ⟨hx, hb, hr, hml, hown, hts, hlk, hK, hD⟩ := id B
  intro σ x1 x3 ix1 ix3 hf H locs ls hw hl
  unfold pf_putWord_0 at hf
  refine lv_iconst (v := rI 0) hx hb dX12_putWord_0 rfl ?_
  refine lv_istore (lv' := [(4, .int (rI 0)), (0, .ref (rf_h v)), (2, .ref (rf_ad v (Int.toNat b2))), (1, .int (rI x1)), (3, .int (rI x3))]) hx hb dX12_putWord_1 hl (by decide) rfl (fun ls hl => ?_)
  exact ps_putWord_3 hR B b2 200000 σ x1 x3 0 ix1 ix3 ⟨by decide, by decide⟩ hf _ _ _ hw (lv_sub hl [1, 2, 3, 4, 0] rfl)

set_option maxHeartbeats 4000000 in
set_option maxRecDepth 100000 in
theorem pm_putWord {v : rfE} (hD : rf_D v) {l : Launch} {d : Nat} {rec : Nat → RS → List Int → Option (RS × Int)} (hR : rf_Rec l v d rec) (σ σ' : RS) (x1 b2 x3 r : Int) (ix1 : inR x1) (ix3 : inR x3) (hf : pf_putWord_0 rec b2 σ x1 x3 = some (σ', r)) : rf_Met l v yX12_putWord cX12_putWord 5 none (d + 1) [.ref (rf_h v), .int (rI x1), .ref (rf_ad v (Int.toNat b2)), .int (rI x3)] σ σ' none := by
  refine Met.ofW (cc := cX12_putWord) (maxL := 5) (ret := none) (by decide +kernel) rfl ?_
  intro p e s m args below meth c s₁ B hml hv
  obtain ⟨rfl, hM, hK⟩ := hv
  have hts := atoms_spec (ws := Cond.code yX12_putWord cX12_putWord 5 none :: rf_bw) B.pre
  have hB : rf_B v p s m _ meth c cX12_putWord 5 none := ⟨B.exec, B.bytes, B.returns, hml, findClass_of_methodNamed B.named, fun w h => hts w (List.mem_cons_of_mem _ h), B.notSynchronized, hK, hD⟩
  have hl := lv_entry ([.ref (rf_h v), .int (rI x1), .ref (rf_ad v (Int.toNat b2)), .int (rI x3)]) (n := 5) (Nat.le_of_ble_eq_true rfl)
  rw [lg_entry_eq]
  generalize (lg_sl ([.ref (rf_h v), .int (rI x1), .ref (rf_ad v (Int.toNat b2)), .int (rI x3)]) ++ List.replicate (5 - (lg_sl ([.ref (rf_h v), .int (rI x1), .ref (rf_ad v (Int.toNat b2)), .int (rI x3)])).length) Slot.unset).toArray = ls at hl ⊢
  exact ps_putWord_0 hR hB b2 σ x1 x3 ix1 ix3 hf _ _ _ ⟨hM, rfl, fun _ _ => rfl, fun q h => by cases h⟩ (lv_sub hl [0, 2, 1, 3] rfl)

set_option maxHeartbeats 4000000 in
set_option maxRecDepth 100000 in
theorem ps_tell_382 {v : rfE} {p : Program} {l : Launch} {e : Env} {s : State} {m : MethodId} {args : Array Value} {below : List Frame} {meth : Method} {c : Code} {d : Nat} {rec : Nat → RS → List Int → Option (RS × Int)} {σ' : RS} {r : Int} (hR : rf_Rec l v d rec) (B : rf_B v p s m args meth c cX12_tell 14 none) : ∀ (σ : RS) (x6 x11 : Int), inR x6 → inR x11 → pf_tell_382 rec σ x6 x11 = some (σ', r) → ∀ (H : Heap) (locs : List Loc) (ls : Array Slot), rf_W v s σ H locs → lv_has ls 14 [(0, .ref (rf_h v)), (6, .int (rI x6)), (11, .int (rI x11))] → W p l e (rf_rm (d + 1)) s m args below meth c H locs 0 0 (MQ below (rf_Q v σ' none) args s 0 0 (rf_F v)) (F0 m 382 ls []) := by
  obtain ⟨hx, hb, hr, hml, hown, hts, hlk, hK, hD⟩ := id B
  intro σ x6 x11 ix6 ix11 hf H locs ls hw hl
  unfold pf_tell_382 at hf
  refine lv_aload_n hx hb dX12_tell_382 rfl (lv_at hl 0 rfl) ?_
  obtain ⟨z1, ez1, iz1, hf⟩ := rf_gi_s hw hf
  refine rf_geti B hw 72 (by decide) rfl lk_150 ez1 dX12_tell_383 ?_
  refine rn_if_eq (a := z1) (tgt := 390) hx hb iz1 dX12_tell_386 (by decide) (fun c2 => ?_) (fun c2 => ?_)
  · replace hf := rf_if_t hf c2
    refine lv_aload_n hx hb dX12_tell_390 rfl (lv_at hl 0 rfl) ?_
    refine lv_iload hx hb dX12_tell_391 (lv_at hl 1 rfl) ?_
    obtain ⟨σ3, eσ3, hf⟩ := rf_pi_s hf
    refine rf_put B hw 51 (by decide) rfl rfl lk_324 ix6 eσ3 rfl rfl dX12_tell_393 (fun H locs hw => ?_)
    refine lv_iload hx hb dX12_tell_396 (lv_at hl 2 rfl) ?_
    refine rn_if_eq (a := x11) (tgt := 407) hx hb ix11 dX12_tell_398 (by decide) (fun c4 => ?_) (fun c4 => ?_)
    · replace hf := rf_if_t hf c4
      exact rf_retv B hf hw dX12_tell_407
    · replace hf := rf_if_f hf c4
      refine lv_aload_n hx hb dX12_tell_401 rfl (lv_at hl 0 rfl) ?_
      refine lv_bipush (v := rI 41) hx hb dX12_tell_402 (by decide +kernel) ?_
      obtain ⟨σ5, z6, hσ5, hf⟩ := rf_cl_s hf
      obtain ⟨iz6, mσ5⟩ := hR 37 σ3 [41] σ5 z6 hσ5
      have mσ5 : rf_Met l v yX12_put cX12_put 2 none d [.ref (rf_h v), .int (rI 41)] σ3 σ5 none := mσ5 ⟨by decide, by decide⟩
      refine rf_cv (n := 1) (rest := []) (As := [.int (rI 41)]) B mσ5 g_384_put (by decide +kernel) (by decide) rfl hl.1 (Nat.le_of_ble_eq_true rfl) dX12_tell_404 rfl hw (fun H locs hw => ?_)
      exact rf_retv B hf hw dX12_tell_407
  · replace hf := rf_if_f hf c2
    exact rf_retv B hf hw dX12_tell_389

set_option maxHeartbeats 4000000 in
set_option maxRecDepth 100000 in
theorem ps_tell_130 {v : rfE} {p : Program} {l : Launch} {e : Env} {s : State} {m : MethodId} {args : Array Value} {below : List Frame} {meth : Method} {c : Code} {d : Nat} {rec : Nat → RS → List Int → Option (RS × Int)} {σ' : RS} {r : Int} (hR : rf_Rec l v d rec) (B : rf_B v p s m args meth c cX12_tell 14 none) : ∀ (σ : RS) (x3 x4 x6 x7 x8 x11 t0 : Int), inR x3 → inR x4 → inR x6 → inR x7 → inR x8 → inR x11 → inR t0 → pf_tell_130 rec σ x3 x4 x6 x7 x8 x11 t0 = some (σ', r) → ∀ (H : Heap) (locs : List Loc) (ls : Array Slot), rf_W v s σ H locs → lv_has ls 14 [(0, .ref (rf_h v)), (3, .int (rI x3)), (4, .int (rI x4)), (6, .int (rI x6)), (7, .int (rI x7)), (8, .int (rI x8)), (11, .int (rI x11))] → W p l e (rf_rm (d + 1)) s m args below meth c H locs 0 0 (MQ below (rf_Q v σ' none) args s 0 0 (rf_F v)) (F0 m 130 ls [.int (rI t0), .ref (rf_h v)]) := by
  obtain ⟨hx, hb, hr, hml, hown, hts, hlk, hK, hD⟩ := id B
  intro σ x3 x4 x6 x7 x8 x11 t0 ix3 ix4 ix6 ix7 ix8 ix11 it0 hf H locs ls hw hl
  unfold pf_tell_130 at hf
  obtain ⟨σ1, z2, hσ1, hf⟩ := rf_cl_s hf
  obtain ⟨iz2, mσ1⟩ := hR 37 σ [t0] σ1 z2 hσ1
  have mσ1 : rf_Met l v yX12_put cX12_put 2 none d [.ref (rf_h v), .int (rI t0)] σ σ1 none := mσ1 it0
  refine rf_cv (n := 1) (rest := []) (As := [.int (rI t0)]) B mσ1 g_384_put (by decide +kernel) (by decide) rfl hl.1 (Nat.le_of_ble_eq_true rfl) dX12_tell_130 rfl hw (fun H locs hw => ?_)
  refine lv_aload_n hx hb dX12_tell_133 rfl (lv_at hl 0 rfl) ?_
  refine lv_bipush (v := rI 95) hx hb dX12_tell_134 (by decide +kernel) ?_
  obtain ⟨σ3, z4, hσ3, hf⟩ := rf_cl_s hf
  obtain ⟨iz4, mσ3⟩ := hR 37 σ1 [95] σ3 z4 hσ3
  have mσ3 : rf_Met l v yX12_put cX12_put 2 none d [.ref (rf_h v), .int (rI 95)] σ1 σ3 none := mσ3 ⟨by decide, by decide⟩
  refine rf_cv (n := 1) (rest := []) (As := [.int (rI 95)]) B mσ3 g_384_put (by decide +kernel) (by decide) rfl hl.1 (Nat.le_of_ble_eq_true rfl) dX12_tell_136 rfl hw (fun H locs hw => ?_)
  refine lv_aload_n hx hb dX12_tell_139 rfl (lv_at hl 0 rfl) ?_
  refine lv_iload hx hb dX12_tell_140 (lv_at hl 2 rfl) ?_
  obtain ⟨σ5, z6, hσ5, hf⟩ := rf_cl_s hf
  obtain ⟨iz6, mσ5⟩ := hR 38 σ3 [x4] σ5 z6 hσ5
  have mσ5 : rf_Met l v yX12_number cX12_number 2 none d [.ref (rf_h v), .int (rI x4)] σ3 σ5 none := mσ5 ix4
  refine rf_cv (n := 1) (rest := []) (As := [.int (rI x4)]) B mσ5 g_381_number (by decide +kernel) (by decide) rfl hl.1 (Nat.le_of_ble_eq_true rfl) dX12_tell_142 rfl hw (fun H locs hw => ?_)
  refine lv_aload_n hx hb dX12_tell_145 rfl (lv_at hl 0 rfl) ?_
  refine lv_bipush (v := rI 58) hx hb dX12_tell_146 (by decide +kernel) ?_
  obtain ⟨σ7, z8, hσ7, hf⟩ := rf_cl_s hf
  obtain ⟨iz8, mσ7⟩ := hR 37 σ5 [58] σ7 z8 hσ7
  have mσ7 : rf_Met l v yX12_put cX12_put 2 none d [.ref (rf_h v), .int (rI 58)] σ5 σ7 none := mσ7 ⟨by decide, by decide⟩
  refine rf_cv (n := 1) (rest := []) (As := [.int (rI 58)]) B mσ7 g_384_put (by decide +kernel) (by decide) rfl hl.1 (Nat.le_of_ble_eq_true rfl) dX12_tell_148 rfl hw (fun H locs hw => ?_)
  refine lv_aload_n hx hb dX12_tell_151 rfl (lv_at hl 0 rfl) ?_
  refine lv_aload_n hx hb dX12_tell_152 rfl (lv_at hl 0 rfl) ?_
  refine rf_get (val := .ref (rf_ad v 32)) B hw 32 (by decide) lk_82 rfl dX12_tell_153 ?_
  refine lv_iload hx hb dX12_tell_156 (lv_at hl 4 rfl) ?_
  obtain ⟨z9, ez9, iz9, rz9, hf⟩ := rf_rd_s hw hf
  refine rf_ald B hw ix7 rz9 ez9 dX12_tell_158 ?_
  refine lv_iload hx hb dX12_tell_159 (lv_at hl 5 rfl) ?_
  refine lv_iload_n hx hb dX12_tell_161 rfl (lv_at hl 1 rfl) ?_
  refine lv_iconst (v := rI 1) hx hb dX12_tell_162 rfl ?_
  obtain ⟨z10, ez10, iz10, hf⟩ := rf_ck_s hf
  refine rn_add hx hb ez10 dX12_tell_163 ?_
  refine lv_iload hx hb dX12_tell_164 (lv_at hl 2 rfl) ?_
  refine lv_iconst (v := rI 1) hx hb dX12_tell_166 rfl ?_
  obtain ⟨σ11, z12, hσ11, hf⟩ := rf_cl_s hf
  obtain ⟨iz12, mσ11⟩ := hR 40 σ7 [z9, x8, z10, x4, 1] σ11 z12 hσ11
  have mσ11 : rf_Met l v yX12_tell cX12_tell 14 none d [.ref (rf_h v), .int (rI z9), .int (rI x8), .int (rI z10), .int (rI x4), .int (rI 1)] σ7 σ11 none := mσ11 iz9 ix8 iz10 ix4 ⟨by decide, by decide⟩
  refine rf_cv (n := 5) (rest := []) (As := [.int (rI z9), .int (rI x8), .int (rI z10), .int (rI x4), .int (rI 1)]) B mσ11 g_387_tell (by decide +kernel) (by decide) rfl hl.1 (Nat.le_of_ble_eq_true rfl) dX12_tell_167 rfl hw (fun H locs hw => ?_)
  refine lv_aload_n hx hb dX12_tell_170 rfl (lv_at hl 0 rfl) ?_
  obtain ⟨z13, ez13, iz13, hf⟩ := rf_gi_s hw hf
  refine rf_geti B hw 72 (by decide) rfl lk_150 ez13 dX12_tell_171 ?_
  refine rn_if_eq (a := z13) (tgt := 178) hx hb iz13 dX12_tell_174 (by decide) (fun c14 => ?_) (fun c14 => ?_)
  · replace hf := rf_if_t hf c14
    refine lv_aload_n hx hb dX12_tell_178 rfl (lv_at hl 0 rfl) ?_
    refine lv_bipush (v := rI 46) hx hb dX12_tell_179 (by decide +kernel) ?_
    obtain ⟨σ15, z16, hσ15, hf⟩ := rf_cl_s hf
    obtain ⟨iz16, mσ15⟩ := hR 37 σ11 [46] σ15 z16 hσ15
    have mσ15 : rf_Met l v yX12_put cX12_put 2 none d [.ref (rf_h v), .int (rI 46)] σ11 σ15 none := mσ15 ⟨by decide, by decide⟩
    refine rf_cv (n := 1) (rest := []) (As := [.int (rI 46)]) B mσ15 g_384_put (by decide +kernel) (by decide) rfl hl.1 (Nat.le_of_ble_eq_true rfl) dX12_tell_181 rfl hw (fun H locs hw => ?_)
    refine lv_aload_n hx hb dX12_tell_184 rfl (lv_at hl 0 rfl) ?_
    refine lv_aload_n hx hb dX12_tell_185 rfl (lv_at hl 0 rfl) ?_
    refine rf_get (val := .ref (rf_ad v 33)) B hw 33 (by decide) lk_85 rfl dX12_tell_186 ?_
    refine lv_iload hx hb dX12_tell_189 (lv_at hl 4 rfl) ?_
    obtain ⟨z17, ez17, iz17, rz17, hf⟩ := rf_rd_s hw hf
    refine rf_ald B hw ix7 rz17 ez17 dX12_tell_191 ?_
    refine lv_aload_n hx hb dX12_tell_192 rfl (lv_at hl 0 rfl) ?_
    refine lv_iload hx hb dX12_tell_193 (lv_at hl 4 rfl) ?_
    refine lv_iload hx hb dX12_tell_195 (lv_at hl 5 rfl) ?_
    refine lv_ldcw (v := rI (-1000000)) hx hb hown (hts _ lc_391) dX12_tell_197 ?_
    refine lv_iload hx hb dX12_tell_200 (lv_at hl 2 rfl) ?_
    obtain ⟨z18, ez18, iz18, hf⟩ := rf_ck_s hf
    refine rn_sub hx hb ez18 dX12_tell_202 ?_
    obtain ⟨σ19, z20, hσ19, hf⟩ := rf_cl_s hf
    obtain ⟨iz20, mσ19⟩ := hR 34 σ15 [x7, x8, z18] σ19 z20 hσ19
    have mσ19 : rf_Met l v yX12_inside cX12_inside 4 (some .int) d [.ref (rf_h v), .int (rI x7), .int (rI x8), .int (rI z18)] σ15 σ19 (some (.int (rI z20))) := mσ19 ix7 ix8 iz18
    refine rf_cv (n := 3) (rest := [.int (rI z17), .ref (rf_h v)]) (As := [.int (rI x7), .int (rI x8), .int (rI z18)]) B mσ19 g_374_inside (by decide +kernel) (by decide) rfl hl.1 (Nat.le_of_ble_eq_true rfl) dX12_tell_203 rfl hw (fun H locs hw => ?_)
    refine lv_iload_n hx hb dX12_tell_206 rfl (lv_at hl 1 rfl) ?_
    refine lv_iconst (v := rI 1) hx hb dX12_tell_207 rfl ?_
    obtain ⟨z21, ez21, iz21, hf⟩ := rf_ck_s hf
    refine rn_add hx hb ez21 dX12_tell_208 ?_
    refine lv_iload hx hb dX12_tell_209 (lv_at hl 2 rfl) ?_
    refine lv_iconst (v := rI 1) hx hb dX12_tell_211 rfl ?_
    obtain ⟨z22, ez22, iz22, hf⟩ := rf_ck_s hf
    refine rn_add hx hb ez22 dX12_tell_212 ?_
    refine lv_iconst (v := rI 0) hx hb dX12_tell_213 rfl ?_
    obtain ⟨σ23, z24, hσ23, hf⟩ := rf_cl_s hf
    obtain ⟨iz24, mσ23⟩ := hR 40 σ19 [z17, z20, z21, z22, 0] σ23 z24 hσ23
    have mσ23 : rf_Met l v yX12_tell cX12_tell 14 none d [.ref (rf_h v), .int (rI z17), .int (rI z20), .int (rI z21), .int (rI z22), .int (rI 0)] σ19 σ23 none := mσ23 iz17 iz20 iz21 iz22 ⟨by decide, by decide⟩
    refine rf_cv (n := 5) (rest := []) (As := [.int (rI z17), .int (rI z20), .int (rI z21), .int (rI z22), .int (rI 0)]) B mσ23 g_387_tell (by decide +kernel) (by decide) rfl hl.1 (Nat.le_of_ble_eq_true rfl) dX12_tell_214 rfl hw (fun H locs hw => ?_)
    refine lv_goto (tgt := 382) hx hb dX12_tell_217 (by decide) ?_
    exact ps_tell_382 hR B σ23 x6 x11 ix6 ix11 hf _ _ _ hw (lv_sub hl [0, 3, 6] rfl)
  · replace hf := rf_if_f hf c14
    exact rf_retv B hf hw dX12_tell_177

set_option maxHeartbeats 4000000 in
set_option maxRecDepth 100000 in
theorem ps_tell_323 {v : rfE} {p : Program} {l : Launch} {e : Env} {s : State} {m : MethodId} {args : Array Value} {below : List Frame} {meth : Method} {c : Code} {d : Nat} {rec : Nat → RS → List Int → Option (RS × Int)} {σ' : RS} {r : Int} (hR : rf_Rec l v d rec) (B : rf_B v p s m args meth c cX12_tell 14 none) : ∀ (n : Nat) (σ : RS) (x3 x4 x6 x11 x12 x13 : Int), inR x3 → inR x4 → inR x6 → inR x11 → inR x12 → inR x13 → pf_tell_323 rec n σ x3 x4 x6 x11 x12 x13 = some (σ', r) → ∀ (H : Heap) (locs : List Loc) (ls : Array Slot), rf_W v s σ H locs → lv_has ls 14 [(0, .ref (rf_h v)), (3, .int (rI x3)), (4, .int (rI x4)), (6, .int (rI x6)), (11, .int (rI x11)), (12, .int (rI x12)), (13, .int (rI x13))] → W p l e (rf_rm (d + 1)) s m args below meth c H locs 0 0 (MQ below (rf_Q v σ' none) args s 0 0 (rf_F v)) (F0 m 323 ls []) := by
  obtain ⟨hx, hb, hr, hml, hown, hts, hlk, hK, hD⟩ := id B
  intro n
  induction n with
  | zero => intro σ x3 x4 x6 x11 x12 x13 ix3 ix4 ix6 ix11 ix12 ix13 hf; cases hf
  | succ n ih =>
    intro σ x3 x4 x6 x11 x12 x13 ix3 ix4 ix6 ix11 ix12 ix13 hf H locs ls hw hl
    unfold pf_tell_323 at hf
    refine lv_aload_n hx hb dX12_tell_323 rfl (lv_at hl 0 rfl) ?_
    obtain ⟨z1, ez1, iz1, hf⟩ := rf_gi_s hw hf
    refine rf_geti B hw 72 (by decide) rfl lk_150 ez1 dX12_tell_324 ?_
    refine rn_if_ne (a := z1) (tgt := 382) hx hb iz1 dX12_tell_327 (by decide) (fun c2 => ?_) (fun c2 => ?_)
    · replace hf := rf_if_t hf c2
      exact ps_tell_382 hR B σ x6 x11 ix6 ix11 hf _ _ _ hw (lv_sub hl [0, 3, 4] rfl)
    · replace hf := rf_if_f hf c2
      refine lv_iload hx hb dX12_tell_330 (lv_at hl 6 rfl) ?_
      refine lv_iload hx hb dX12_tell_332 (lv_at hl 5 rfl) ?_
      refine lv_iload hx hb dX12_tell_334 (lv_at hl 3 rfl) ?_
      obtain ⟨z3, ez3, iz3, hf⟩ := rf_ck_s hf
      refine rn_sub hx hb ez3 dX12_tell_336 ?_
      refine rn_icmp_gt (a := x13) (b := z3) (tgt := 382) hx hb ix13 iz3 dX12_tell_337 (by decide) (fun c4 => ?_) (fun c4 => ?_)
      · replace hf := rf_if_t hf c4
        exact ps_tell_382 hR B σ x6 x11 ix6 ix11 hf _ _ _ hw (lv_sub hl [0, 3, 4] rfl)
      · replace hf := rf_if_f hf c4
        refine lv_aload_n hx hb dX12_tell_340 rfl (lv_at hl 0 rfl) ?_
        refine lv_bipush (v := rI 32) hx hb dX12_tell_341 (by decide +kernel) ?_
        obtain ⟨σ5, z6, hσ5, hf⟩ := rf_cl_s hf
        obtain ⟨iz6, mσ5⟩ := hR 37 σ [32] σ5 z6 hσ5
        have mσ5 : rf_Met l v yX12_put cX12_put 2 none d [.ref (rf_h v), .int (rI 32)] σ σ5 none := mσ5 ⟨by decide, by decide⟩
        refine rf_cv (n := 1) (rest := []) (As := [.int (rI 32)]) B mσ5 g_384_put (by decide +kernel) (by decide) rfl hl.1 (Nat.le_of_ble_eq_true rfl) dX12_tell_343 rfl hw (fun H locs hw => ?_)
        refine lv_aload_n hx hb dX12_tell_346 rfl (lv_at hl 0 rfl) ?_
        refine lv_aload_n hx hb dX12_tell_347 rfl (lv_at hl 0 rfl) ?_
        refine rf_get (val := .ref (rf_ad v 49)) B hw 49 (by decide) lk_128 rfl dX12_tell_348 ?_
        refine lv_iload hx hb dX12_tell_351 (lv_at hl 5 rfl) ?_
        refine lv_iload hx hb dX12_tell_353 (lv_at hl 6 rfl) ?_
        obtain ⟨z7, ez7, iz7, hf⟩ := rf_ck_s hf
        refine rn_sub hx hb ez7 dX12_tell_355 ?_
        obtain ⟨z8, ez8, iz8, rz8, hf⟩ := rf_rd_s hw hf
        refine rf_ald B hw iz7 rz8 ez8 dX12_tell_356 ?_
        refine lv_aload_n hx hb dX12_tell_357 rfl (lv_at hl 0 rfl) ?_
        refine rf_get (val := .ref (rf_ad v 50)) B hw 50 (by decide) lk_131 rfl dX12_tell_358 ?_
        refine lv_iload hx hb dX12_tell_361 (lv_at hl 5 rfl) ?_
        refine lv_iload hx hb dX12_tell_363 (lv_at hl 6 rfl) ?_
        obtain ⟨z9, ez9, iz9, hf⟩ := rf_ck_s hf
        refine rn_sub hx hb ez9 dX12_tell_365 ?_
        obtain ⟨z10, ez10, iz10, rz10, hf⟩ := rf_rd_s hw hf
        refine rf_ald B hw iz9 rz10 ez10 dX12_tell_366 ?_
        refine lv_iload_n hx hb dX12_tell_367 rfl (lv_at hl 1 rfl) ?_
        refine lv_iconst (v := rI 1) hx hb dX12_tell_368 rfl ?_
        obtain ⟨z11, ez11, iz11, hf⟩ := rf_ck_s hf
        refine rn_add hx hb ez11 dX12_tell_369 ?_
        refine lv_iload hx hb dX12_tell_370 (lv_at hl 2 rfl) ?_
        refine lv_iconst (v := rI 2) hx hb dX12_tell_372 rfl ?_
        obtain ⟨σ12, z13, hσ12, hf⟩ := rf_cl_s hf
        obtain ⟨iz13, mσ12⟩ := hR 40 σ5 [z8, z10, z11, x4, 2] σ12 z13 hσ12
        have mσ12 : rf_Met l v yX12_tell cX12_tell 14 none d [.ref (rf_h v), .int (rI z8), .int (rI z10), .int (rI z11), .int (rI x4), .int (rI 2)] σ5 σ12 none := mσ12 iz8 iz10 iz11 ix4 ⟨by decide, by decide⟩
        refine rf_cv (n := 5) (rest := []) (As := [.int (rI z8), .int (rI z10), .int (rI z11), .int (rI x4), .int (rI 2)]) B mσ12 g_387_tell (by decide +kernel) (by decide) rfl hl.1 (Nat.le_of_ble_eq_true rfl) dX12_tell_373 rfl hw (fun H locs hw => ?_)
        obtain ⟨z14, ez14, iz14, hf⟩ := rf_ck_s hf
        refine lv_iinc (v := rI z14) (lv' := [(13, .int (rI z14)), (0, .ref (rf_h v)), (3, .int (rI x3)), (4, .int (rI x4)), (6, .int (rI x6)), (11, .int (rI x11)), (12, .int (rI x12))]) hx hb dX12_tell_376 hl (k := 6) rfl (by rw [ez14]; exact rI_add _ _) (by decide) rfl (fun ls hl => ?_)
        refine lv_goto (tgt := 323) hx hb dX12_tell_379 (by decide) ?_
        exact ih σ12 x3 x4 x6 x11 x12 z14 ix3 ix4 ix6 ix11 ix12 iz14 hf _ _ _ hw (lv_sub hl [1, 2, 3, 4, 5, 6, 0] rfl)

set_option maxHeartbeats 4000000 in
set_option maxRecDepth 100000 in
theorem ps_tell_314 {v : rfE} {p : Program} {l : Launch} {e : Env} {s : State} {m : MethodId} {args : Array Value} {below : List Frame} {meth : Method} {c : Code} {d : Nat} {rec : Nat → RS → List Int → Option (RS × Int)} {σ' : RS} {r : Int} (hR : rf_Rec l v d rec) (B : rf_B v p s m args meth c cX12_tell 14 none) : ∀ (σ : RS) (x3 x4 x6 x11 : Int), inR x3 → inR x4 → inR x6 → inR x11 → pf_tell_314 rec σ x3 x4 x6 x11 = some (σ', r) → ∀ (H : Heap) (locs : List Loc) (ls : Array Slot), rf_W v s σ H locs → lv_has ls 14 [(0, .ref (rf_h v)), (3, .int (rI x3)), (4, .int (rI x4)), (6, .int (rI x6)), (11, .int (rI x11))] → W p l e (rf_rm (d + 1)) s m args below meth c H locs 0 0 (MQ below (rf_Q v σ' none) args s 0 0 (rf_F v)) (F0 m 314 ls []) := by
  obtain ⟨hx, hb, hr, hml, hown, hts, hlk, hK, hD⟩ := id B
  intro σ x3 x4 x6 x11 ix3 ix4 ix6 ix11 hf H locs ls hw hl
  unfold pf_tell_314 at hf
  refine lv_aload_n hx hb dX12_tell_314 rfl (lv_at hl 0 rfl) ?_
  obtain ⟨z1, ez1, iz1, hf⟩ := rf_gi_s hw hf
  refine rf_geti B hw 51 (by decide) rfl lk_324 ez1 dX12_tell_315 ?_
  refine lv_istore (lv' := [(12, .int (rI z1)), (0, .ref (rf_h v)), (3, .int (rI x3)), (4, .int (rI x4)), (6, .int (rI x6)), (11, .int (rI x11))]) hx hb dX12_tell_318 hl (by decide) rfl (fun ls hl => ?_)
  refine lv_iconst (v := rI 1) hx hb dX12_tell_320 rfl ?_
  refine lv_istore (lv' := [(13, .int (rI 1)), (12, .int (rI z1)), (0, .ref (rf_h v)), (3, .int (rI x3)), (4, .int (rI x4)), (6, .int (rI x6)), (11, .int (rI x11))]) hx hb dX12_tell_321 hl (by decide) rfl (fun ls hl => ?_)
  exact ps_tell_323 hR B 200000 σ x3 x4 x6 x11 z1 1 ix3 ix4 ix6 ix11 iz1 ⟨by decide, by decide⟩ hf _ _ _ hw (lv_sub hl [2, 3, 4, 5, 6, 1, 0] rfl)

set_option maxHeartbeats 4000000 in
set_option maxRecDepth 100000 in
theorem ps_tell_111 {v : rfE} {p : Program} {l : Launch} {e : Env} {s : State} {m : MethodId} {args : Array Value} {below : List Frame} {meth : Method} {c : Code} {d : Nat} {rec : Nat → RS → List Int → Option (RS × Int)} {σ' : RS} {r : Int} (hR : rf_Rec l v d rec) (B : rf_B v p s m args meth c cX12_tell 14 none) : ∀ (σ : RS) (x3 x4 x6 x7 x8 x9 x10 x11 : Int), inR x3 → inR x4 → inR x6 → inR x7 → inR x8 → inR x9 → inR x10 → inR x11 → pf_tell_111 rec σ x3 x4 x6 x7 x8 x9 x10 x11 = some (σ', r) → ∀ (H : Heap) (locs : List Loc) (ls : Array Slot), rf_W v s σ H locs → lv_has ls 14 [(0, .ref (rf_h v)), (3, .int (rI x3)), (4, .int (rI x4)), (6, .int (rI x6)), (7, .int (rI x7)), (8, .int (rI x8)), (9, .int (rI x9)), (10, .int (rI x10)), (11, .int (rI x11))] → W p l e (rf_rm (d + 1)) s m args below meth c H locs 0 0 (MQ below (rf_Q v σ' none) args s 0 0 (rf_F v)) (F0 m 111 ls []) := by
  obtain ⟨hx, hb, hr, hml, hown, hts, hlk, hK, hD⟩ := id B
  intro σ x3 x4 x6 x7 x8 x9 x10 x11 ix3 ix4 ix6 ix7 ix8 ix9 ix10 ix11 hf H locs ls hw hl
  unfold pf_tell_111 at hf
  refine lv_iload hx hb dX12_tell_111 (lv_at hl 7 rfl) ?_
  refine rn_if_eq (a := x10) (tgt := 220) hx hb ix10 dX12_tell_113 (by decide) (fun c1 => ?_) (fun c1 => ?_)
  · replace hf := rf_if_t hf c1
    refine lv_iload hx hb dX12_tell_220 (lv_at hl 6 rfl) ?_
    refine lv_iconst (v := rI (-1)) hx hb dX12_tell_222 rfl ?_
    refine rn_icmp_ne (a := x9) (b := (-1)) (tgt := 245) hx hb ix9 ⟨by decide, by decide⟩ dX12_tell_223 (by decide) (fun c2 => ?_) (fun c2 => ?_)
    · replace hf := rf_if_t hf c2
      refine lv_iload hx hb dX12_tell_245 (lv_at hl 6 rfl) ?_
      refine lv_iconst (v := rI 3) hx hb dX12_tell_247 rfl ?_
      refine rn_icmp_ne (a := x9) (b := 3) (tgt := 284) hx hb ix9 ⟨by decide, by decide⟩ dX12_tell_248 (by decide) (fun c3 => ?_) (fun c3 => ?_)
      · replace hf := rf_if_t hf c3
        refine lv_aload_n hx hb dX12_tell_284 rfl (lv_at hl 0 rfl) ?_
        refine lv_bipush (v := rI 12) hx hb dX12_tell_285 (by decide +kernel) ?_
        refine lv_aload_n hx hb dX12_tell_287 rfl (lv_at hl 0 rfl) ?_
        refine rf_get (val := .ref (rf_ad v 31)) B hw 31 (by decide) lk_79 rfl dX12_tell_288 ?_
        refine lv_iload hx hb dX12_tell_291 (lv_at hl 4 rfl) ?_
        obtain ⟨z4, ez4, iz4, rz4, hf⟩ := rf_rd_s hw hf
        refine rf_ald B hw ix7 rz4 ez4 dX12_tell_293 ?_
        obtain ⟨z5, ez5, iz5, hf⟩ := rf_ck_s hf
        refine rn_mul hx hb ez5 dX12_tell_294 ?_
        refine lv_aload_n hx hb dX12_tell_295 rfl (lv_at hl 0 rfl) ?_
        refine rf_get (val := .ref (rf_ad v 21)) B hw 21 (by decide) lk_54 rfl dX12_tell_296 ?_
        refine lv_aload_n hx hb dX12_tell_299 rfl (lv_at hl 0 rfl) ?_
        refine rf_get (val := .ref (rf_ad v 22)) B hw 22 (by decide) lk_57 rfl dX12_tell_300 ?_
        refine lv_aload_n hx hb dX12_tell_303 rfl (lv_at hl 0 rfl) ?_
        refine rf_get (val := .ref (rf_ad v 31)) B hw 31 (by decide) lk_79 rfl dX12_tell_304 ?_
        refine lv_iload hx hb dX12_tell_307 (lv_at hl 4 rfl) ?_
        obtain ⟨z6, ez6, iz6, rz6, hf⟩ := rf_rd_s hw hf
        refine rf_ald B hw ix7 rz6 ez6 dX12_tell_309 ?_
        obtain ⟨z7, ez7, iz7, rz7, hf⟩ := rf_rd_s hw hf
        refine rf_ald B hw iz6 rz7 ez7 dX12_tell_310 ?_
        obtain ⟨σ8, z9, hσ8, hf⟩ := rf_cl_s hf
        obtain ⟨iz9, mσ8⟩ := hR 39 σ [z5, 21, z7] σ8 z9 hσ8
        have mσ8 : rf_Met l v yX12_putWord cX12_putWord 5 none d [.ref (rf_h v), .int (rI z5), .ref (rf_ad v 21), .int (rI z7)] σ σ8 none := mσ8 iz5 iz7
        refine rf_cv (n := 3) (rest := []) (As := [.int (rI z5), .ref (rf_ad v 21), .int (rI z7)]) B mσ8 g_392_putWord (by decide +kernel) (by decide) rfl hl.1 (Nat.le_of_ble_eq_true rfl) dX12_tell_311 rfl hw (fun H locs hw => ?_)
        exact ps_tell_314 hR B σ8 x3 x4 x6 x11 ix3 ix4 ix6 ix11 hf _ _ _ hw (lv_sub hl [0, 1, 2, 3, 8] rfl)
      · replace hf := rf_if_f hf c3
        refine lv_aload_n hx hb dX12_tell_251 rfl (lv_at hl 0 rfl) ?_
        refine lv_bipush (v := rI 12) hx hb dX12_tell_252 (by decide +kernel) ?_
        refine lv_aload_n hx hb dX12_tell_254 rfl (lv_at hl 0 rfl) ?_
        refine rf_get (val := .ref (rf_ad v 31)) B hw 31 (by decide) lk_79 rfl dX12_tell_255 ?_
        refine lv_iload hx hb dX12_tell_258 (lv_at hl 4 rfl) ?_
        obtain ⟨z10, ez10, iz10, rz10, hf⟩ := rf_rd_s hw hf
        refine rf_ald B hw ix7 rz10 ez10 dX12_tell_260 ?_
        obtain ⟨z11, ez11, iz11, hf⟩ := rf_ck_s hf
        refine rn_mul hx hb ez11 dX12_tell_261 ?_
        refine lv_aload_n hx hb dX12_tell_262 rfl (lv_at hl 0 rfl) ?_
        refine rf_get (val := .ref (rf_ad v 16)) B hw 16 (by decide) lk_44 rfl dX12_tell_263 ?_
        refine lv_aload_n hx hb dX12_tell_266 rfl (lv_at hl 0 rfl) ?_
        refine rf_get (val := .ref (rf_ad v 17)) B hw 17 (by decide) lk_47 rfl dX12_tell_267 ?_
        refine lv_aload_n hx hb dX12_tell_270 rfl (lv_at hl 0 rfl) ?_
        refine rf_get (val := .ref (rf_ad v 31)) B hw 31 (by decide) lk_79 rfl dX12_tell_271 ?_
        refine lv_iload hx hb dX12_tell_274 (lv_at hl 4 rfl) ?_
        obtain ⟨z12, ez12, iz12, rz12, hf⟩ := rf_rd_s hw hf
        refine rf_ald B hw ix7 rz12 ez12 dX12_tell_276 ?_
        obtain ⟨z13, ez13, iz13, rz13, hf⟩ := rf_rd_s hw hf
        refine rf_ald B hw iz12 rz13 ez13 dX12_tell_277 ?_
        obtain ⟨σ14, z15, hσ14, hf⟩ := rf_cl_s hf
        obtain ⟨iz15, mσ14⟩ := hR 39 σ [z11, 16, z13] σ14 z15 hσ14
        have mσ14 : rf_Met l v yX12_putWord cX12_putWord 5 none d [.ref (rf_h v), .int (rI z11), .ref (rf_ad v 16), .int (rI z13)] σ σ14 none := mσ14 iz11 iz13
        refine rf_cv (n := 3) (rest := []) (As := [.int (rI z11), .ref (rf_ad v 16), .int (rI z13)]) B mσ14 g_392_putWord (by decide +kernel) (by decide) rfl hl.1 (Nat.le_of_ble_eq_true rfl) dX12_tell_278 rfl hw (fun H locs hw => ?_)
        refine lv_goto (tgt := 314) hx hb dX12_tell_281 (by decide) ?_
        exact ps_tell_314 hR B σ14 x3 x4 x6 x11 ix3 ix4 ix6 ix11 hf _ _ _ hw (lv_sub hl [0, 1, 2, 3, 8] rfl)
    · replace hf := rf_if_f hf c2
      refine lv_aload_n hx hb dX12_tell_226 rfl (lv_at hl 0 rfl) ?_
      refine lv_bipush (v := rI 95) hx hb dX12_tell_227 (by decide +kernel) ?_
      obtain ⟨σ16, z17, hσ16, hf⟩ := rf_cl_s hf
      obtain ⟨iz17, mσ16⟩ := hR 37 σ [95] σ16 z17 hσ16
      have mσ16 : rf_Met l v yX12_put cX12_put 2 none d [.ref (rf_h v), .int (rI 95)] σ σ16 none := mσ16 ⟨by decide, by decide⟩
      refine rf_cv (n := 1) (rest := []) (As := [.int (rI 95)]) B mσ16 g_384_put (by decide +kernel) (by decide) rfl hl.1 (Nat.le_of_ble_eq_true rfl) dX12_tell_229 rfl hw (fun H locs hw => ?_)
      refine lv_aload_n hx hb dX12_tell_232 rfl (lv_at hl 0 rfl) ?_
      refine lv_ldcw (v := rI (-1000000)) hx hb hown (hts _ lc_391) dX12_tell_233 ?_
      refine lv_iload hx hb dX12_tell_236 (lv_at hl 4 rfl) ?_
      obtain ⟨z18, ez18, iz18, hf⟩ := rf_ck_s hf
      refine rn_sub hx hb ez18 dX12_tell_238 ?_
      obtain ⟨σ19, z20, hσ19, hf⟩ := rf_cl_s hf
      obtain ⟨iz20, mσ19⟩ := hR 38 σ16 [z18] σ19 z20 hσ19
      have mσ19 : rf_Met l v yX12_number cX12_number 2 none d [.ref (rf_h v), .int (rI z18)] σ16 σ19 none := mσ19 iz18
      refine rf_cv (n := 1) (rest := []) (As := [.int (rI z18)]) B mσ19 g_381_number (by decide +kernel) (by decide) rfl hl.1 (Nat.le_of_ble_eq_true rfl) dX12_tell_239 rfl hw (fun H locs hw => ?_)
      refine lv_goto (tgt := 314) hx hb dX12_tell_242 (by decide) ?_
      exact ps_tell_314 hR B σ19 x3 x4 x6 x11 ix3 ix4 ix6 ix11 hf _ _ _ hw (lv_sub hl [0, 1, 2, 3, 8] rfl)
  · replace hf := rf_if_f hf c1
    refine lv_aload_n hx hb dX12_tell_116 rfl (lv_at hl 0 rfl) ?_
    refine lv_iload hx hb dX12_tell_117 (lv_at hl 6 rfl) ?_
    refine lv_iconst (v := rI 4) hx hb dX12_tell_119 rfl ?_
    refine rn_icmp_ne (a := x9) (b := 4) (tgt := 128) hx hb ix9 ⟨by decide, by decide⟩ dX12_tell_120 (by decide) (fun c21 => ?_) (fun c21 => ?_)
    · replace hf := rf_if_t hf c21
      refine lv_bipush (v := rI 33) hx hb dX12_tell_128 (by decide +kernel) ?_
      exact ps_tell_130 hR B σ x3 x4 x6 x7 x8 x11 33 ix3 ix4 ix6 ix7 ix8 ix11 ⟨by decide, by decide⟩ hf _ _ _ hw (lv_sub hl [0, 1, 2, 3, 4, 5, 8] rfl)
    · replace hf := rf_if_f hf c21
      refine lv_bipush (v := rI 92) hx hb dX12_tell_123 (by decide +kernel) ?_
      refine lv_goto (tgt := 130) hx hb dX12_tell_125 (by decide) ?_
      exact ps_tell_130 hR B σ x3 x4 x6 x7 x8 x11 92 ix3 ix4 ix6 ix7 ix8 ix11 ⟨by decide, by decide⟩ hf _ _ _ hw (lv_sub hl [0, 1, 2, 3, 4, 5, 8] rfl)

set_option maxHeartbeats 4000000 in
set_option maxRecDepth 100000 in
theorem ps_tell_98 {v : rfE} {p : Program} {l : Launch} {e : Env} {s : State} {m : MethodId} {args : Array Value} {below : List Frame} {meth : Method} {c : Code} {d : Nat} {rec : Nat → RS → List Int → Option (RS × Int)} {σ' : RS} {r : Int} (hR : rf_Rec l v d rec) (B : rf_B v p s m args meth c cX12_tell 14 none) : ∀ (σ : RS) (x3 x4 x6 x7 x8 x9 x10 t0 : Int), inR x3 → inR x4 → inR x6 → inR x7 → inR x8 → inR x9 → inR x10 → inR t0 → pf_tell_98 rec σ x3 x4 x6 x7 x8 x9 x10 t0 = some (σ', r) → ∀ (H : Heap) (locs : List Loc) (ls : Array Slot), rf_W v s σ H locs → lv_has ls 14 [(0, .ref (rf_h v)), (3, .int (rI x3)), (4, .int (rI x4)), (6, .int (rI x6)), (7, .int (rI x7)), (8, .int (rI x8)), (9, .int (rI x9)), (10, .int (rI x10))] → W p l e (rf_rm (d + 1)) s m args below meth c H locs 0 0 (MQ below (rf_Q v σ' none) args s 0 0 (rf_F v)) (F0 m 98 ls [.int (rI t0)]) := by
  obtain ⟨hx, hb, hr, hml, hown, hts, hlk, hK, hD⟩ := id B
  intro σ x3 x4 x6 x7 x8 x9 x10 t0 ix3 ix4 ix6 ix7 ix8 ix9 ix10 it0 hf H locs ls hw hl
  unfold pf_tell_98 at hf
  refine lv_istore (lv' := [(11, .int (rI t0)), (0, .ref (rf_h v)), (3, .int (rI x3)), (4, .int (rI x4)), (6, .int (rI x6)), (7, .int (rI x7)), (8, .int (rI x8)), (9, .int (rI x9)), (10, .int (rI x10))]) hx hb dX12_tell_98 hl (by decide) rfl (fun ls hl => ?_)
  refine lv_iload hx hb dX12_tell_100 (lv_at hl 0 rfl) ?_
  refine rn_if_eq (a := t0) (tgt := 111) hx hb it0 dX12_tell_102 (by decide) (fun c1 => ?_) (fun c1 => ?_)
  · replace hf := rf_if_t hf c1
    exact ps_tell_111 hR B σ x3 x4 x6 x7 x8 x9 x10 t0 ix3 ix4 ix6 ix7 ix8 ix9 ix10 it0 hf _ _ _ hw (lv_sub hl [1, 2, 3, 4, 5, 6, 7, 8, 0] rfl)
  · replace hf := rf_if_f hf c1
    refine lv_aload_n hx hb dX12_tell_105 rfl (lv_at hl 1 rfl) ?_
    refine lv_bipush (v := rI 40) hx hb dX12_tell_106 (by decide +kernel) ?_
    obtain ⟨σ2, z3, hσ2, hf⟩ := rf_cl_s hf
    obtain ⟨iz3, mσ2⟩ := hR 37 σ [40] σ2 z3 hσ2
    have mσ2 : rf_Met l v yX12_put cX12_put 2 none d [.ref (rf_h v), .int (rI 40)] σ σ2 none := mσ2 ⟨by decide, by decide⟩
    refine rf_cv (n := 1) (rest := []) (As := [.int (rI 40)]) B mσ2 g_384_put (by decide +kernel) (by decide) rfl hl.1 (Nat.le_of_ble_eq_true rfl) dX12_tell_108 rfl hw (fun H locs hw => ?_)
    exact ps_tell_111 hR B σ2 x3 x4 x6 x7 x8 x9 x10 t0 ix3 ix4 ix6 ix7 ix8 ix9 ix10 it0 hf _ _ _ hw (lv_sub hl [1, 2, 3, 4, 5, 6, 7, 8, 0] rfl)

set_option maxHeartbeats 4000000 in
set_option maxRecDepth 100000 in
theorem ps_tell_93 {v : rfE} {p : Program} {l : Launch} {e : Env} {s : State} {m : MethodId} {args : Array Value} {below : List Frame} {meth : Method} {c : Code} {d : Nat} {rec : Nat → RS → List Int → Option (RS × Int)} {σ' : RS} {r : Int} (hR : rf_Rec l v d rec) (B : rf_B v p s m args meth c cX12_tell 14 none) : ∀ (σ : RS) (x3 x4 x6 x7 x8 x9 x10 : Int), inR x3 → inR x4 → inR x6 → inR x7 → inR x8 → inR x9 → inR x10 → pf_tell_93 rec σ x3 x4 x6 x7 x8 x9 x10 = some (σ', r) → ∀ (H : Heap) (locs : List Loc) (ls : Array Slot), rf_W v s σ H locs → lv_has ls 14 [(0, .ref (rf_h v)), (3, .int (rI x3)), (4, .int (rI x4)), (6, .int (rI x6)), (7, .int (rI x7)), (8, .int (rI x8)), (9, .int (rI x9)), (10, .int (rI x10))] → W p l e (rf_rm (d + 1)) s m args below meth c H locs 0 0 (MQ below (rf_Q v σ' none) args s 0 0 (rf_F v)) (F0 m 93 ls []) := by
  obtain ⟨hx, hb, hr, hml, hown, hts, hlk, hK, hD⟩ := id B
  intro σ x3 x4 x6 x7 x8 x9 x10 ix3 ix4 ix6 ix7 ix8 ix9 ix10 hf H locs ls hw hl
  unfold pf_tell_93 at hf
  refine lv_iconst (v := rI 1) hx hb dX12_tell_93 rfl ?_
  refine lv_goto (tgt := 98) hx hb dX12_tell_94 (by decide) ?_
  exact ps_tell_98 hR B σ x3 x4 x6 x7 x8 x9 x10 1 ix3 ix4 ix6 ix7 ix8 ix9 ix10 ⟨by decide, by decide⟩ hf _ _ _ hw (lv_sub hl [0, 1, 2, 3, 4, 5, 6, 7] rfl)

set_option maxHeartbeats 4000000 in
set_option maxRecDepth 100000 in
theorem ps_tell_97 {v : rfE} {p : Program} {l : Launch} {e : Env} {s : State} {m : MethodId} {args : Array Value} {below : List Frame} {meth : Method} {c : Code} {d : Nat} {rec : Nat → RS → List Int → Option (RS × Int)} {σ' : RS} {r : Int} (hR : rf_Rec l v d rec) (B : rf_B v p s m args meth c cX12_tell 14 none) : ∀ (σ : RS) (x3 x4 x6 x7 x8 x9 x10 : Int), inR x3 → inR x4 → inR x6 → inR x7 → inR x8 → inR x9 → inR x10 → pf_tell_97 rec σ x3 x4 x6 x7 x8 x9 x10 = some (σ', r) → ∀ (H : Heap) (locs : List Loc) (ls : Array Slot), rf_W v s σ H locs → lv_has ls 14 [(0, .ref (rf_h v)), (3, .int (rI x3)), (4, .int (rI x4)), (6, .int (rI x6)), (7, .int (rI x7)), (8, .int (rI x8)), (9, .int (rI x9)), (10, .int (rI x10))] → W p l e (rf_rm (d + 1)) s m args below meth c H locs 0 0 (MQ below (rf_Q v σ' none) args s 0 0 (rf_F v)) (F0 m 97 ls []) := by
  obtain ⟨hx, hb, hr, hml, hown, hts, hlk, hK, hD⟩ := id B
  intro σ x3 x4 x6 x7 x8 x9 x10 ix3 ix4 ix6 ix7 ix8 ix9 ix10 hf H locs ls hw hl
  unfold pf_tell_97 at hf
  refine lv_iconst (v := rI 0) hx hb dX12_tell_97 rfl ?_
  exact ps_tell_98 hR B σ x3 x4 x6 x7 x8 x9 x10 0 ix3 ix4 ix6 ix7 ix8 ix9 ix10 ⟨by decide, by decide⟩ hf _ _ _ hw (lv_sub hl [0, 1, 2, 3, 4, 5, 6, 7] rfl)

set_option maxHeartbeats 4000000 in
set_option maxRecDepth 100000 in
theorem ps_tell_78 {v : rfE} {p : Program} {l : Launch} {e : Env} {s : State} {m : MethodId} {args : Array Value} {below : List Frame} {meth : Method} {c : Code} {d : Nat} {rec : Nat → RS → List Int → Option (RS × Int)} {σ' : RS} {r : Int} (hR : rf_Rec l v d rec) (B : rf_B v p s m args meth c cX12_tell 14 none) : ∀ (σ : RS) (x3 x4 x5 x6 x7 x8 x9 x10 : Int), inR x3 → inR x4 → inR x5 → inR x6 → inR x7 → inR x8 → inR x9 → inR x10 → pf_tell_78 rec σ x3 x4 x5 x6 x7 x8 x9 x10 = some (σ', r) → ∀ (H : Heap) (locs : List Loc) (ls : Array Slot), rf_W v s σ H locs → lv_has ls 14 [(0, .ref (rf_h v)), (3, .int (rI x3)), (4, .int (rI x4)), (5, .int (rI x5)), (6, .int (rI x6)), (7, .int (rI x7)), (8, .int (rI x8)), (9, .int (rI x9)), (10, .int (rI x10))] → W p l e (rf_rm (d + 1)) s m args below meth c H locs 0 0 (MQ below (rf_Q v σ' none) args s 0 0 (rf_F v)) (F0 m 78 ls []) := by
  obtain ⟨hx, hb, hr, hml, hown, hts, hlk, hK, hD⟩ := id B
  intro σ x3 x4 x5 x6 x7 x8 x9 x10 ix3 ix4 ix5 ix6 ix7 ix8 ix9 ix10 hf H locs ls hw hl
  unfold pf_tell_78 at hf
  refine lv_iload hx hb dX12_tell_78 (lv_at hl 3 rfl) ?_
  refine lv_iconst (v := rI 2) hx hb dX12_tell_80 rfl ?_
  refine rn_icmp_ne (a := x5) (b := 2) (tgt := 97) hx hb ix5 ⟨by decide, by decide⟩ dX12_tell_81 (by decide) (fun c1 => ?_) (fun c1 => ?_)
  · replace hf := rf_if_t hf c1
    exact ps_tell_97 hR B σ x3 x4 x6 x7 x8 x9 x10 ix3 ix4 ix6 ix7 ix8 ix9 ix10 hf _ _ _ hw (lv_sub hl [0, 1, 2, 4, 5, 6, 7, 8] rfl)
  · replace hf := rf_if_f hf c1
    refine lv_aload_n hx hb dX12_tell_84 rfl (lv_at hl 0 rfl) ?_
    obtain ⟨z2, ez2, iz2, hf⟩ := rf_gi_s hw hf
    refine rf_geti B hw 51 (by decide) rfl lk_324 ez2 dX12_tell_85 ?_
    refine lv_iload hx hb dX12_tell_88 (lv_at hl 4 rfl) ?_
    refine rn_icmp_le (a := z2) (b := x6) (tgt := 97) hx hb iz2 ix6 dX12_tell_90 (by decide) (fun c3 => ?_) (fun c3 => ?_)
    · replace hf := rf_if_t hf c3
      exact ps_tell_97 hR B σ x3 x4 x6 x7 x8 x9 x10 ix3 ix4 ix6 ix7 ix8 ix9 ix10 hf _ _ _ hw (lv_sub hl [0, 1, 2, 4, 5, 6, 7, 8] rfl)
    · replace hf := rf_if_f hf c3
      exact ps_tell_93 hR B σ x3 x4 x6 x7 x8 x9 x10 ix3 ix4 ix6 ix7 ix8 ix9 ix10 hf _ _ _ hw (lv_sub hl [0, 1, 2, 4, 5, 6, 7, 8] rfl)

set_option maxHeartbeats 4000000 in
set_option maxRecDepth 100000 in
theorem ps_tell_66 {v : rfE} {p : Program} {l : Launch} {e : Env} {s : State} {m : MethodId} {args : Array Value} {below : List Frame} {meth : Method} {c : Code} {d : Nat} {rec : Nat → RS → List Int → Option (RS × Int)} {σ' : RS} {r : Int} (hR : rf_Rec l v d rec) (B : rf_B v p s m args meth c cX12_tell 14 none) : ∀ (σ : RS) (x3 x4 x5 x6 x7 x8 x9 t0 : Int), inR x3 → inR x4 → inR x5 → inR x6 → inR x7 → inR x8 → inR x9 → inR t0 → pf_tell_66 rec σ x3 x4 x5 x6 x7 x8 x9 t0 = some (σ', r) → ∀ (H : Heap) (locs : List Loc) (ls : Array Slot), rf_W v s σ H locs → lv_has ls 14 [(0, .ref (rf_h v)), (3, .int (rI x3)), (4, .int (rI x4)), (5, .int (rI x5)), (6, .int (rI x6)), (7, .int (rI x7)), (8, .int (rI x8)), (9, .int (rI x9))] → W p l e (rf_rm (d + 1)) s m args below meth c H locs 0 0 (MQ below (rf_Q v σ' none) args s 0 0 (rf_F v)) (F0 m 66 ls [.int (rI t0)]) := by
  obtain ⟨hx, hb, hr, hml, hown, hts, hlk, hK, hD⟩ := id B
  intro σ x3 x4 x5 x6 x7 x8 x9 t0 ix3 ix4 ix5 ix6 ix7 ix8 ix9 it0 hf H locs ls hw hl
  unfold pf_tell_66 at hf
  refine lv_istore (lv' := [(10, .int (rI t0)), (0, .ref (rf_h v)), (3, .int (rI x3)), (4, .int (rI x4)), (5, .int (rI x5)), (6, .int (rI x6)), (7, .int (rI x7)), (8, .int (rI x8)), (9, .int (rI x9))]) hx hb dX12_tell_66 hl (by decide) rfl (fun ls hl => ?_)
  refine lv_iload hx hb dX12_tell_68 (lv_at hl 0 rfl) ?_
  refine rn_if_eq (a := t0) (tgt := 78) hx hb it0 dX12_tell_70 (by decide) (fun c1 => ?_) (fun c1 => ?_)
  · replace hf := rf_if_t hf c1
    exact ps_tell_78 hR B σ x3 x4 x5 x6 x7 x8 x9 t0 ix3 ix4 ix5 ix6 ix7 ix8 ix9 it0 hf _ _ _ hw (lv_sub hl [1, 2, 3, 4, 5, 6, 7, 8, 0] rfl)
  · replace hf := rf_if_f hf c1
    refine lv_iload hx hb dX12_tell_73 (lv_at hl 4 rfl) ?_
    refine rn_if_gt (a := x5) (tgt := 93) hx hb ix5 dX12_tell_75 (by decide) (fun c2 => ?_) (fun c2 => ?_)
    · replace hf := rf_if_t hf c2
      exact ps_tell_93 hR B σ x3 x4 x6 x7 x8 x9 t0 ix3 ix4 ix6 ix7 ix8 ix9 it0 hf _ _ _ hw (lv_sub hl [1, 2, 3, 5, 6, 7, 8, 0] rfl)
    · replace hf := rf_if_f hf c2
      exact ps_tell_78 hR B σ x3 x4 x5 x6 x7 x8 x9 t0 ix3 ix4 ix5 ix6 ix7 ix8 ix9 it0 hf _ _ _ hw (lv_sub hl [1, 2, 3, 4, 5, 6, 7, 8, 0] rfl)

set_option maxHeartbeats 4000000 in
set_option maxRecDepth 100000 in
theorem ps_tell_61 {v : rfE} {p : Program} {l : Launch} {e : Env} {s : State} {m : MethodId} {args : Array Value} {below : List Frame} {meth : Method} {c : Code} {d : Nat} {rec : Nat → RS → List Int → Option (RS × Int)} {σ' : RS} {r : Int} (hR : rf_Rec l v d rec) (B : rf_B v p s m args meth c cX12_tell 14 none) : ∀ (σ : RS) (x3 x4 x5 x6 x7 x8 x9 : Int), inR x3 → inR x4 → inR x5 → inR x6 → inR x7 → inR x8 → inR x9 → pf_tell_61 rec σ x3 x4 x5 x6 x7 x8 x9 = some (σ', r) → ∀ (H : Heap) (locs : List Loc) (ls : Array Slot), rf_W v s σ H locs → lv_has ls 14 [(0, .ref (rf_h v)), (3, .int (rI x3)), (4, .int (rI x4)), (5, .int (rI x5)), (6, .int (rI x6)), (7, .int (rI x7)), (8, .int (rI x8)), (9, .int (rI x9))] → W p l e (rf_rm (d + 1)) s m args below meth c H locs 0 0 (MQ below (rf_Q v σ' none) args s 0 0 (rf_F v)) (F0 m 61 ls []) := by
  obtain ⟨hx, hb, hr, hml, hown, hts, hlk, hK, hD⟩ := id B
  intro σ x3 x4 x5 x6 x7 x8 x9 ix3 ix4 ix5 ix6 ix7 ix8 ix9 hf H locs ls hw hl
  unfold pf_tell_61 at hf
  refine lv_iconst (v := rI 1) hx hb dX12_tell_61 rfl ?_
  refine lv_goto (tgt := 66) hx hb dX12_tell_62 (by decide) ?_
  exact ps_tell_66 hR B σ x3 x4 x5 x6 x7 x8 x9 1 ix3 ix4 ix5 ix6 ix7 ix8 ix9 ⟨by decide, by decide⟩ hf _ _ _ hw (lv_sub hl [0, 1, 2, 3, 4, 5, 6, 7] rfl)

set_option maxHeartbeats 4000000 in
set_option maxRecDepth 100000 in
theorem ps_tell_0 {v : rfE} {p : Program} {l : Launch} {e : Env} {s : State} {m : MethodId} {args : Array Value} {below : List Frame} {meth : Method} {c : Code} {d : Nat} {rec : Nat → RS → List Int → Option (RS × Int)} {σ' : RS} {r : Int} (hR : rf_Rec l v d rec) (B : rf_B v p s m args meth c cX12_tell 14 none) : ∀ (σ : RS) (x1 x2 x3 x4 x5 : Int), inR x1 → inR x2 → inR x3 → inR x4 → inR x5 → pf_tell_0 rec σ x1 x2 x3 x4 x5 = some (σ', r) → ∀ (H : Heap) (locs : List Loc) (ls : Array Slot), rf_W v s σ H locs → lv_has ls 14 [(0, .ref (rf_h v)), (1, .int (rI x1)), (2, .int (rI x2)), (3, .int (rI x3)), (4, .int (rI x4)), (5, .int (rI x5))] → W p l e (rf_rm (d + 1)) s m args below meth c H locs 0 0 (MQ below (rf_Q v σ' none) args s 0 0 (rf_F v)) (F0 m 0 ls []) := by
  obtain ⟨hx, hb, hr, hml, hown, hts, hlk, hK, hD⟩ := id B
  intro σ x1 x2 x3 x4 x5 ix1 ix2 ix3 ix4 ix5 hf H locs ls hw hl
  unfold pf_tell_0 at hf
  refine lv_aload_n hx hb dX12_tell_0 rfl (lv_at hl 0 rfl) ?_
  refine lv_iload_n hx hb dX12_tell_1 rfl (lv_at hl 3 rfl) ?_
  obtain ⟨σ1, z2, hσ1, hf⟩ := rf_cl_s hf
  obtain ⟨iz2, mσ1⟩ := hR 29 σ [x3] σ1 z2 hσ1
  have mσ1 : rf_Met l v yX12_look cX12_look 2 (some .boolean) d [.ref (rf_h v), .int (rI x3)] σ σ1 (some (.int (rI z2))) := mσ1 ix3
  refine rf_cv (n := 1) (rest := []) (As := [.int (rI x3)]) B mσ1 g_354_look (by decide +kernel) (by decide) rfl hl.1 (Nat.le_of_ble_eq_true rfl) dX12_tell_2 rfl hw (fun H locs hw => ?_)
  refine rn_if_ne (a := z2) (tgt := 9) hx hb iz2 dX12_tell_5 (by decide) (fun c3 => ?_) (fun c3 => ?_)
  · replace hf := rf_if_t hf c3
    refine lv_aload_n hx hb dX12_tell_9 rfl (lv_at hl 0 rfl) ?_
    obtain ⟨z4, ez4, iz4, hf⟩ := rf_gi_s hw hf
    refine rf_geti B hw 51 (by decide) rfl lk_324 ez4 dX12_tell_10 ?_
    refine lv_istore (lv' := [(6, .int (rI z4)), (0, .ref (rf_h v)), (1, .int (rI x1)), (2, .int (rI x2)), (3, .int (rI x3)), (4, .int (rI x4)), (5, .int (rI x5))]) hx hb dX12_tell_13 hl (by decide) rfl (fun ls hl => ?_)
    refine lv_aload_n hx hb dX12_tell_15 rfl (lv_at hl 1 rfl) ?_
    refine lv_iload_n hx hb dX12_tell_16 rfl (lv_at hl 2 rfl) ?_
    refine lv_iload_n hx hb dX12_tell_17 rfl (lv_at hl 3 rfl) ?_
    obtain ⟨σ5, z6, hσ5, hf⟩ := rf_cl_s hf
    obtain ⟨iz6, mσ5⟩ := hR 32 σ1 [x1, x2] σ5 z6 hσ5
    have mσ5 : rf_Met l v yX12_head cX12_head 8 none d [.ref (rf_h v), .int (rI x1), .int (rI x2)] σ1 σ5 none := mσ5 ix1 ix2
    refine rf_cv (n := 2) (rest := []) (As := [.int (rI x1), .int (rI x2)]) B mσ5 g_357_head (by decide +kernel) (by decide) rfl hl.1 (Nat.le_of_ble_eq_true rfl) dX12_tell_18 rfl hw (fun H locs hw => ?_)
    refine lv_aload_n hx hb dX12_tell_21 rfl (lv_at hl 1 rfl) ?_
    obtain ⟨z7, ez7, iz7, hf⟩ := rf_gi_s hw hf
    refine rf_geti B hw 72 (by decide) rfl lk_150 ez7 dX12_tell_22 ?_
    refine rn_if_eq (a := z7) (tgt := 29) hx hb iz7 dX12_tell_25 (by decide) (fun c8 => ?_) (fun c8 => ?_)
    · replace hf := rf_if_t hf c8
      refine lv_aload_n hx hb dX12_tell_29 rfl (lv_at hl 1 rfl) ?_
      obtain ⟨z9, ez9, iz9, hf⟩ := rf_gi_s hw hf
      refine rf_geti B hw 52 (by decide) rfl lk_348 ez9 dX12_tell_30 ?_
      refine lv_istore (lv' := [(7, .int (rI z9)), (6, .int (rI z4)), (0, .ref (rf_h v)), (1, .int (rI x1)), (2, .int (rI x2)), (3, .int (rI x3)), (4, .int (rI x4)), (5, .int (rI x5))]) hx hb dX12_tell_33 hl (by decide) rfl (fun ls hl => ?_)
      refine lv_aload_n hx hb dX12_tell_35 rfl (lv_at hl 2 rfl) ?_
      obtain ⟨z10, ez10, iz10, hf⟩ := rf_gi_s hw hf
      refine rf_geti B hw 53 (by decide) rfl lk_351 ez10 dX12_tell_36 ?_
      refine lv_istore (lv' := [(8, .int (rI z10)), (7, .int (rI z9)), (6, .int (rI z4)), (0, .ref (rf_h v)), (1, .int (rI x1)), (2, .int (rI x2)), (3, .int (rI x3)), (4, .int (rI x4)), (5, .int (rI x5))]) hx hb dX12_tell_39 hl (by decide) rfl (fun ls hl => ?_)
      refine lv_aload_n hx hb dX12_tell_41 rfl (lv_at hl 3 rfl) ?_
      refine lv_iload hx hb dX12_tell_42 (lv_at hl 1 rfl) ?_
      obtain ⟨σ11, z12, hσ11, hf⟩ := rf_cl_s hf
      obtain ⟨iz12, mσ11⟩ := hR 33 σ5 [z9] σ11 z12 hσ11
      have mσ11 : rf_Met l v yX12_kindOf cX12_kindOf 2 (some .int) d [.ref (rf_h v), .int (rI z9)] σ5 σ11 (some (.int (rI z12))) := mσ11 iz9
      refine rf_cv (n := 1) (rest := []) (As := [.int (rI z9)]) B mσ11 g_363_kindOf (by decide +kernel) (by decide) rfl hl.1 (Nat.le_of_ble_eq_true rfl) dX12_tell_44 rfl hw (fun H locs hw => ?_)
      refine lv_istore (lv' := [(9, .int (rI z12)), (8, .int (rI z10)), (7, .int (rI z9)), (6, .int (rI z4)), (0, .ref (rf_h v)), (1, .int (rI x1)), (2, .int (rI x2)), (3, .int (rI x3)), (4, .int (rI x4)), (5, .int (rI x5))]) hx hb dX12_tell_47 hl (by decide) rfl (fun ls hl => ?_)
      refine lv_iload hx hb dX12_tell_49 (lv_at hl 0 rfl) ?_
      refine lv_iconst (v := rI 4) hx hb dX12_tell_51 rfl ?_
      refine rn_icmp_eq (a := z12) (b := 4) (tgt := 61) hx hb iz12 ⟨by decide, by decide⟩ dX12_tell_52 (by decide) (fun c13 => ?_) (fun c13 => ?_)
      · replace hf := rf_if_t hf c13
        exact ps_tell_61 hR B σ11 x3 x4 x5 z4 z9 z10 z12 ix3 ix4 ix5 iz4 iz9 iz10 iz12 hf _ _ _ hw (lv_sub hl [4, 7, 8, 9, 3, 2, 1, 0] rfl)
      · replace hf := rf_if_f hf c13
        refine lv_iload hx hb dX12_tell_55 (lv_at hl 0 rfl) ?_
        refine lv_iconst (v := rI 5) hx hb dX12_tell_57 rfl ?_
        refine rn_icmp_ne (a := z12) (b := 5) (tgt := 65) hx hb iz12 ⟨by decide, by decide⟩ dX12_tell_58 (by decide) (fun c14 => ?_) (fun c14 => ?_)
        · replace hf := rf_if_t hf c14
          refine lv_iconst (v := rI 0) hx hb dX12_tell_65 rfl ?_
          exact ps_tell_66 hR B σ11 x3 x4 x5 z4 z9 z10 z12 0 ix3 ix4 ix5 iz4 iz9 iz10 iz12 ⟨by decide, by decide⟩ hf _ _ _ hw (lv_sub hl [4, 7, 8, 9, 3, 2, 1, 0] rfl)
        · replace hf := rf_if_f hf c14
          exact ps_tell_61 hR B σ11 x3 x4 x5 z4 z9 z10 z12 ix3 ix4 ix5 iz4 iz9 iz10 iz12 hf _ _ _ hw (lv_sub hl [4, 7, 8, 9, 3, 2, 1, 0] rfl)
    · replace hf := rf_if_f hf c8
      exact rf_retv B hf hw dX12_tell_28
  · replace hf := rf_if_f hf c3
    exact rf_retv B hf hw dX12_tell_8

set_option maxHeartbeats 4000000 in
set_option maxRecDepth 100000 in
theorem pm_tell {v : rfE} (hD : rf_D v) {l : Launch} {d : Nat} {rec : Nat → RS → List Int → Option (RS × Int)} (hR : rf_Rec l v d rec) (σ σ' : RS) (x1 x2 x3 x4 x5 r : Int) (ix1 : inR x1) (ix2 : inR x2) (ix3 : inR x3) (ix4 : inR x4) (ix5 : inR x5) (hf : pf_tell_0 rec σ x1 x2 x3 x4 x5 = some (σ', r)) : rf_Met l v yX12_tell cX12_tell 14 none (d + 1) [.ref (rf_h v), .int (rI x1), .int (rI x2), .int (rI x3), .int (rI x4), .int (rI x5)] σ σ' none := by
  refine Met.ofW (cc := cX12_tell) (maxL := 14) (ret := none) (by decide +kernel) rfl ?_
  intro p e s m args below meth c s₁ B hml hv
  obtain ⟨rfl, hM, hK⟩ := hv
  have hts := atoms_spec (ws := Cond.code yX12_tell cX12_tell 14 none :: rf_bw) B.pre
  have hB : rf_B v p s m _ meth c cX12_tell 14 none := ⟨B.exec, B.bytes, B.returns, hml, findClass_of_methodNamed B.named, fun w h => hts w (List.mem_cons_of_mem _ h), B.notSynchronized, hK, hD⟩
  have hl := lv_entry ([.ref (rf_h v), .int (rI x1), .int (rI x2), .int (rI x3), .int (rI x4), .int (rI x5)]) (n := 14) (Nat.le_of_ble_eq_true rfl)
  rw [lg_entry_eq]
  generalize (lg_sl ([.ref (rf_h v), .int (rI x1), .int (rI x2), .int (rI x3), .int (rI x4), .int (rI x5)]) ++ List.replicate (14 - (lg_sl ([.ref (rf_h v), .int (rI x1), .int (rI x2), .int (rI x3), .int (rI x4), .int (rI x5)])).length) Slot.unset).toArray = ls at hl ⊢
  exact ps_tell_0 hR hB σ x1 x2 x3 x4 x5 ix1 ix2 ix3 ix4 ix5 hf _ _ _ ⟨hM, rfl, fun _ _ => rfl, fun q h => by cases h⟩ (lv_sub hl [0, 1, 2, 3, 4, 5] rfl)

set_option maxHeartbeats 4000000 in
set_option maxRecDepth 100000 in
theorem ps_normal_63 {v : rfE} {p : Program} {l : Launch} {e : Env} {s : State} {m : MethodId} {args : Array Value} {below : List Frame} {meth : Method} {c : Code} {d : Nat} {rec : Nat → RS → List Int → Option (RS × Int)} {σ' : RS} {r : Int} (hR : rf_Rec l v d rec) (B : rf_B v p s m args meth c cX12_normal 12 (some .int)) : ∀ (σ : RS) (x3 x4 x5 x6 x7 : Int), inR x3 → inR x4 → inR x5 → inR x6 → inR x7 → pf_normal_63 rec σ x3 x4 x5 x6 x7 = some (σ', r) → ∀ (H : Heap) (locs : List Loc) (ls : Array Slot), rf_W v s σ H locs → lv_has ls 12 [(0, .ref (rf_h v)), (3, .int (rI x3)), (4, .int (rI x4)), (5, .int (rI x5)), (6, .int (rI x6)), (7, .int (rI x7))] → W p l e (rf_rm (d + 1)) s m args below meth c H locs 0 0 (MQ below (rf_Q v σ' (some (.int (rI r)))) args s 0 0 (rf_F v)) (F0 m 63 ls []) := by
  obtain ⟨hx, hb, hr, hml, hown, hts, hlk, hK, hD⟩ := id B
  intro σ x3 x4 x5 x6 x7 ix3 ix4 ix5 ix6 ix7 hf H locs ls hw hl
  unfold pf_normal_63 at hf
  refine lv_aload_n hx hb dX12_normal_63 rfl (lv_at hl 0 rfl) ?_
  refine lv_iload hx hb dX12_normal_64 (lv_at hl 5 rfl) ?_
  refine lv_iconst (v := rI (-1)) hx hb dX12_normal_66 rfl ?_
  refine lv_iconst (v := rI 0) hx hb dX12_normal_67 rfl ?_
  refine lv_iconst (v := rI 0) hx hb dX12_normal_68 rfl ?_
  refine lv_iconst (v := rI 0) hx hb dX12_normal_69 rfl ?_
  obtain ⟨σ1, z2, hσ1, hf⟩ := rf_cl_s hf
  obtain ⟨iz2, mσ1⟩ := hR 18 σ [x7, (-1), 0, 0, 0] σ1 z2 hσ1
  have mσ1 : rf_Met l v yX12_node cX12_node 6 (some .int) d [.ref (rf_h v), .int (rI x7), .int (rI (-1)), .int (rI 0), .int (rI 0), .int (rI 0)] σ σ1 (some (.int (rI z2))) := mσ1 ix7 ⟨by decide, by decide⟩ ⟨by decide, by decide⟩ ⟨by decide, by decide⟩ ⟨by decide, by decide⟩
  refine rf_cv (n := 5) (rest := []) (As := [.int (rI x7), .int (rI (-1)), .int (rI 0), .int (rI 0), .int (rI 0)]) B mσ1 g_241_node (by decide +kernel) (by decide) rfl hl.1 (Nat.le_of_ble_eq_true rfl) dX12_normal_70 rfl hw (fun H locs hw => ?_)
  refine lv_istore (lv' := [(8, .int (rI z2)), (0, .ref (rf_h v)), (3, .int (rI x3)), (4, .int (rI x4)), (5, .int (rI x5)), (6, .int (rI x6)), (7, .int (rI x7))]) hx hb dX12_normal_73 hl (by decide) rfl (fun ls hl => ?_)
  refine lv_aload_n hx hb dX12_normal_75 rfl (lv_at hl 1 rfl) ?_
  refine rf_get (val := .ref (rf_ad v 36)) B hw 36 (by decide) lk_94 rfl dX12_normal_76 ?_
  refine lv_iload hx hb dX12_normal_79 (lv_at hl 0 rfl) ?_
  refine lv_aload_n hx hb dX12_normal_81 rfl (lv_at hl 1 rfl) ?_
  refine rf_get (val := .ref (rf_ad v 36)) B hw 36 (by decide) lk_94 rfl dX12_normal_82 ?_
  refine lv_iload hx hb dX12_normal_85 (lv_at hl 4 rfl) ?_
  obtain ⟨z3, ez3, iz3, rz3, hf⟩ := rf_rd_s hw hf
  refine rf_ald B hw ix5 rz3 ez3 dX12_normal_87 ?_
  obtain ⟨σ4, eσ4, rσ4, hf⟩ := rf_wr_s hf
  refine rf_ast B hw iz2 iz3 rσ4 eσ4 dX12_normal_88 (fun H locs hw => ?_)
  refine lv_aload_n hx hb dX12_normal_89 rfl (lv_at hl 1 rfl) ?_
  refine rf_get (val := .ref (rf_ad v 37)) B hw 37 (by decide) lk_97 rfl dX12_normal_90 ?_
  refine lv_iload hx hb dX12_normal_93 (lv_at hl 0 rfl) ?_
  refine lv_aload_n hx hb dX12_normal_95 rfl (lv_at hl 1 rfl) ?_
  refine rf_get (val := .ref (rf_ad v 37)) B hw 37 (by decide) lk_97 rfl dX12_normal_96 ?_
  refine lv_iload hx hb dX12_normal_99 (lv_at hl 4 rfl) ?_
  obtain ⟨z5, ez5, iz5, rz5, hf⟩ := rf_rd_s hw hf
  refine rf_ald B hw ix5 rz5 ez5 dX12_normal_101 ?_
  obtain ⟨σ6, eσ6, rσ6, hf⟩ := rf_wr_s hf
  refine rf_ast B hw iz2 iz5 rσ6 eσ6 dX12_normal_102 (fun H locs hw => ?_)
  refine lv_aload_n hx hb dX12_normal_103 rfl (lv_at hl 1 rfl) ?_
  refine rf_get (val := .ref (rf_ad v 32)) B hw 32 (by decide) lk_82 rfl dX12_normal_104 ?_
  refine lv_iload hx hb dX12_normal_107 (lv_at hl 0 rfl) ?_
  refine lv_aload_n hx hb dX12_normal_109 rfl (lv_at hl 1 rfl) ?_
  refine lv_aload_n hx hb dX12_normal_110 rfl (lv_at hl 1 rfl) ?_
  refine rf_get (val := .ref (rf_ad v 32)) B hw 32 (by decide) lk_82 rfl dX12_normal_111 ?_
  refine lv_iload hx hb dX12_normal_114 (lv_at hl 4 rfl) ?_
  obtain ⟨z7, ez7, iz7, rz7, hf⟩ := rf_rd_s hw hf
  refine rf_ald B hw ix5 rz7 ez7 dX12_normal_116 ?_
  refine lv_iload hx hb dX12_normal_117 (lv_at hl 5 rfl) ?_
  refine lv_iload_n hx hb dX12_normal_119 rfl (lv_at hl 2 rfl) ?_
  refine lv_iconst (v := rI 1) hx hb dX12_normal_120 rfl ?_
  obtain ⟨z8, ez8, iz8, hf⟩ := rf_ck_s hf
  refine rn_add hx hb ez8 dX12_normal_121 ?_
  obtain ⟨σ9, z10, hσ9, hf⟩ := rf_cl_s hf
  obtain ⟨iz10, mσ9⟩ := hR 41 σ6 [z7, x6, z8] σ9 z10 hσ9
  have mσ9 : rf_Met l v yX12_normal cX12_normal 12 (some .int) d [.ref (rf_h v), .int (rI z7), .int (rI x6), .int (rI z8)] σ6 σ9 (some (.int (rI z10))) := mσ9 iz7 ix6 iz8
  refine rf_cv (n := 3) (rest := [.int (rI z2), .ref (rf_ad v 32)]) (As := [.int (rI z7), .int (rI x6), .int (rI z8)]) B mσ9 g_396_normal (by decide +kernel) (by decide) rfl hl.1 (Nat.le_of_ble_eq_true rfl) dX12_normal_122 rfl hw (fun H locs hw => ?_)
  obtain ⟨σ11, eσ11, rσ11, hf⟩ := rf_wr_s hf
  refine rf_ast B hw iz2 iz10 rσ11 eσ11 dX12_normal_125 (fun H locs hw => ?_)
  refine lv_aload_n hx hb dX12_normal_126 rfl (lv_at hl 1 rfl) ?_
  refine rf_get (val := .ref (rf_ad v 33)) B hw 33 (by decide) lk_85 rfl dX12_normal_127 ?_
  refine lv_iload hx hb dX12_normal_130 (lv_at hl 0 rfl) ?_
  refine lv_aload_n hx hb dX12_normal_132 rfl (lv_at hl 1 rfl) ?_
  refine lv_aload_n hx hb dX12_normal_133 rfl (lv_at hl 1 rfl) ?_
  refine rf_get (val := .ref (rf_ad v 33)) B hw 33 (by decide) lk_85 rfl dX12_normal_134 ?_
  refine lv_iload hx hb dX12_normal_137 (lv_at hl 4 rfl) ?_
  obtain ⟨z12, ez12, iz12, rz12, hf⟩ := rf_rd_s hw hf
  refine rf_ald B hw ix5 rz12 ez12 dX12_normal_139 ?_
  refine lv_aload_n hx hb dX12_normal_140 rfl (lv_at hl 1 rfl) ?_
  refine lv_iload hx hb dX12_normal_141 (lv_at hl 4 rfl) ?_
  refine lv_iload hx hb dX12_normal_143 (lv_at hl 5 rfl) ?_
  refine lv_bipush (v := rI (-2)) hx hb dX12_normal_145 (by decide +kernel) ?_
  refine lv_iload hx hb dX12_normal_147 (lv_at hl 0 rfl) ?_
  obtain ⟨z13, ez13, iz13, hf⟩ := rf_ck_s hf
  refine rn_sub hx hb ez13 dX12_normal_149 ?_
  obtain ⟨σ14, z15, hσ14, hf⟩ := rf_cl_s hf
  obtain ⟨iz15, mσ14⟩ := hR 34 σ11 [x5, x6, z13] σ14 z15 hσ14
  have mσ14 : rf_Met l v yX12_inside cX12_inside 4 (some .int) d [.ref (rf_h v), .int (rI x5), .int (rI x6), .int (rI z13)] σ11 σ14 (some (.int (rI z15))) := mσ14 ix5 ix6 iz13
  refine rf_cv (n := 3) (rest := [.int (rI z12), .ref (rf_h v), .int (rI z2), .ref (rf_ad v 33)]) (As := [.int (rI x5), .int (rI x6), .int (rI z13)]) B mσ14 g_374_inside (by decide +kernel) (by decide) rfl hl.1 (Nat.le_of_ble_eq_true rfl) dX12_normal_150 rfl hw (fun H locs hw => ?_)
  refine lv_iload_n hx hb dX12_normal_153 rfl (lv_at hl 2 rfl) ?_
  refine lv_iconst (v := rI 1) hx hb dX12_normal_154 rfl ?_
  obtain ⟨z16, ez16, iz16, hf⟩ := rf_ck_s hf
  refine rn_add hx hb ez16 dX12_normal_155 ?_
  obtain ⟨σ17, z18, hσ17, hf⟩ := rf_cl_s hf
  obtain ⟨iz18, mσ17⟩ := hR 41 σ14 [z12, z15, z16] σ17 z18 hσ17
  have mσ17 : rf_Met l v yX12_normal cX12_normal 12 (some .int) d [.ref (rf_h v), .int (rI z12), .int (rI z15), .int (rI z16)] σ14 σ17 (some (.int (rI z18))) := mσ17 iz12 iz15 iz16
  refine rf_cv (n := 3) (rest := [.int (rI z2), .ref (rf_ad v 33)]) (As := [.int (rI z12), .int (rI z15), .int (rI z16)]) B mσ17 g_396_normal (by decide +kernel) (by decide) rfl hl.1 (Nat.le_of_ble_eq_true rfl) dX12_normal_156 rfl hw (fun H locs hw => ?_)
  obtain ⟨σ19, eσ19, rσ19, hf⟩ := rf_wr_s hf
  refine rf_ast B hw iz2 iz18 rσ19 eσ19 dX12_normal_159 (fun H locs hw => ?_)
  refine lv_goto (tgt := 295) hx hb dX12_normal_160 (by decide) ?_
  refine lv_aload_n hx hb dX12_normal_295 rfl (lv_at hl 1 rfl) ?_
  refine lv_iload hx hb dX12_normal_296 (lv_at hl 3 rfl) ?_
  obtain ⟨σ20, eσ20, hf⟩ := rf_pi_s hf
  refine rf_put B hw 51 (by decide) rfl rfl lk_324 ix4 eσ20 rfl rfl dX12_normal_298 (fun H locs hw => ?_)
  refine lv_iload hx hb dX12_normal_301 (lv_at hl 0 rfl) ?_
  exact rf_reti B hf hw dX12_normal_303

