set_option maxHeartbeats 4000000 in
set_option maxRecDepth 100000 in
theorem ps_thrown_0 {v : rfE} {p : Program} {l : Launch} {e : Env} {s : State} {m : MethodId} {args : Array Value} {below : List Frame} {meth : Method} {c : Code} {d : Nat} {rec : Nat → RS → List Int → Option (RS × Int)} {σ' : RS} {r : Int} (hR : rf_Rec l v d rec) (B : rf_B v p s m args meth c cX12_thrown 1 (some .int)) : ∀ (σ : RS), pf_thrown_0 rec σ = some (σ', r) → ∀ (H : Heap) (locs : List Loc) (ls : Array Slot), rf_W v s σ H locs → lv_has ls 1 [(0, .ref (rf_h v))] → W p l e (rf_rm (d + 1)) s m args below meth c H locs 0 0 (MQ below (rf_Q v σ' (some (.int (rI r)))) args s 0 0 (rf_F v)) (F0 m 0 ls []) := by
  obtain ⟨hx, hb, hr, hml, hown, hts, hlk, hK, hD⟩ := id B
  intro σ hf H locs ls hw hl
  unfold pf_thrown_0 at hf
  refine lv_aload_n hx hb dX12_thrown_0 rfl (lv_at hl 0 rfl) ?_
  obtain ⟨z1, ez1, iz1, hf⟩ := rf_gi_s hw hf
  refine rf_geti B hw 1 (by decide) rfl lk_147 ez1 dX12_thrown_1 ?_
  exact rf_reti B hf hw dX12_thrown_4

set_option maxHeartbeats 4000000 in
set_option maxRecDepth 100000 in
theorem pm_thrown {v : rfE} (hD : rf_D v) {l : Launch} {d : Nat} {rec : Nat → RS → List Int → Option (RS × Int)} (hR : rf_Rec l v d rec) (σ σ' : RS) (r : Int) (hf : pf_thrown_0 rec σ = some (σ', r)) : rf_Met l v yX12_thrown cX12_thrown 1 (some .int) (d + 1) [.ref (rf_h v)] σ σ' (some (.int (rI r))) := by
  refine Met.ofW (cc := cX12_thrown) (maxL := 1) (ret := (some .int)) (by decide +kernel) rfl ?_
  intro p e s m args below meth c s₁ B hml hv
  obtain ⟨rfl, hM, hK⟩ := hv
  have hts := atoms_spec (ws := Cond.code yX12_thrown cX12_thrown 1 (some .int) :: rf_bw) B.pre
  have hB : rf_B v p s m _ meth c cX12_thrown 1 (some .int) := ⟨B.exec, B.bytes, B.returns, hml, findClass_of_methodNamed B.named, fun w h => hts w (List.mem_cons_of_mem _ h), B.notSynchronized, hK, hD⟩
  have hl := lv_entry ([.ref (rf_h v)]) (n := 1) (Nat.le_of_ble_eq_true rfl)
  rw [lg_entry_eq]
  generalize (lg_sl ([.ref (rf_h v)]) ++ List.replicate (1 - (lg_sl ([.ref (rf_h v)])).length) Slot.unset).toArray = ls at hl ⊢
  exact ps_thrown_0 hR hB σ hf _ _ _ ⟨hM, rfl, fun _ _ => rfl, fun q h => by cases h⟩ (lv_sub hl [0] rfl)

set_option maxHeartbeats 4000000 in
set_option maxRecDepth 100000 in
theorem ps_fail_0 {v : rfE} {p : Program} {l : Launch} {e : Env} {s : State} {m : MethodId} {args : Array Value} {below : List Frame} {meth : Method} {c : Code} {d : Nat} {rec : Nat → RS → List Int → Option (RS × Int)} {σ' : RS} {r : Int} (hR : rf_Rec l v d rec) (B : rf_B v p s m args meth c cX12_fail 2 (some .int)) : ∀ (σ : RS) (x1 : Int), inR x1 → pf_fail_0 rec σ x1 = some (σ', r) → ∀ (H : Heap) (locs : List Loc) (ls : Array Slot), rf_W v s σ H locs → lv_has ls 2 [(0, .ref (rf_h v)), (1, .int (rI x1))] → W p l e (rf_rm (d + 1)) s m args below meth c H locs 0 0 (MQ below (rf_Q v σ' (some (.int (rI r)))) args s 0 0 (rf_F v)) (F0 m 0 ls []) := by
  obtain ⟨hx, hb, hr, hml, hown, hts, hlk, hK, hD⟩ := id B
  intro σ x1 ix1 hf H locs ls hw hl
  unfold pf_fail_0 at hf
  refine lv_aload_n hx hb dX12_fail_0 rfl (lv_at hl 0 rfl) ?_
  refine lv_iload_n hx hb dX12_fail_1 rfl (lv_at hl 1 rfl) ?_
  obtain ⟨σ1, eσ1, hf⟩ := rf_pi_s hf
  refine rf_put B hw 1 (by decide) rfl rfl lk_147 ix1 eσ1 rfl rfl dX12_fail_2 (fun H locs hw => ?_)
  refine lv_iconst (v := rI 0) hx hb dX12_fail_5 rfl ?_
  exact rf_reti B hf hw dX12_fail_6

set_option maxHeartbeats 4000000 in
set_option maxRecDepth 100000 in
theorem pm_fail {v : rfE} (hD : rf_D v) {l : Launch} {d : Nat} {rec : Nat → RS → List Int → Option (RS × Int)} (hR : rf_Rec l v d rec) (σ σ' : RS) (x1 r : Int) (ix1 : inR x1) (hf : pf_fail_0 rec σ x1 = some (σ', r)) : rf_Met l v yX12_fail cX12_fail 2 (some .int) (d + 1) [.ref (rf_h v), .int (rI x1)] σ σ' (some (.int (rI r))) := by
  refine Met.ofW (cc := cX12_fail) (maxL := 2) (ret := (some .int)) (by decide +kernel) rfl ?_
  intro p e s m args below meth c s₁ B hml hv
  obtain ⟨rfl, hM, hK⟩ := hv
  have hts := atoms_spec (ws := Cond.code yX12_fail cX12_fail 2 (some .int) :: rf_bw) B.pre
  have hB : rf_B v p s m _ meth c cX12_fail 2 (some .int) := ⟨B.exec, B.bytes, B.returns, hml, findClass_of_methodNamed B.named, fun w h => hts w (List.mem_cons_of_mem _ h), B.notSynchronized, hK, hD⟩
  have hl := lv_entry ([.ref (rf_h v), .int (rI x1)]) (n := 2) (Nat.le_of_ble_eq_true rfl)
  rw [lg_entry_eq]
  generalize (lg_sl ([.ref (rf_h v), .int (rI x1)]) ++ List.replicate (2 - (lg_sl ([.ref (rf_h v), .int (rI x1)])).length) Slot.unset).toArray = ls at hl ⊢
  exact ps_fail_0 hR hB σ x1 ix1 hf _ _ _ ⟨hM, rfl, fun _ _ => rfl, fun q h => by cases h⟩ (lv_sub hl [0, 1] rfl)

set_option maxHeartbeats 4000000 in
set_option maxRecDepth 100000 in
theorem ps_wrong_0 {v : rfE} {p : Program} {l : Launch} {e : Env} {s : State} {m : MethodId} {args : Array Value} {below : List Frame} {meth : Method} {c : Code} {d : Nat} {rec : Nat → RS → List Int → Option (RS × Int)} {σ' : RS} {r : Int} (hR : rf_Rec l v d rec) (B : rf_B v p s m args meth c cX12_wrong 3 none) : ∀ (σ : RS) (x1 x2 : Int), inR x1 → inR x2 → pf_wrong_0 rec σ x1 x2 = some (σ', r) → ∀ (H : Heap) (locs : List Loc) (ls : Array Slot), rf_W v s σ H locs → lv_has ls 3 [(0, .ref (rf_h v)), (1, .int (rI x1)), (2, .int (rI x2))] → W p l e (rf_rm (d + 1)) s m args below meth c H locs 0 0 (MQ below (rf_Q v σ' none) args s 0 0 (rf_F v)) (F0 m 0 ls []) := by
  obtain ⟨hx, hb, hr, hml, hown, hts, hlk, hK, hD⟩ := id B
  intro σ x1 x2 ix1 ix2 hf H locs ls hw hl
  unfold pf_wrong_0 at hf
  refine lv_aload_n hx hb dX12_wrong_0 rfl (lv_at hl 0 rfl) ?_
  obtain ⟨z1, ez1, iz1, hf⟩ := rf_gi_s hw hf
  refine rf_geti B hw 72 (by decide) rfl lk_150 ez1 dX12_wrong_1 ?_
  refine rn_if_eq (a := z1) (tgt := 8) hx hb iz1 dX12_wrong_4 (by decide) (fun c2 => ?_) (fun c2 => ?_)
  · replace hf := rf_if_t hf c2
    refine lv_aload_n hx hb dX12_wrong_8 rfl (lv_at hl 0 rfl) ?_
    refine lv_iload_n hx hb dX12_wrong_9 rfl (lv_at hl 1 rfl) ?_
    obtain ⟨σ3, eσ3, hf⟩ := rf_pi_s hf
    refine rf_put B hw 72 (by decide) rfl rfl lk_150 ix1 eσ3 rfl rfl dX12_wrong_10 (fun H locs hw => ?_)
    refine lv_aload_n hx hb dX12_wrong_13 rfl (lv_at hl 0 rfl) ?_
    refine lv_iload_n hx hb dX12_wrong_14 rfl (lv_at hl 2 rfl) ?_
    obtain ⟨σ4, eσ4, hf⟩ := rf_pi_s hf
    refine rf_put B hw 73 (by decide) rfl rfl lk_153 ix2 eσ4 rfl rfl dX12_wrong_15 (fun H locs hw => ?_)
    exact rf_retv B hf hw dX12_wrong_18
  · replace hf := rf_if_f hf c2
    exact rf_retv B hf hw dX12_wrong_7

set_option maxHeartbeats 4000000 in
set_option maxRecDepth 100000 in
theorem pm_wrong {v : rfE} (hD : rf_D v) {l : Launch} {d : Nat} {rec : Nat → RS → List Int → Option (RS × Int)} (hR : rf_Rec l v d rec) (σ σ' : RS) (x1 x2 r : Int) (ix1 : inR x1) (ix2 : inR x2) (hf : pf_wrong_0 rec σ x1 x2 = some (σ', r)) : rf_Met l v yX12_wrong cX12_wrong 3 none (d + 1) [.ref (rf_h v), .int (rI x1), .int (rI x2)] σ σ' none := by
  refine Met.ofW (cc := cX12_wrong) (maxL := 3) (ret := none) (by decide +kernel) rfl ?_
  intro p e s m args below meth c s₁ B hml hv
  obtain ⟨rfl, hM, hK⟩ := hv
  have hts := atoms_spec (ws := Cond.code yX12_wrong cX12_wrong 3 none :: rf_bw) B.pre
  have hB : rf_B v p s m _ meth c cX12_wrong 3 none := ⟨B.exec, B.bytes, B.returns, hml, findClass_of_methodNamed B.named, fun w h => hts w (List.mem_cons_of_mem _ h), B.notSynchronized, hK, hD⟩
  have hl := lv_entry ([.ref (rf_h v), .int (rI x1), .int (rI x2)]) (n := 3) (Nat.le_of_ble_eq_true rfl)
  rw [lg_entry_eq]
  generalize (lg_sl ([.ref (rf_h v), .int (rI x1), .int (rI x2)]) ++ List.replicate (3 - (lg_sl ([.ref (rf_h v), .int (rI x1), .int (rI x2)])).length) Slot.unset).toArray = ls at hl ⊢
  exact ps_wrong_0 hR hB σ x1 x2 ix1 ix2 hf _ _ _ ⟨hM, rfl, fun _ _ => rfl, fun q h => by cases h⟩ (lv_sub hl [0, 1, 2] rfl)

set_option maxHeartbeats 4000000 in
set_option maxRecDepth 100000 in
theorem ps_newSort_2 {v : rfE} {p : Program} {l : Launch} {e : Env} {s : State} {m : MethodId} {args : Array Value} {below : List Frame} {meth : Method} {c : Code} {d : Nat} {rec : Nat → RS → List Int → Option (RS × Int)} {σ' : RS} {r : Int} (hR : rf_Rec l v d rec) (hd3 : 3 ≤ d) (B : rf_B v p s m args meth c cX12_newSort 3 (some .int)) (b1 : Int) : ∀ (n : Nat) (σ : RS) (x2 : Int), inR x2 → pf_newSort_2 rec b1 n σ x2 = some (σ', r) → ∀ (H : Heap) (locs : List Loc) (ls : Array Slot), rf_W v s σ H locs → lv_has ls 3 [(0, .ref (rf_h v)), (1, .ref (rf_ad v (100 + Int.toNat b1))), (2, .int (rI x2))] → W p l e (rf_rm (d + 1)) s m args below meth c H locs 0 0 (MQ below (rf_Q v σ' (some (.int (rI r)))) args s 0 0 (rf_F v)) (F0 m 2 ls []) := by
  obtain ⟨hx, hb, hr, hml, hown, hts, hlk, hK, hD⟩ := id B
  intro n
  induction n with
  | zero => intro σ x2 ix2 hf; cases hf
  | succ n ih =>
    intro σ x2 ix2 hf H locs ls hw hl
    unfold pf_newSort_2 at hf
    refine lv_iload_n hx hb dX12_newSort_2 rfl (lv_at hl 2 rfl) ?_
    refine lv_aload_n hx hb dX12_newSort_3 rfl (lv_at hl 1 rfl) ?_
    obtain ⟨z1, ez1, iz1, rz1, hf⟩ := rf_sL_s hf
    refine rf_cj (n := 0) (i := Int.toNat b1) (rest := [.int (rI x2)]) (As := []) B (by omega) (rf_slen hd3 rz1 ez1) gj_156_length (by decide +kernel) (by decide) rfl hl.1 (Nat.le_of_ble_eq_true rfl) dX12_newSort_4 rfl hw ?_
    refine rn_icmp_ge (a := x2) (b := z1) (tgt := 35) hx hb ix2 iz1 dX12_newSort_7 (by decide) (fun c2 => ?_) (fun c2 => ?_)
    · replace hf := rf_if_t hf c2
      refine lv_aload_n hx hb dX12_newSort_35 rfl (lv_at hl 0 rfl) ?_
      refine rf_get (val := .ref (rf_ad v 17)) B hw 17 (by decide) lk_47 rfl dX12_newSort_36 ?_
      refine lv_aload_n hx hb dX12_newSort_39 rfl (lv_at hl 0 rfl) ?_
      obtain ⟨z3, ez3, iz3, hf⟩ := rf_gi_s hw hf
      refine rf_geti B hw 20 (by decide) rfl lk_160 ez3 dX12_newSort_40 ?_
      refine lv_aload_n hx hb dX12_newSort_43 rfl (lv_at hl 1 rfl) ?_
      obtain ⟨z4, ez4, iz4, rz4, hf⟩ := rf_sL_s hf
      refine rf_cj (n := 0) (i := Int.toNat b1) (rest := [.int (rI z3), .ref (rf_ad v 17)]) (As := []) B (by omega) (rf_slen hd3 rz4 ez4) gj_156_length (by decide +kernel) (by decide) rfl hl.1 (Nat.le_of_ble_eq_true rfl) dX12_newSort_44 rfl hw ?_
      obtain ⟨σ5, eσ5, rσ5, hf⟩ := rf_wr_s hf
      refine rf_ast B hw iz3 iz4 rσ5 eσ5 dX12_newSort_47 (fun H locs hw => ?_)
      refine lv_aload_n hx hb dX12_newSort_48 rfl (lv_at hl 0 rfl) ?_
      refine rf_get (val := .ref (rf_ad v 18)) B hw 18 (by decide) lk_50 rfl dX12_newSort_49 ?_
      refine lv_aload_n hx hb dX12_newSort_52 rfl (lv_at hl 0 rfl) ?_
      obtain ⟨z6, ez6, iz6, hf⟩ := rf_gi_s hw hf
      refine rf_geti B hw 20 (by decide) rfl lk_160 ez6 dX12_newSort_53 ?_
      refine lv_iconst (v := rI (-1)) hx hb dX12_newSort_56 rfl ?_
      obtain ⟨σ7, eσ7, rσ7, hf⟩ := rf_wr_s hf
      refine rf_ast B hw iz6 ⟨by decide, by decide⟩ rσ7 eσ7 dX12_newSort_57 (fun H locs hw => ?_)
      refine lv_aload_n hx hb dX12_newSort_58 rfl (lv_at hl 0 rfl) ?_
      refine rf_get (val := .ref (rf_ad v 30)) B hw 30 (by decide) lk_76 rfl dX12_newSort_59 ?_
      refine lv_aload_n hx hb dX12_newSort_62 rfl (lv_at hl 0 rfl) ?_
      obtain ⟨z8, ez8, iz8, hf⟩ := rf_gi_s hw hf
      refine rf_geti B hw 20 (by decide) rfl lk_160 ez8 dX12_newSort_63 ?_
      refine lv_iconst (v := rI 3) hx hb dX12_newSort_66 rfl ?_
      obtain ⟨σ9, eσ9, rσ9, hf⟩ := rf_wr_s hf
      refine rf_ast B hw iz8 ⟨by decide, by decide⟩ rσ9 eσ9 dX12_newSort_67 (fun H locs hw => ?_)
      refine lv_aload_n hx hb dX12_newSort_68 rfl (lv_at hl 0 rfl) ?_
      refine rf_get (val := .ref (rf_ad v 31)) B hw 31 (by decide) lk_79 rfl dX12_newSort_69 ?_
      refine lv_aload_n hx hb dX12_newSort_72 rfl (lv_at hl 0 rfl) ?_
      obtain ⟨z10, ez10, iz10, hf⟩ := rf_gi_s hw hf
      refine rf_geti B hw 20 (by decide) rfl lk_160 ez10 dX12_newSort_73 ?_
      refine lv_aload_n hx hb dX12_newSort_76 rfl (lv_at hl 0 rfl) ?_
      obtain ⟨z11, ez11, iz11, hf⟩ := rf_gi_s hw hf
      refine rf_geti B hw 20 (by decide) rfl lk_160 ez11 dX12_newSort_77 ?_
      obtain ⟨σ12, eσ12, rσ12, hf⟩ := rf_wr_s hf
      refine rf_ast B hw iz10 iz11 rσ12 eσ12 dX12_newSort_80 (fun H locs hw => ?_)
      refine lv_aload_n hx hb dX12_newSort_81 rfl (lv_at hl 0 rfl) ?_
      refine lv_dup hx hb dX12_newSort_82 rfl ?_
      obtain ⟨z13, ez13, iz13, hf⟩ := rf_gi_s hw hf
      refine rf_geti B hw 20 (by decide) rfl lk_160 ez13 dX12_newSort_83 ?_
      refine lv_iconst (v := rI 1) hx hb dX12_newSort_86 rfl ?_
      obtain ⟨z14, ez14, iz14, hf⟩ := rf_ck_s hf
      refine rn_add hx hb ez14 dX12_newSort_87 ?_
      obtain ⟨σ15, eσ15, hf⟩ := rf_pi_s hf
      refine rf_put B hw 20 (by decide) rfl rfl lk_160 iz14 eσ15 rfl rfl dX12_newSort_88 (fun H locs hw => ?_)
      refine lv_aload_n hx hb dX12_newSort_91 rfl (lv_at hl 0 rfl) ?_
      obtain ⟨z16, ez16, iz16, hf⟩ := rf_gi_s hw hf
      refine rf_geti B hw 20 (by decide) rfl lk_160 ez16 dX12_newSort_92 ?_
      refine lv_iconst (v := rI 1) hx hb dX12_newSort_95 rfl ?_
      obtain ⟨z17, ez17, iz17, hf⟩ := rf_ck_s hf
      refine rn_sub hx hb ez17 dX12_newSort_96 ?_
      exact rf_reti B hf hw dX12_newSort_97
    · replace hf := rf_if_f hf c2
      refine lv_aload_n hx hb dX12_newSort_10 rfl (lv_at hl 0 rfl) ?_
      refine rf_get (val := .ref (rf_ad v 16)) B hw 16 (by decide) lk_44 rfl dX12_newSort_11 ?_
      refine lv_bipush (v := rI 12) hx hb dX12_newSort_14 (by decide +kernel) ?_
      refine lv_aload_n hx hb dX12_newSort_16 rfl (lv_at hl 0 rfl) ?_
      obtain ⟨z18, ez18, iz18, hf⟩ := rf_gi_s hw hf
      refine rf_geti B hw 20 (by decide) rfl lk_160 ez18 dX12_newSort_17 ?_
      obtain ⟨z19, ez19, iz19, hf⟩ := rf_ck_s hf
      refine rn_mul hx hb ez19 dX12_newSort_20 ?_
      refine lv_iload_n hx hb dX12_newSort_21 rfl (lv_at hl 2 rfl) ?_
      obtain ⟨z20, ez20, iz20, hf⟩ := rf_ck_s hf
      refine rn_add hx hb ez20 dX12_newSort_22 ?_
      refine lv_aload_n hx hb dX12_newSort_23 rfl (lv_at hl 1 rfl) ?_
      refine lv_iload_n hx hb dX12_newSort_24 rfl (lv_at hl 2 rfl) ?_
      obtain ⟨z21, ez21, iz21, rz21, hf⟩ := rf_sC_s hf
      refine rf_cj (n := 1) (i := Int.toNat b1) (rest := [.int (rI z20), .ref (rf_ad v 16)]) (As := [.int (rI x2)]) B (by omega) (rf_schr hd3 rz21 ez21) gj_163_charAt (by decide +kernel) (by decide) rfl hl.1 (Nat.le_of_ble_eq_true rfl) dX12_newSort_25 rfl hw ?_
      obtain ⟨σ22, eσ22, rσ22, hf⟩ := rf_wr_s hf
      refine rf_ast B hw iz20 iz21 rσ22 eσ22 dX12_newSort_28 (fun H locs hw => ?_)
      obtain ⟨z23, ez23, iz23, hf⟩ := rf_ck_s hf
      refine lv_iinc (v := rI z23) (lv' := [(2, .int (rI z23)), (0, .ref (rf_h v)), (1, .ref (rf_ad v (100 + Int.toNat b1)))]) hx hb dX12_newSort_29 hl (k := 2) rfl (by rw [ez23]; exact rI_add _ _) (by decide) rfl (fun ls hl => ?_)
      refine lv_goto (tgt := 2) hx hb dX12_newSort_32 (by decide) ?_
      exact ih σ22 z23 iz23 hf _ _ _ hw (lv_sub hl [1, 2, 0] rfl)

set_option maxHeartbeats 4000000 in
set_option maxRecDepth 100000 in
theorem ps_newSort_0 {v : rfE} {p : Program} {l : Launch} {e : Env} {s : State} {m : MethodId} {args : Array Value} {below : List Frame} {meth : Method} {c : Code} {d : Nat} {rec : Nat → RS → List Int → Option (RS × Int)} {σ' : RS} {r : Int} (hR : rf_Rec l v d rec) (hd3 : 3 ≤ d) (B : rf_B v p s m args meth c cX12_newSort 3 (some .int)) (b1 : Int) : ∀ (σ : RS), pf_newSort_0 rec b1 σ = some (σ', r) → ∀ (H : Heap) (locs : List Loc) (ls : Array Slot), rf_W v s σ H locs → lv_has ls 3 [(0, .ref (rf_h v)), (1, .ref (rf_ad v (100 + Int.toNat b1)))] → W p l e (rf_rm (d + 1)) s m args below meth c H locs 0 0 (MQ below (rf_Q v σ' (some (.int (rI r)))) args s 0 0 (rf_F v)) (F0 m 0 ls []) := by
  obtain ⟨hx, hb, hr, hml, hown, hts, hlk, hK, hD⟩ := id B
  intro σ hf H locs ls hw hl
  unfold pf_newSort_0 at hf
  refine lv_iconst (v := rI 0) hx hb dX12_newSort_0 rfl ?_
  refine lv_istore_n (lv' := [(2, .int (rI 0)), (0, .ref (rf_h v)), (1, .ref (rf_ad v (100 + Int.toNat b1)))]) hx hb dX12_newSort_1 rfl hl (by decide) rfl (fun ls hl => ?_)
  exact ps_newSort_2 hR hd3 B b1 200000 σ 0 ⟨by decide, by decide⟩ hf _ _ _ hw (lv_sub hl [1, 2, 0] rfl)

set_option maxHeartbeats 4000000 in
set_option maxRecDepth 100000 in
theorem pm_newSort {v : rfE} (hD : rf_D v) {l : Launch} {d : Nat} {rec : Nat → RS → List Int → Option (RS × Int)} (hR : rf_Rec l v d rec) (hd3 : 3 ≤ d) (σ σ' : RS) (b1 r : Int) (hf : pf_newSort_0 rec b1 σ = some (σ', r)) : rf_Met l v yX12_newSort cX12_newSort 3 (some .int) (d + 1) [.ref (rf_h v), .ref (rf_ad v (100 + Int.toNat b1))] σ σ' (some (.int (rI r))) := by
  refine Met.ofW (cc := cX12_newSort) (maxL := 3) (ret := (some .int)) (by decide +kernel) rfl ?_
  intro p e s m args below meth c s₁ B hml hv
  obtain ⟨rfl, hM, hK⟩ := hv
  have hts := atoms_spec (ws := Cond.code yX12_newSort cX12_newSort 3 (some .int) :: rf_bw) B.pre
  have hB : rf_B v p s m _ meth c cX12_newSort 3 (some .int) := ⟨B.exec, B.bytes, B.returns, hml, findClass_of_methodNamed B.named, fun w h => hts w (List.mem_cons_of_mem _ h), B.notSynchronized, hK, hD⟩
  have hl := lv_entry ([.ref (rf_h v), .ref (rf_ad v (100 + Int.toNat b1))]) (n := 3) (Nat.le_of_ble_eq_true rfl)
  rw [lg_entry_eq]
  generalize (lg_sl ([.ref (rf_h v), .ref (rf_ad v (100 + Int.toNat b1))]) ++ List.replicate (3 - (lg_sl ([.ref (rf_h v), .ref (rf_ad v (100 + Int.toNat b1))])).length) Slot.unset).toArray = ls at hl ⊢
  exact ps_newSort_0 hR hd3 hB b1 σ hf _ _ _ ⟨hM, rfl, fun _ _ => rfl, fun q h => by cases h⟩ (lv_sub hl [0, 1] rfl)

set_option maxHeartbeats 4000000 in
set_option maxRecDepth 100000 in
theorem ps_table_139 {v : rfE} {p : Program} {l : Launch} {e : Env} {s : State} {m : MethodId} {args : Array Value} {below : List Frame} {meth : Method} {c : Code} {d : Nat} {rec : Nat → RS → List Int → Option (RS × Int)} {σ' : RS} {r : Int} (hR : rf_Rec l v d rec) (hd3 : 3 ≤ d) (B : rf_B v p s m args meth c cX12_table 4 none) : ∀ (σ : RS) (x1 x2 x3 : Int), inR x1 → inR x2 → inR x3 → pf_table_139 rec σ x1 x2 x3 = some (σ', r) → ∀ (H : Heap) (locs : List Loc) (ls : Array Slot), rf_W v s σ H locs → lv_has ls 4 [(0, .ref (rf_h v)), (1, .int (rI x1)), (2, .int (rI x2)), (3, .int (rI x3))] → W p l e (rf_rm (d + 1)) s m args below meth c H locs 0 0 (MQ below (rf_Q v σ' none) args s 0 0 (rf_F v)) (F0 m 139 ls []) := by
  obtain ⟨hx, hb, hr, hml, hown, hts, hlk, hK, hD⟩ := id B
  intro σ x1 x2 x3 ix1 ix2 ix3 hf H locs ls hw hl
  unfold pf_table_139 at hf
  refine lv_iload_n hx hb dX12_table_139 rfl (lv_at hl 1 rfl) ?_
  refine lv_iconst (v := rI 4) hx hb dX12_table_140 rfl ?_
  obtain ⟨z1, ez1, iz1, hf⟩ := rf_nm_s hf
  refine lv_iand hx hb dX12_table_141 ?_
  refine rn_top ez1 ?_
  refine rn_if_eq (a := z1) (tgt := 157) hx hb iz1 dX12_table_142 (by decide) (fun c2 => ?_) (fun c2 => ?_)
  · replace hf := rf_if_t hf c2
    exact rf_retv B hf hw dX12_table_157
  · replace hf := rf_if_f hf c2
    refine lv_aload_n hx hb dX12_table_145 rfl (lv_at hl 0 rfl) ?_
    refine rf_get (val := .ref (rf_ad v 19)) B hw 19 (by decide) lk_52 rfl dX12_table_146 ?_
    refine lv_bipush (v := rI 8) hx hb dX12_table_149 (by decide +kernel) ?_
    refine lv_iload_n hx hb dX12_table_151 rfl (lv_at hl 2 rfl) ?_
    obtain ⟨z3, ez3, iz3, hf⟩ := rf_ck_s hf
    refine rn_mul hx hb ez3 dX12_table_152 ?_
    refine lv_iload_n hx hb dX12_table_153 rfl (lv_at hl 3 rfl) ?_
    obtain ⟨z4, ez4, iz4, hf⟩ := rf_ck_s hf
    refine rn_add hx hb ez4 dX12_table_154 ?_
    refine lv_iload_n hx hb dX12_table_155 rfl (lv_at hl 3 rfl) ?_
    obtain ⟨σ5, eσ5, rσ5, hf⟩ := rf_wr_s hf
    refine rf_ast B hw iz4 ix3 rσ5 eσ5 dX12_table_156 (fun H locs hw => ?_)
    exact rf_retv B hf hw dX12_table_157

set_option maxHeartbeats 4000000 in
set_option maxRecDepth 100000 in
theorem ps_table_121 {v : rfE} {p : Program} {l : Launch} {e : Env} {s : State} {m : MethodId} {args : Array Value} {below : List Frame} {meth : Method} {c : Code} {d : Nat} {rec : Nat → RS → List Int → Option (RS × Int)} {σ' : RS} {r : Int} (hR : rf_Rec l v d rec) (hd3 : 3 ≤ d) (B : rf_B v p s m args meth c cX12_table 4 none) : ∀ (σ : RS) (x1 x2 x3 : Int), inR x1 → inR x2 → inR x3 → pf_table_121 rec σ x1 x2 x3 = some (σ', r) → ∀ (H : Heap) (locs : List Loc) (ls : Array Slot), rf_W v s σ H locs → lv_has ls 4 [(0, .ref (rf_h v)), (1, .int (rI x1)), (2, .int (rI x2)), (3, .int (rI x3))] → W p l e (rf_rm (d + 1)) s m args below meth c H locs 0 0 (MQ below (rf_Q v σ' none) args s 0 0 (rf_F v)) (F0 m 121 ls []) := by
  obtain ⟨hx, hb, hr, hml, hown, hts, hlk, hK, hD⟩ := id B
  intro σ x1 x2 x3 ix1 ix2 ix3 hf H locs ls hw hl
  unfold pf_table_121 at hf
  refine lv_iload_n hx hb dX12_table_121 rfl (lv_at hl 1 rfl) ?_
  refine lv_iconst (v := rI 2) hx hb dX12_table_122 rfl ?_
  obtain ⟨z1, ez1, iz1, hf⟩ := rf_nm_s hf
  refine lv_iand hx hb dX12_table_123 ?_
  refine rn_top ez1 ?_
  refine rn_if_eq (a := z1) (tgt := 139) hx hb iz1 dX12_table_124 (by decide) (fun c2 => ?_) (fun c2 => ?_)
  · replace hf := rf_if_t hf c2
    exact ps_table_139 hR hd3 B σ x1 x2 x3 ix1 ix2 ix3 hf _ _ _ hw (lv_sub hl [0, 1, 2, 3] rfl)
  · replace hf := rf_if_f hf c2
    refine lv_aload_n hx hb dX12_table_127 rfl (lv_at hl 0 rfl) ?_
    refine rf_get (val := .ref (rf_ad v 19)) B hw 19 (by decide) lk_52 rfl dX12_table_128 ?_
    refine lv_bipush (v := rI 8) hx hb dX12_table_131 (by decide +kernel) ?_
    refine lv_iload_n hx hb dX12_table_133 rfl (lv_at hl 3 rfl) ?_
    obtain ⟨z3, ez3, iz3, hf⟩ := rf_ck_s hf
    refine rn_mul hx hb ez3 dX12_table_134 ?_
    refine lv_iload_n hx hb dX12_table_135 rfl (lv_at hl 3 rfl) ?_
    obtain ⟨z4, ez4, iz4, hf⟩ := rf_ck_s hf
    refine rn_add hx hb ez4 dX12_table_136 ?_
    refine lv_iload_n hx hb dX12_table_137 rfl (lv_at hl 3 rfl) ?_
    obtain ⟨σ5, eσ5, rσ5, hf⟩ := rf_wr_s hf
    refine rf_ast B hw iz4 ix3 rσ5 eσ5 dX12_table_138 (fun H locs hw => ?_)
    exact ps_table_139 hR hd3 B σ5 x1 x2 x3 ix1 ix2 ix3 hf _ _ _ hw (lv_sub hl [0, 1, 2, 3] rfl)

set_option maxHeartbeats 4000000 in
set_option maxRecDepth 100000 in
theorem ps_table_28 {v : rfE} {p : Program} {l : Launch} {e : Env} {s : State} {m : MethodId} {args : Array Value} {below : List Frame} {meth : Method} {c : Code} {d : Nat} {rec : Nat → RS → List Int → Option (RS × Int)} {σ' : RS} {r : Int} (hR : rf_Rec l v d rec) (hd3 : 3 ≤ d) (B : rf_B v p s m args meth c cX12_table 4 none) : ∀ (n : Nat) (σ : RS) (x1 x2 : Int), inR x1 → inR x2 → pf_table_28 rec n σ x1 x2 = some (σ', r) → ∀ (H : Heap) (locs : List Loc) (ls : Array Slot), rf_W v s σ H locs → lv_has ls 4 [(0, .ref (rf_h v)), (1, .int (rI x1)), (2, .int (rI x2))] → W p l e (rf_rm (d + 1)) s m args below meth c H locs 0 0 (MQ below (rf_Q v σ' none) args s 0 0 (rf_F v)) (F0 m 28 ls []) := by
  obtain ⟨hx, hb, hr, hml, hown, hts, hlk, hK, hD⟩ := id B
  intro n
  induction n with
  | zero => intro σ x1 x2 ix1 ix2 hf; cases hf
  | succ n ih =>
    intro σ x1 x2 ix1 ix2 hf H locs ls hw hl
    unfold pf_table_28 at hf
    refine lv_iload_n hx hb dX12_table_28 rfl (lv_at hl 2 rfl) ?_
    refine lv_bipush (v := rI 8) hx hb dX12_table_29 (by decide +kernel) ?_
    refine rn_icmp_ge (a := x2) (b := 8) (tgt := 47) hx hb ix2 ⟨by decide, by decide⟩ dX12_table_31 (by decide) (fun c1 => ?_) (fun c1 => ?_)
    · replace hf := rf_if_t hf c1
      refine lv_aload_n hx hb dX12_table_47 rfl (lv_at hl 0 rfl) ?_
      refine lv_iconst (v := rI 0) hx hb dX12_table_48 rfl ?_
      obtain ⟨σ2, eσ2, hf⟩ := rf_pi_s hf
      refine rf_put B hw 27 (by decide) rfl rfl lk_167 ⟨by decide, by decide⟩ eσ2 rfl rfl dX12_table_49 (fun H locs hw => ?_)
      refine lv_aload_n hx hb dX12_table_52 rfl (lv_at hl 0 rfl) ?_
      refine lv_iconst (v := rI 0) hx hb dX12_table_53 rfl ?_
      obtain ⟨σ3, eσ3, hf⟩ := rf_pi_s hf
      refine rf_put B hw 29 (by decide) rfl rfl lk_170 ⟨by decide, by decide⟩ eσ3 rfl rfl dX12_table_54 (fun H locs hw => ?_)
      refine lv_aload_n hx hb dX12_table_57 rfl (lv_at hl 0 rfl) ?_
      refine lv_bipush (v := rI 8) hx hb dX12_table_58 (by decide +kernel) ?_
      obtain ⟨σ4, eσ4, hf⟩ := rf_pi_s hf
      refine rf_put B hw 39 (by decide) rfl rfl lk_173 ⟨by decide, by decide⟩ eσ4 rfl rfl dX12_table_60 (fun H locs hw => ?_)
      refine lv_iload_n hx hb dX12_table_63 rfl (lv_at hl 1 rfl) ?_
      refine lv_bipush (v := rI 8) hx hb dX12_table_64 (by decide +kernel) ?_
      refine rn_icmp_ne (a := x1) (b := 8) (tgt := 70) hx hb ix1 ⟨by decide, by decide⟩ dX12_table_66 (by decide) (fun c5 => ?_) (fun c5 => ?_)
      · replace hf := rf_if_t hf c5
        refine lv_aload_n hx hb dX12_table_70 rfl (lv_at hl 0 rfl) ?_
        refine va_ldcS (q := rf_ad v (100 + Int.toNat 9)) hx hb hown hK.2.2.2.2.1 dX12_table_71 ?_
        obtain ⟨σ6, z7, hσ6, hf⟩ := rf_cl_s hf
        obtain ⟨iz7, mσ6⟩ := hR 4 σ4 [9] σ6 z7 hσ6
        have mσ6 : rf_Met l v yX12_newSort cX12_newSort 3 (some .int) d [.ref (rf_h v), .ref (rf_ad v (100 + Int.toNat 9))] σ4 σ6 (some (.int (rI z7))) := mσ6
        refine rf_cv (n := 1) (rest := []) (As := [.ref (rf_ad v (100 + Int.toNat 9))]) B mσ6 g_178_newSort (by decide +kernel) (by decide) rfl hl.1 (Nat.le_of_ble_eq_true rfl) dX12_table_73 rfl hw (fun H locs hw => ?_)
        refine lv_istore_n (lv' := [(2, .int (rI z7)), (0, .ref (rf_h v)), (1, .int (rI x1))]) hx hb dX12_table_76 rfl hl (by decide) rfl (fun ls hl => ?_)
        refine lv_aload_n hx hb dX12_table_77 rfl (lv_at hl 1 rfl) ?_
        refine va_ldcS (q := rf_ad v (100 + Int.toNat 10)) hx hb hown hK.2.2.2.2.2 dX12_table_78 ?_
        obtain ⟨σ8, z9, hσ8, hf⟩ := rf_cl_s hf
        obtain ⟨iz9, mσ8⟩ := hR 4 σ6 [10] σ8 z9 hσ8
        have mσ8 : rf_Met l v yX12_newSort cX12_newSort 3 (some .int) d [.ref (rf_h v), .ref (rf_ad v (100 + Int.toNat 10))] σ6 σ8 (some (.int (rI z9))) := mσ8
        refine rf_cv (n := 1) (rest := []) (As := [.ref (rf_ad v (100 + Int.toNat 10))]) B mσ8 g_178_newSort (by decide +kernel) (by decide) rfl hl.1 (Nat.le_of_ble_eq_true rfl) dX12_table_80 rfl hw (fun H locs hw => ?_)
        refine lv_istore_n (lv' := [(3, .int (rI z9)), (2, .int (rI z7)), (0, .ref (rf_h v)), (1, .int (rI x1))]) hx hb dX12_table_83 rfl hl (by decide) rfl (fun ls hl => ?_)
        refine lv_aload_n hx hb dX12_table_84 rfl (lv_at hl 2 rfl) ?_
        refine rf_get (val := .ref (rf_ad v 18)) B hw 18 (by decide) lk_50 rfl dX12_table_85 ?_
        refine lv_iload_n hx hb dX12_table_88 rfl (lv_at hl 1 rfl) ?_
        refine lv_iload_n hx hb dX12_table_89 rfl (lv_at hl 0 rfl) ?_
        obtain ⟨σ10, eσ10, rσ10, hf⟩ := rf_wr_s hf
        refine rf_ast B hw iz7 iz9 rσ10 eσ10 dX12_table_90 (fun H locs hw => ?_)
        refine lv_aload_n hx hb dX12_table_91 rfl (lv_at hl 2 rfl) ?_
        refine rf_get (val := .ref (rf_ad v 19)) B hw 19 (by decide) lk_52 rfl dX12_table_92 ?_
        refine lv_bipush (v := rI 8) hx hb dX12_table_95 (by decide +kernel) ?_
        refine lv_iload_n hx hb dX12_table_97 rfl (lv_at hl 1 rfl) ?_
        obtain ⟨z11, ez11, iz11, hf⟩ := rf_ck_s hf
        refine rn_mul hx hb ez11 dX12_table_98 ?_
        refine lv_iload_n hx hb dX12_table_99 rfl (lv_at hl 1 rfl) ?_
        obtain ⟨z12, ez12, iz12, hf⟩ := rf_ck_s hf
        refine rn_add hx hb ez12 dX12_table_100 ?_
        refine lv_iload_n hx hb dX12_table_101 rfl (lv_at hl 1 rfl) ?_
        obtain ⟨σ13, eσ13, rσ13, hf⟩ := rf_wr_s hf
        refine rf_ast B hw iz12 iz7 rσ13 eσ13 dX12_table_102 (fun H locs hw => ?_)
        refine lv_iload_n hx hb dX12_table_103 rfl (lv_at hl 3 rfl) ?_
        refine lv_iconst (v := rI 1) hx hb dX12_table_104 rfl ?_
        obtain ⟨z14, ez14, iz14, hf⟩ := rf_nm_s hf
        refine lv_iand hx hb dX12_table_105 ?_
        refine rn_top ez14 ?_
        refine rn_if_eq (a := z14) (tgt := 121) hx hb iz14 dX12_table_106 (by decide) (fun c15 => ?_) (fun c15 => ?_)
        · replace hf := rf_if_t hf c15
          exact ps_table_121 hR hd3 B σ13 x1 z7 z9 ix1 iz7 iz9 hf _ _ _ hw (lv_sub hl [2, 3, 1, 0] rfl)
        · replace hf := rf_if_f hf c15
          refine lv_aload_n hx hb dX12_table_109 rfl (lv_at hl 2 rfl) ?_
          refine rf_get (val := .ref (rf_ad v 19)) B hw 19 (by decide) lk_52 rfl dX12_table_110 ?_
          refine lv_bipush (v := rI 8) hx hb dX12_table_113 (by decide +kernel) ?_
          refine lv_iload_n hx hb dX12_table_115 rfl (lv_at hl 0 rfl) ?_
          obtain ⟨z16, ez16, iz16, hf⟩ := rf_ck_s hf
          refine rn_mul hx hb ez16 dX12_table_116 ?_
          refine lv_iload_n hx hb dX12_table_117 rfl (lv_at hl 1 rfl) ?_
          obtain ⟨z17, ez17, iz17, hf⟩ := rf_ck_s hf
          refine rn_add hx hb ez17 dX12_table_118 ?_
          refine lv_iload_n hx hb dX12_table_119 rfl (lv_at hl 1 rfl) ?_
          obtain ⟨σ18, eσ18, rσ18, hf⟩ := rf_wr_s hf
          refine rf_ast B hw iz17 iz7 rσ18 eσ18 dX12_table_120 (fun H locs hw => ?_)
          exact ps_table_121 hR hd3 B σ18 x1 z7 z9 ix1 iz7 iz9 hf _ _ _ hw (lv_sub hl [2, 3, 1, 0] rfl)
      · replace hf := rf_if_f hf c5
        exact rf_retv B hf hw dX12_table_69
    · replace hf := rf_if_f hf c1
      refine lv_aload_n hx hb dX12_table_34 rfl (lv_at hl 0 rfl) ?_
      refine rf_get (val := .ref (rf_ad v 18)) B hw 18 (by decide) lk_50 rfl dX12_table_35 ?_
      refine lv_iload_n hx hb dX12_table_38 rfl (lv_at hl 2 rfl) ?_
      refine lv_iconst (v := rI (-1)) hx hb dX12_table_39 rfl ?_
      obtain ⟨σ19, eσ19, rσ19, hf⟩ := rf_wr_s hf
      refine rf_ast B hw ix2 ⟨by decide, by decide⟩ rσ19 eσ19 dX12_table_40 (fun H locs hw => ?_)
      obtain ⟨z20, ez20, iz20, hf⟩ := rf_ck_s hf
      refine lv_iinc (v := rI z20) (lv' := [(2, .int (rI z20)), (0, .ref (rf_h v)), (1, .int (rI x1))]) hx hb dX12_table_41 hl (k := 2) rfl (by rw [ez20]; exact rI_add _ _) (by decide) rfl (fun ls hl => ?_)
      refine lv_goto (tgt := 28) hx hb dX12_table_44 (by decide) ?_
      exact ih σ19 x1 z20 ix1 iz20 hf _ _ _ hw (lv_sub hl [1, 2, 0] rfl)

set_option maxHeartbeats 4000000 in
set_option maxRecDepth 100000 in
theorem ps_table_7 {v : rfE} {p : Program} {l : Launch} {e : Env} {s : State} {m : MethodId} {args : Array Value} {below : List Frame} {meth : Method} {c : Code} {d : Nat} {rec : Nat → RS → List Int → Option (RS × Int)} {σ' : RS} {r : Int} (hR : rf_Rec l v d rec) (hd3 : 3 ≤ d) (B : rf_B v p s m args meth c cX12_table 4 none) : ∀ (n : Nat) (σ : RS) (x1 x2 : Int), inR x1 → inR x2 → pf_table_7 rec n σ x1 x2 = some (σ', r) → ∀ (H : Heap) (locs : List Loc) (ls : Array Slot), rf_W v s σ H locs → lv_has ls 4 [(0, .ref (rf_h v)), (1, .int (rI x1)), (2, .int (rI x2))] → W p l e (rf_rm (d + 1)) s m args below meth c H locs 0 0 (MQ below (rf_Q v σ' none) args s 0 0 (rf_F v)) (F0 m 7 ls []) := by
  obtain ⟨hx, hb, hr, hml, hown, hts, hlk, hK, hD⟩ := id B
  intro n
  induction n with
  | zero => intro σ x1 x2 ix1 ix2 hf; cases hf
  | succ n ih =>
    intro σ x1 x2 ix1 ix2 hf H locs ls hw hl
    unfold pf_table_7 at hf
    refine lv_iload_n hx hb dX12_table_7 rfl (lv_at hl 2 rfl) ?_
    refine lv_bipush (v := rI 64) hx hb dX12_table_8 (by decide +kernel) ?_
    refine rn_icmp_ge (a := x2) (b := 64) (tgt := 26) hx hb ix2 ⟨by decide, by decide⟩ dX12_table_10 (by decide) (fun c1 => ?_) (fun c1 => ?_)
    · replace hf := rf_if_t hf c1
      refine lv_iconst (v := rI 0) hx hb dX12_table_26 rfl ?_
      refine lv_istore_n (lv' := [(2, .int (rI 0)), (0, .ref (rf_h v)), (1, .int (rI x1))]) hx hb dX12_table_27 rfl hl (by decide) rfl (fun ls hl => ?_)
      exact ps_table_28 hR hd3 B 200000 σ x1 0 ix1 ⟨by decide, by decide⟩ hf _ _ _ hw (lv_sub hl [1, 2, 0] rfl)
    · replace hf := rf_if_f hf c1
      refine lv_aload_n hx hb dX12_table_13 rfl (lv_at hl 0 rfl) ?_
      refine rf_get (val := .ref (rf_ad v 19)) B hw 19 (by decide) lk_52 rfl dX12_table_14 ?_
      refine lv_iload_n hx hb dX12_table_17 rfl (lv_at hl 2 rfl) ?_
      refine lv_iconst (v := rI (-1)) hx hb dX12_table_18 rfl ?_
      obtain ⟨σ2, eσ2, rσ2, hf⟩ := rf_wr_s hf
      refine rf_ast B hw ix2 ⟨by decide, by decide⟩ rσ2 eσ2 dX12_table_19 (fun H locs hw => ?_)
      obtain ⟨z3, ez3, iz3, hf⟩ := rf_ck_s hf
      refine lv_iinc (v := rI z3) (lv' := [(2, .int (rI z3)), (0, .ref (rf_h v)), (1, .int (rI x1))]) hx hb dX12_table_20 hl (k := 2) rfl (by rw [ez3]; exact rI_add _ _) (by decide) rfl (fun ls hl => ?_)
      refine lv_goto (tgt := 7) hx hb dX12_table_23 (by decide) ?_
      exact ih σ2 x1 z3 ix1 iz3 hf _ _ _ hw (lv_sub hl [1, 2, 0] rfl)

set_option maxHeartbeats 4000000 in
set_option maxRecDepth 100000 in
theorem ps_table_0 {v : rfE} {p : Program} {l : Launch} {e : Env} {s : State} {m : MethodId} {args : Array Value} {below : List Frame} {meth : Method} {c : Code} {d : Nat} {rec : Nat → RS → List Int → Option (RS × Int)} {σ' : RS} {r : Int} (hR : rf_Rec l v d rec) (hd3 : 3 ≤ d) (B : rf_B v p s m args meth c cX12_table 4 none) : ∀ (σ : RS) (x1 : Int), inR x1 → pf_table_0 rec σ x1 = some (σ', r) → ∀ (H : Heap) (locs : List Loc) (ls : Array Slot), rf_W v s σ H locs → lv_has ls 4 [(0, .ref (rf_h v)), (1, .int (rI x1))] → W p l e (rf_rm (d + 1)) s m args below meth c H locs 0 0 (MQ below (rf_Q v σ' none) args s 0 0 (rf_F v)) (F0 m 0 ls []) := by
  obtain ⟨hx, hb, hr, hml, hown, hts, hlk, hK, hD⟩ := id B
  intro σ x1 ix1 hf H locs ls hw hl
  unfold pf_table_0 at hf
  refine lv_aload_n hx hb dX12_table_0 rfl (lv_at hl 0 rfl) ?_
  refine lv_iconst (v := rI 0) hx hb dX12_table_1 rfl ?_
  obtain ⟨σ1, eσ1, hf⟩ := rf_pi_s hf
  refine rf_put B hw 20 (by decide) rfl rfl lk_160 ⟨by decide, by decide⟩ eσ1 rfl rfl dX12_table_2 (fun H locs hw => ?_)
  refine lv_iconst (v := rI 0) hx hb dX12_table_5 rfl ?_
  refine lv_istore_n (lv' := [(2, .int (rI 0)), (0, .ref (rf_h v)), (1, .int (rI x1))]) hx hb dX12_table_6 rfl hl (by decide) rfl (fun ls hl => ?_)
  exact ps_table_7 hR hd3 B 200000 σ1 x1 0 ix1 ⟨by decide, by decide⟩ hf _ _ _ hw (lv_sub hl [1, 2, 0] rfl)

set_option maxHeartbeats 4000000 in
set_option maxRecDepth 100000 in
theorem pm_table {v : rfE} (hD : rf_D v) {l : Launch} {d : Nat} {rec : Nat → RS → List Int → Option (RS × Int)} (hR : rf_Rec l v d rec) (hd3 : 3 ≤ d) (σ σ' : RS) (x1 r : Int) (ix1 : inR x1) (hf : pf_table_0 rec σ x1 = some (σ', r)) : rf_Met l v yX12_table cX12_table 4 none (d + 1) [.ref (rf_h v), .int (rI x1)] σ σ' none := by
  refine Met.ofW (cc := cX12_table) (maxL := 4) (ret := none) (by decide +kernel) rfl ?_
  intro p e s m args below meth c s₁ B hml hv
  obtain ⟨rfl, hM, hK⟩ := hv
  have hts := atoms_spec (ws := Cond.code yX12_table cX12_table 4 none :: rf_bw) B.pre
  have hB : rf_B v p s m _ meth c cX12_table 4 none := ⟨B.exec, B.bytes, B.returns, hml, findClass_of_methodNamed B.named, fun w h => hts w (List.mem_cons_of_mem _ h), B.notSynchronized, hK, hD⟩
  have hl := lv_entry ([.ref (rf_h v), .int (rI x1)]) (n := 4) (Nat.le_of_ble_eq_true rfl)
  rw [lg_entry_eq]
  generalize (lg_sl ([.ref (rf_h v), .int (rI x1)]) ++ List.replicate (4 - (lg_sl ([.ref (rf_h v), .int (rI x1)])).length) Slot.unset).toArray = ls at hl ⊢
  exact ps_table_0 hR hd3 hB σ x1 ix1 hf _ _ _ ⟨hM, rfl, fun _ _ => rfl, fun q h => by cases h⟩ (lv_sub hl [0, 1] rfl)

set_option maxHeartbeats 4000000 in
set_option maxRecDepth 100000 in
theorem ps_feed_76 {v : rfE} {p : Program} {l : Launch} {e : Env} {s : State} {m : MethodId} {args : Array Value} {below : List Frame} {meth : Method} {c : Code} {d : Nat} {rec : Nat → RS → List Int → Option (RS × Int)} {σ' : RS} {r : Int} (hR : rf_Rec l v d rec) (B : rf_B v p s m args meth c cX12_feed 8 (some .int)) (k23 : RS → Int → Int → Int → Int → Int → Int → Option (RS × Int)) (hk23 : ∀ (σ : RS) (x1 x2 x3 x4 x5 x6 : Int), inR x1 → inR x2 → inR x3 → inR x4 → inR x5 → inR x6 → k23 σ x1 x2 x3 x4 x5 x6 = some (σ', r) → ∀ (H : Heap) (locs : List Loc) (ls : Array Slot), rf_W v s σ H locs → lv_has ls 8 [(0, .ref (rf_h v)), (1, .int (rI x1)), (2, .int (rI x2)), (3, .int (rI x3)), (4, .int (rI x4)), (5, .int (rI x5)), (6, .int (rI x6))] → W p l e (rf_rm (d + 1)) s m args below meth c H locs 0 0 (MQ below (rf_Q v σ' (some (.int (rI r)))) args s 0 0 (rf_F v)) (F0 m 23 ls [])) : ∀ (σ : RS) (x1 x2 x3 x4 x5 x6 t0 : Int), inR x1 → inR x2 → inR x3 → inR x4 → inR x5 → inR x6 → inR t0 → pf_feed_76 rec k23 σ x1 x2 x3 x4 x5 x6 t0 = some (σ', r) → ∀ (H : Heap) (locs : List Loc) (ls : Array Slot), rf_W v s σ H locs → lv_has ls 8 [(0, .ref (rf_h v)), (1, .int (rI x1)), (2, .int (rI x2)), (3, .int (rI x3)), (4, .int (rI x4)), (5, .int (rI x5)), (6, .int (rI x6))] → W p l e (rf_rm (d + 1)) s m args below meth c H locs 0 0 (MQ below (rf_Q v σ' (some (.int (rI r)))) args s 0 0 (rf_F v)) (F0 m 76 ls [.int (rI t0)]) := by
  obtain ⟨hx, hb, hr, hml, hown, hts, hlk, hK, hD⟩ := id B
  intro σ x1 x2 x3 x4 x5 x6 t0 ix1 ix2 ix3 ix4 ix5 ix6 it0 hf H locs ls hw hl
  unfold pf_feed_76 at hf
  refine lv_istore (lv' := [(7, .int (rI t0)), (0, .ref (rf_h v)), (1, .int (rI x1)), (2, .int (rI x2)), (3, .int (rI x3)), (4, .int (rI x4)), (5, .int (rI x5)), (6, .int (rI x6))]) hx hb dX12_feed_76 hl (by decide) rfl (fun ls hl => ?_)
  refine lv_aload_n hx hb dX12_feed_78 rfl (lv_at hl 1 rfl) ?_
  refine rf_get (val := .ref (rf_ad v 2)) B hw 2 (by decide) lk_33 rfl dX12_feed_79 ?_
  refine lv_aload_n hx hb dX12_feed_82 rfl (lv_at hl 1 rfl) ?_
  obtain ⟨z1, ez1, iz1, hf⟩ := rf_gi_s hw hf
  refine rf_geti B hw 3 (by decide) rfl lk_183 ez1 dX12_feed_83 ?_
  refine lv_iload hx hb dX12_feed_86 (lv_at hl 0 rfl) ?_
  refine lv_bipush (v := rI 24) hx hb dX12_feed_88 (by decide +kernel) ?_
  refine lv_bipush (v := rI 8) hx hb dX12_feed_90 (by decide +kernel) ?_
  refine lv_iload hx hb dX12_feed_92 (lv_at hl 7 rfl) ?_
  refine lv_iconst (v := rI 4) hx hb dX12_feed_94 rfl ?_
  obtain ⟨z2, ez2, iz2, hf⟩ := rf_nm_s hf
  refine lv_irem hx hb dX12_feed_95 (by decide) ?_
  refine rn_top ez2 ?_
  obtain ⟨z3, ez3, iz3, hf⟩ := rf_ck_s hf
  refine rn_mul hx hb ez3 dX12_feed_96 ?_
  obtain ⟨z4, ez4, iz4, hf⟩ := rf_ck_s hf
  refine rn_sub hx hb ez4 dX12_feed_97 ?_
  obtain ⟨z5, ez5, iz5, hf⟩ := rf_nm_s hf
  refine lv_ishr hx hb dX12_feed_98 ?_
  refine rn_top ez5 ?_
  refine lv_sipush (v := rI 255) hx hb dX12_feed_99 (by decide +kernel) ?_
  obtain ⟨z6, ez6, iz6, hf⟩ := rf_nm_s hf
  refine lv_iand hx hb dX12_feed_102 ?_
  refine rn_top ez6 ?_
  obtain ⟨σ7, eσ7, rσ7, hf⟩ := rf_wr_s hf
  refine rf_ast B hw iz1 iz6 rσ7 eσ7 dX12_feed_103 (fun H locs hw => ?_)
  refine lv_aload_n hx hb dX12_feed_104 rfl (lv_at hl 1 rfl) ?_
  refine lv_dup hx hb dX12_feed_105 rfl ?_
  obtain ⟨z8, ez8, iz8, hf⟩ := rf_gi_s hw hf
  refine rf_geti B hw 3 (by decide) rfl lk_183 ez8 dX12_feed_106 ?_
  refine lv_iconst (v := rI 1) hx hb dX12_feed_109 rfl ?_
  obtain ⟨z9, ez9, iz9, hf⟩ := rf_ck_s hf
  refine rn_add hx hb ez9 dX12_feed_110 ?_
  obtain ⟨σ10, eσ10, hf⟩ := rf_pi_s hf
  refine rf_put B hw 3 (by decide) rfl rfl lk_183 iz9 eσ10 rfl rfl dX12_feed_111 (fun H locs hw => ?_)
  obtain ⟨z11, ez11, iz11, hf⟩ := rf_ck_s hf
  refine lv_iinc (v := rI z11) (lv' := [(6, .int (rI z11)), (7, .int (rI t0)), (0, .ref (rf_h v)), (1, .int (rI x1)), (2, .int (rI x2)), (3, .int (rI x3)), (4, .int (rI x4)), (5, .int (rI x5))]) hx hb dX12_feed_114 hl (k := 7) rfl (by rw [ez11]; exact rI_add _ _) (by decide) rfl (fun ls hl => ?_)
  refine lv_goto (tgt := 23) hx hb dX12_feed_117 (by decide) ?_
  exact hk23 σ10 x1 x2 x3 x4 x5 z11 ix1 ix2 ix3 ix4 ix5 iz11 hf _ _ _ hw (lv_sub hl [2, 3, 4, 5, 6, 7, 0] rfl)

set_option maxHeartbeats 4000000 in
set_option maxRecDepth 100000 in
theorem ps_feed_23 {v : rfE} {p : Program} {l : Launch} {e : Env} {s : State} {m : MethodId} {args : Array Value} {below : List Frame} {meth : Method} {c : Code} {d : Nat} {rec : Nat → RS → List Int → Option (RS × Int)} {σ' : RS} {r : Int} (hR : rf_Rec l v d rec) (B : rf_B v p s m args meth c cX12_feed 8 (some .int)) : ∀ (n : Nat) (σ : RS) (x1 x2 x3 x4 x5 x6 : Int), inR x1 → inR x2 → inR x3 → inR x4 → inR x5 → inR x6 → pf_feed_23 rec n σ x1 x2 x3 x4 x5 x6 = some (σ', r) → ∀ (H : Heap) (locs : List Loc) (ls : Array Slot), rf_W v s σ H locs → lv_has ls 8 [(0, .ref (rf_h v)), (1, .int (rI x1)), (2, .int (rI x2)), (3, .int (rI x3)), (4, .int (rI x4)), (5, .int (rI x5)), (6, .int (rI x6))] → W p l e (rf_rm (d + 1)) s m args below meth c H locs 0 0 (MQ below (rf_Q v σ' (some (.int (rI r)))) args s 0 0 (rf_F v)) (F0 m 23 ls []) := by
  obtain ⟨hx, hb, hr, hml, hown, hts, hlk, hK, hD⟩ := id B
  intro n
  induction n with
  | zero => intro σ x1 x2 x3 x4 x5 x6 ix1 ix2 ix3 ix4 ix5 ix6 hf; cases hf
  | succ n ih =>
    intro σ x1 x2 x3 x4 x5 x6 ix1 ix2 ix3 ix4 ix5 ix6 hf H locs ls hw hl
    unfold pf_feed_23 at hf
    refine lv_iload hx hb dX12_feed_23 (lv_at hl 6 rfl) ?_
    refine lv_bipush (v := rI 20) hx hb dX12_feed_25 (by decide +kernel) ?_
    refine rn_icmp_ge (a := x6) (b := 20) (tgt := 120) hx hb ix6 ⟨by decide, by decide⟩ dX12_feed_27 (by decide) (fun c1 => ?_) (fun c1 => ?_)
    · replace hf := rf_if_t hf c1
      refine lv_aload_n hx hb dX12_feed_120 rfl (lv_at hl 0 rfl) ?_
      obtain ⟨z2, ez2, iz2, hf⟩ := rf_gi_s hw hf
      refine rf_geti B hw 3 (by decide) rfl lk_183 ez2 dX12_feed_121 ?_
      exact rf_reti B hf hw dX12_feed_124
    · replace hf := rf_if_f hf c1
      refine lv_iload hx hb dX12_feed_30 (lv_at hl 6 rfl) ?_
      refine lv_iconst (v := rI 4) hx hb dX12_feed_32 rfl ?_
      refine rn_icmp_ge (a := x6) (b := 4) (tgt := 40) hx hb ix6 ⟨by decide, by decide⟩ dX12_feed_33 (by decide) (fun c3 => ?_) (fun c3 => ?_)
      · replace hf := rf_if_t hf c3
        refine lv_iload hx hb dX12_feed_40 (lv_at hl 6 rfl) ?_
        refine lv_bipush (v := rI 8) hx hb dX12_feed_42 (by decide +kernel) ?_
        refine rn_icmp_ge (a := x6) (b := 8) (tgt := 51) hx hb ix6 ⟨by decide, by decide⟩ dX12_feed_44 (by decide) (fun c4 => ?_) (fun c4 => ?_)
        · replace hf := rf_if_t hf c4
          refine lv_iload hx hb dX12_feed_51 (lv_at hl 6 rfl) ?_
          refine lv_bipush (v := rI 12) hx hb dX12_feed_53 (by decide +kernel) ?_
          refine rn_icmp_ge (a := x6) (b := 12) (tgt := 62) hx hb ix6 ⟨by decide, by decide⟩ dX12_feed_55 (by decide) (fun c5 => ?_) (fun c5 => ?_)
          · replace hf := rf_if_t hf c5
            refine lv_iload hx hb dX12_feed_62 (lv_at hl 6 rfl) ?_
            refine lv_bipush (v := rI 16) hx hb dX12_feed_64 (by decide +kernel) ?_
            refine rn_icmp_ge (a := x6) (b := 16) (tgt := 74) hx hb ix6 ⟨by decide, by decide⟩ dX12_feed_66 (by decide) (fun c6 => ?_) (fun c6 => ?_)
            · replace hf := rf_if_t hf c6
              refine lv_iload hx hb dX12_feed_74 (lv_at hl 5 rfl) ?_
              exact ps_feed_76 hR B (pf_feed_23 rec n) ih σ x1 x2 x3 x4 x5 x6 x5 ix1 ix2 ix3 ix4 ix5 ix6 ix5 hf _ _ _ hw (lv_sub hl [0, 1, 2, 3, 4, 5, 6] rfl)
            · replace hf := rf_if_f hf c6
              refine lv_iload hx hb dX12_feed_69 (lv_at hl 4 rfl) ?_
              refine lv_goto (tgt := 76) hx hb dX12_feed_71 (by decide) ?_
              exact ps_feed_76 hR B (pf_feed_23 rec n) ih σ x1 x2 x3 x4 x5 x6 x4 ix1 ix2 ix3 ix4 ix5 ix6 ix4 hf _ _ _ hw (lv_sub hl [0, 1, 2, 3, 4, 5, 6] rfl)
          · replace hf := rf_if_f hf c5
            refine lv_iload_n hx hb dX12_feed_58 rfl (lv_at hl 3 rfl) ?_
            refine lv_goto (tgt := 76) hx hb dX12_feed_59 (by decide) ?_
            exact ps_feed_76 hR B (pf_feed_23 rec n) ih σ x1 x2 x3 x4 x5 x6 x3 ix1 ix2 ix3 ix4 ix5 ix6 ix3 hf _ _ _ hw (lv_sub hl [0, 1, 2, 3, 4, 5, 6] rfl)
        · replace hf := rf_if_f hf c4
          refine lv_iload_n hx hb dX12_feed_47 rfl (lv_at hl 2 rfl) ?_
          refine lv_goto (tgt := 76) hx hb dX12_feed_48 (by decide) ?_
          exact ps_feed_76 hR B (pf_feed_23 rec n) ih σ x1 x2 x3 x4 x5 x6 x2 ix1 ix2 ix3 ix4 ix5 ix6 ix2 hf _ _ _ hw (lv_sub hl [0, 1, 2, 3, 4, 5, 6] rfl)
      · replace hf := rf_if_f hf c3
        refine lv_iload_n hx hb dX12_feed_36 rfl (lv_at hl 1 rfl) ?_
        refine lv_goto (tgt := 76) hx hb dX12_feed_37 (by decide) ?_
        exact ps_feed_76 hR B (pf_feed_23 rec n) ih σ x1 x2 x3 x4 x5 x6 x1 ix1 ix2 ix3 ix4 ix5 ix6 ix1 hf _ _ _ hw (lv_sub hl [0, 1, 2, 3, 4, 5, 6] rfl)

set_option maxHeartbeats 4000000 in
set_option maxRecDepth 100000 in
theorem ps_feed_0 {v : rfE} {p : Program} {l : Launch} {e : Env} {s : State} {m : MethodId} {args : Array Value} {below : List Frame} {meth : Method} {c : Code} {d : Nat} {rec : Nat → RS → List Int → Option (RS × Int)} {σ' : RS} {r : Int} (hR : rf_Rec l v d rec) (B : rf_B v p s m args meth c cX12_feed 8 (some .int)) : ∀ (σ : RS) (x1 x2 x3 x4 x5 : Int), inR x1 → inR x2 → inR x3 → inR x4 → inR x5 → pf_feed_0 rec σ x1 x2 x3 x4 x5 = some (σ', r) → ∀ (H : Heap) (locs : List Loc) (ls : Array Slot), rf_W v s σ H locs → lv_has ls 8 [(0, .ref (rf_h v)), (1, .int (rI x1)), (2, .int (rI x2)), (3, .int (rI x3)), (4, .int (rI x4)), (5, .int (rI x5))] → W p l e (rf_rm (d + 1)) s m args below meth c H locs 0 0 (MQ below (rf_Q v σ' (some (.int (rI r)))) args s 0 0 (rf_F v)) (F0 m 0 ls []) := by
  obtain ⟨hx, hb, hr, hml, hown, hts, hlk, hK, hD⟩ := id B
  intro σ x1 x2 x3 x4 x5 ix1 ix2 ix3 ix4 ix5 hf H locs ls hw hl
  unfold pf_feed_0 at hf
  refine lv_aload_n hx hb dX12_feed_0 rfl (lv_at hl 0 rfl) ?_
  refine lv_iconst (v := rI 0) hx hb dX12_feed_1 rfl ?_
  obtain ⟨σ1, eσ1, hf⟩ := rf_pi_s hf
  refine rf_put B hw 1 (by decide) rfl rfl lk_147 ⟨by decide, by decide⟩ eσ1 rfl rfl dX12_feed_2 (fun H locs hw => ?_)
  refine lv_aload_n hx hb dX12_feed_5 rfl (lv_at hl 0 rfl) ?_
  obtain ⟨z2, ez2, iz2, hf⟩ := rf_gi_s hw hf
  refine rf_geti B hw 3 (by decide) rfl lk_183 ez2 dX12_feed_6 ?_
  refine lv_bipush (v := rI 20) hx hb dX12_feed_9 (by decide +kernel) ?_
  obtain ⟨z3, ez3, iz3, hf⟩ := rf_ck_s hf
  refine rn_add hx hb ez3 dX12_feed_11 ?_
  refine lv_sipush (v := rI 4000) hx hb dX12_feed_12 (by decide +kernel) ?_
  refine rn_icmp_le (a := z3) (b := 4000) (tgt := 20) hx hb iz3 ⟨by decide, by decide⟩ dX12_feed_15 (by decide) (fun c4 => ?_) (fun c4 => ?_)
  · replace hf := rf_if_t hf c4
    refine lv_iconst (v := rI 0) hx hb dX12_feed_20 rfl ?_
    refine lv_istore (lv' := [(6, .int (rI 0)), (0, .ref (rf_h v)), (1, .int (rI x1)), (2, .int (rI x2)), (3, .int (rI x3)), (4, .int (rI x4)), (5, .int (rI x5))]) hx hb dX12_feed_21 hl (by decide) rfl (fun ls hl => ?_)
    exact ps_feed_23 hR B 200000 σ1 x1 x2 x3 x4 x5 0 ix1 ix2 ix3 ix4 ix5 ⟨by decide, by decide⟩ hf _ _ _ hw (lv_sub hl [1, 2, 3, 4, 5, 6, 0] rfl)
  · replace hf := rf_if_f hf c4
    refine lv_iconst (v := rI (-1)) hx hb dX12_feed_18 rfl ?_
    exact rf_reti B hf hw dX12_feed_19

set_option maxHeartbeats 4000000 in
set_option maxRecDepth 100000 in
theorem pm_feed {v : rfE} (hD : rf_D v) {l : Launch} {d : Nat} {rec : Nat → RS → List Int → Option (RS × Int)} (hR : rf_Rec l v d rec) (σ σ' : RS) (x1 x2 x3 x4 x5 r : Int) (ix1 : inR x1) (ix2 : inR x2) (ix3 : inR x3) (ix4 : inR x4) (ix5 : inR x5) (hf : pf_feed_0 rec σ x1 x2 x3 x4 x5 = some (σ', r)) : rf_Met l v yX12_feed cX12_feed 8 (some .int) (d + 1) [.ref (rf_h v), .int (rI x1), .int (rI x2), .int (rI x3), .int (rI x4), .int (rI x5)] σ σ' (some (.int (rI r))) := by
  refine Met.ofW (cc := cX12_feed) (maxL := 8) (ret := (some .int)) (by decide +kernel) rfl ?_
  intro p e s m args below meth c s₁ B hml hv
  obtain ⟨rfl, hM, hK⟩ := hv
  have hts := atoms_spec (ws := Cond.code yX12_feed cX12_feed 8 (some .int) :: rf_bw) B.pre
  have hB : rf_B v p s m _ meth c cX12_feed 8 (some .int) := ⟨B.exec, B.bytes, B.returns, hml, findClass_of_methodNamed B.named, fun w h => hts w (List.mem_cons_of_mem _ h), B.notSynchronized, hK, hD⟩
  have hl := lv_entry ([.ref (rf_h v), .int (rI x1), .int (rI x2), .int (rI x3), .int (rI x4), .int (rI x5)]) (n := 8) (Nat.le_of_ble_eq_true rfl)
  rw [lg_entry_eq]
  generalize (lg_sl ([.ref (rf_h v), .int (rI x1), .int (rI x2), .int (rI x3), .int (rI x4), .int (rI x5)]) ++ List.replicate (8 - (lg_sl ([.ref (rf_h v), .int (rI x1), .int (rI x2), .int (rI x3), .int (rI x4), .int (rI x5)])).length) Slot.unset).toArray = ls at hl ⊢
  exact ps_feed_0 hR hB σ x1 x2 x3 x4 x5 ix1 ix2 ix3 ix4 ix5 hf _ _ _ ⟨hM, rfl, fun _ _ => rfl, fun q h => by cases h⟩ (lv_sub hl [0, 1, 2, 3, 4, 5] rfl)

set_option maxHeartbeats 4000000 in
set_option maxRecDepth 100000 in
theorem ps_byteAt_0 {v : rfE} {p : Program} {l : Launch} {e : Env} {s : State} {m : MethodId} {args : Array Value} {below : List Frame} {meth : Method} {c : Code} {d : Nat} {rec : Nat → RS → List Int → Option (RS × Int)} {σ' : RS} {r : Int} (hR : rf_Rec l v d rec) (B : rf_B v p s m args meth c cX12_byteAt 2 (some .int)) : ∀ (σ : RS) (x1 : Int), inR x1 → pf_byteAt_0 rec σ x1 = some (σ', r) → ∀ (H : Heap) (locs : List Loc) (ls : Array Slot), rf_W v s σ H locs → lv_has ls 2 [(0, .ref (rf_h v)), (1, .int (rI x1))] → W p l e (rf_rm (d + 1)) s m args below meth c H locs 0 0 (MQ below (rf_Q v σ' (some (.int (rI r)))) args s 0 0 (rf_F v)) (F0 m 0 ls []) := by
  obtain ⟨hx, hb, hr, hml, hown, hts, hlk, hK, hD⟩ := id B
  intro σ x1 ix1 hf H locs ls hw hl
  unfold pf_byteAt_0 at hf
  refine lv_iload_n hx hb dX12_byteAt_0 rfl (lv_at hl 1 rfl) ?_
  refine lv_aload_n hx hb dX12_byteAt_1 rfl (lv_at hl 0 rfl) ?_
  obtain ⟨z1, ez1, iz1, hf⟩ := rf_gi_s hw hf
  refine rf_geti B hw 5 (by decide) rfl lk_186 ez1 dX12_byteAt_2 ?_
  refine rn_icmp_ge (a := x1) (b := z1) (tgt := 17) hx hb ix1 iz1 dX12_byteAt_5 (by decide) (fun c2 => ?_) (fun c2 => ?_)
  · replace hf := rf_if_t hf c2
    refine lv_iconst (v := rI (-1)) hx hb dX12_byteAt_17 rfl ?_
    exact rf_reti B hf hw dX12_byteAt_18
  · replace hf := rf_if_f hf c2
    refine lv_aload_n hx hb dX12_byteAt_8 rfl (lv_at hl 0 rfl) ?_
    refine rf_get (val := .ref (rf_ad v 4)) B hw 4 (by decide) lk_37 rfl dX12_byteAt_9 ?_
    refine lv_iload_n hx hb dX12_byteAt_12 rfl (lv_at hl 1 rfl) ?_
    obtain ⟨z3, ez3, iz3, rz3, hf⟩ := rf_rd_s hw hf
    refine rf_ald B hw ix1 rz3 ez3 dX12_byteAt_13 ?_
    refine lv_goto (tgt := 18) hx hb dX12_byteAt_14 (by decide) ?_
    exact rf_reti B hf hw dX12_byteAt_18

set_option maxHeartbeats 4000000 in
set_option maxRecDepth 100000 in
theorem pm_byteAt {v : rfE} (hD : rf_D v) {l : Launch} {d : Nat} {rec : Nat → RS → List Int → Option (RS × Int)} (hR : rf_Rec l v d rec) (σ σ' : RS) (x1 r : Int) (ix1 : inR x1) (hf : pf_byteAt_0 rec σ x1 = some (σ', r)) : rf_Met l v yX12_byteAt cX12_byteAt 2 (some .int) (d + 1) [.ref (rf_h v), .int (rI x1)] σ σ' (some (.int (rI r))) := by
  refine Met.ofW (cc := cX12_byteAt) (maxL := 2) (ret := (some .int)) (by decide +kernel) rfl ?_
  intro p e s m args below meth c s₁ B hml hv
  obtain ⟨rfl, hM, hK⟩ := hv
  have hts := atoms_spec (ws := Cond.code yX12_byteAt cX12_byteAt 2 (some .int) :: rf_bw) B.pre
  have hB : rf_B v p s m _ meth c cX12_byteAt 2 (some .int) := ⟨B.exec, B.bytes, B.returns, hml, findClass_of_methodNamed B.named, fun w h => hts w (List.mem_cons_of_mem _ h), B.notSynchronized, hK, hD⟩
  have hl := lv_entry ([.ref (rf_h v), .int (rI x1)]) (n := 2) (Nat.le_of_ble_eq_true rfl)
  rw [lg_entry_eq]
  generalize (lg_sl ([.ref (rf_h v), .int (rI x1)]) ++ List.replicate (2 - (lg_sl ([.ref (rf_h v), .int (rI x1)])).length) Slot.unset).toArray = ls at hl ⊢
  exact ps_byteAt_0 hR hB σ x1 ix1 hf _ _ _ ⟨hM, rfl, fun _ _ => rfl, fun q h => by cases h⟩ (lv_sub hl [0, 1] rfl)

set_option maxHeartbeats 4000000 in
set_option maxRecDepth 100000 in
theorem ps_isLetter_12 {v : rfE} {p : Program} {l : Launch} {e : Env} {s : State} {m : MethodId} {args : Array Value} {below : List Frame} {meth : Method} {c : Code} {d : Nat} {rec : Nat → RS → List Int → Option (RS × Int)} {σ' : RS} {r : Int} (hR : rf_Rec l v d rec) (B : rf_B v p s m args meth c cX12_isLetter 1 (some .boolean)) : ∀ (σ : RS) (x0 : Int), inR x0 → pf_isLetter_12 rec σ x0 = some (σ', r) → ∀ (H : Heap) (locs : List Loc) (ls : Array Slot), rf_W v s σ H locs → lv_has ls 1 [(0, .int (rI x0))] → W p l e (rf_rm (d + 1)) s m args below meth c H locs 0 0 (MQ below (rf_Q v σ' (some (.int (rI r)))) args s 0 0 (rf_F v)) (F0 m 12 ls []) := by
  obtain ⟨hx, hb, hr, hml, hown, hts, hlk, hK, hD⟩ := id B
  intro σ x0 ix0 hf H locs ls hw hl
  unfold pf_isLetter_12 at hf
  refine lv_iload_n hx hb dX12_isLetter_12 rfl (lv_at hl 0 rfl) ?_
  refine lv_bipush (v := rI 65) hx hb dX12_isLetter_13 (by decide +kernel) ?_
  refine rn_icmp_lt (a := x0) (b := 65) (tgt := 28) hx hb ix0 ⟨by decide, by decide⟩ dX12_isLetter_15 (by decide) (fun c1 => ?_) (fun c1 => ?_)
  · replace hf := rf_if_t hf c1
    refine lv_iconst (v := rI 0) hx hb dX12_isLetter_28 rfl ?_
    obtain ⟨h01, hf⟩ := rf_bo_s hf
    exact rf_retz B h01 hf hw dX12_isLetter_29
  · replace hf := rf_if_f hf c1
    refine lv_iload_n hx hb dX12_isLetter_18 rfl (lv_at hl 0 rfl) ?_
    refine lv_bipush (v := rI 90) hx hb dX12_isLetter_19 (by decide +kernel) ?_
    refine rn_icmp_gt (a := x0) (b := 90) (tgt := 28) hx hb ix0 ⟨by decide, by decide⟩ dX12_isLetter_21 (by decide) (fun c2 => ?_) (fun c2 => ?_)
    · replace hf := rf_if_t hf c2
      refine lv_iconst (v := rI 0) hx hb dX12_isLetter_28 rfl ?_
      obtain ⟨h01, hf⟩ := rf_bo_s hf
      exact rf_retz B h01 hf hw dX12_isLetter_29
    · replace hf := rf_if_f hf c2
      refine lv_iconst (v := rI 1) hx hb dX12_isLetter_24 rfl ?_
      refine lv_goto (tgt := 29) hx hb dX12_isLetter_25 (by decide) ?_
      obtain ⟨h01, hf⟩ := rf_bo_s hf
      exact rf_retz B h01 hf hw dX12_isLetter_29

set_option maxHeartbeats 4000000 in
set_option maxRecDepth 100000 in
theorem ps_isLetter_0 {v : rfE} {p : Program} {l : Launch} {e : Env} {s : State} {m : MethodId} {args : Array Value} {below : List Frame} {meth : Method} {c : Code} {d : Nat} {rec : Nat → RS → List Int → Option (RS × Int)} {σ' : RS} {r : Int} (hR : rf_Rec l v d rec) (B : rf_B v p s m args meth c cX12_isLetter 1 (some .boolean)) : ∀ (σ : RS) (x0 : Int), inR x0 → pf_isLetter_0 rec σ x0 = some (σ', r) → ∀ (H : Heap) (locs : List Loc) (ls : Array Slot), rf_W v s σ H locs → lv_has ls 1 [(0, .int (rI x0))] → W p l e (rf_rm (d + 1)) s m args below meth c H locs 0 0 (MQ below (rf_Q v σ' (some (.int (rI r)))) args s 0 0 (rf_F v)) (F0 m 0 ls []) := by
  obtain ⟨hx, hb, hr, hml, hown, hts, hlk, hK, hD⟩ := id B
  intro σ x0 ix0 hf H locs ls hw hl
  unfold pf_isLetter_0 at hf
  refine lv_iload_n hx hb dX12_isLetter_0 rfl (lv_at hl 0 rfl) ?_
  refine lv_bipush (v := rI 97) hx hb dX12_isLetter_1 (by decide +kernel) ?_
  refine rn_icmp_lt (a := x0) (b := 97) (tgt := 12) hx hb ix0 ⟨by decide, by decide⟩ dX12_isLetter_3 (by decide) (fun c1 => ?_) (fun c1 => ?_)
  · replace hf := rf_if_t hf c1
    exact ps_isLetter_12 hR B σ x0 ix0 hf _ _ _ hw (lv_sub hl [0] rfl)
  · replace hf := rf_if_f hf c1
    refine lv_iload_n hx hb dX12_isLetter_6 rfl (lv_at hl 0 rfl) ?_
    refine lv_bipush (v := rI 122) hx hb dX12_isLetter_7 (by decide +kernel) ?_
    refine rn_icmp_le (a := x0) (b := 122) (tgt := 24) hx hb ix0 ⟨by decide, by decide⟩ dX12_isLetter_9 (by decide) (fun c2 => ?_) (fun c2 => ?_)
    · replace hf := rf_if_t hf c2
      refine lv_iconst (v := rI 1) hx hb dX12_isLetter_24 rfl ?_
      refine lv_goto (tgt := 29) hx hb dX12_isLetter_25 (by decide) ?_
      obtain ⟨h01, hf⟩ := rf_bo_s hf
      exact rf_retz B h01 hf hw dX12_isLetter_29
    · replace hf := rf_if_f hf c2
      exact ps_isLetter_12 hR B σ x0 ix0 hf _ _ _ hw (lv_sub hl [0] rfl)

set_option maxHeartbeats 4000000 in
set_option maxRecDepth 100000 in
theorem pm_isLetter {v : rfE} (hD : rf_D v) {l : Launch} {d : Nat} {rec : Nat → RS → List Int → Option (RS × Int)} (hR : rf_Rec l v d rec) (σ σ' : RS) (x0 r : Int) (ix0 : inR x0) (hf : pf_isLetter_0 rec σ x0 = some (σ', r)) : rf_Met l v yX12_isLetter cX12_isLetter 1 (some .boolean) (d + 1) [.int (rI x0)] σ σ' (some (.int (rI r))) := by
  refine Met.ofW (cc := cX12_isLetter) (maxL := 1) (ret := (some .boolean)) (by decide +kernel) rfl ?_
  intro p e s m args below meth c s₁ B hml hv
  obtain ⟨rfl, hM, hK⟩ := hv
  have hts := atoms_spec (ws := Cond.code yX12_isLetter cX12_isLetter 1 (some .boolean) :: rf_bw) B.pre
  have hB : rf_B v p s m _ meth c cX12_isLetter 1 (some .boolean) := ⟨B.exec, B.bytes, B.returns, hml, findClass_of_methodNamed B.named, fun w h => hts w (List.mem_cons_of_mem _ h), B.notSynchronized, hK, hD⟩
  have hl := lv_entry ([.int (rI x0)]) (n := 1) (Nat.le_of_ble_eq_true rfl)
  rw [lg_entry_eq]
  generalize (lg_sl ([.int (rI x0)]) ++ List.replicate (1 - (lg_sl ([.int (rI x0)])).length) Slot.unset).toArray = ls at hl ⊢
  exact ps_isLetter_0 hR hB σ x0 ix0 hf _ _ _ ⟨hM, rfl, fun _ _ => rfl, fun q h => by cases h⟩ (lv_sub hl [0] rfl)

set_option maxHeartbeats 4000000 in
set_option maxRecDepth 100000 in
theorem ps_goesOn_19 {v : rfE} {p : Program} {l : Launch} {e : Env} {s : State} {m : MethodId} {args : Array Value} {below : List Frame} {meth : Method} {c : Code} {d : Nat} {rec : Nat → RS → List Int → Option (RS × Int)} {σ' : RS} {r : Int} (hR : rf_Rec l v d rec) (B : rf_B v p s m args meth c cX12_goesOn 1 (some .boolean)) : ∀ (σ : RS) (x0 : Int), inR x0 → pf_goesOn_19 rec σ x0 = some (σ', r) → ∀ (H : Heap) (locs : List Loc) (ls : Array Slot), rf_W v s σ H locs → lv_has ls 1 [(0, .int (rI x0))] → W p l e (rf_rm (d + 1)) s m args below meth c H locs 0 0 (MQ below (rf_Q v σ' (some (.int (rI r)))) args s 0 0 (rf_F v)) (F0 m 19 ls []) := by
  obtain ⟨hx, hb, hr, hml, hown, hts, hlk, hK, hD⟩ := id B
  intro σ x0 ix0 hf H locs ls hw hl
  unfold pf_goesOn_19 at hf
  refine lv_iload_n hx hb dX12_goesOn_19 rfl (lv_at hl 0 rfl) ?_
  refine lv_bipush (v := rI 39) hx hb dX12_goesOn_20 (by decide +kernel) ?_
  refine rn_icmp_ne (a := x0) (b := 39) (tgt := 29) hx hb ix0 ⟨by decide, by decide⟩ dX12_goesOn_22 (by decide) (fun c1 => ?_) (fun c1 => ?_)
  · replace hf := rf_if_t hf c1
    refine lv_iconst (v := rI 0) hx hb dX12_goesOn_29 rfl ?_
    obtain ⟨h01, hf⟩ := rf_bo_s hf
    exact rf_retz B h01 hf hw dX12_goesOn_30
  · replace hf := rf_if_f hf c1
    refine lv_iconst (v := rI 1) hx hb dX12_goesOn_25 rfl ?_
    refine lv_goto (tgt := 30) hx hb dX12_goesOn_26 (by decide) ?_
    obtain ⟨h01, hf⟩ := rf_bo_s hf
    exact rf_retz B h01 hf hw dX12_goesOn_30

set_option maxHeartbeats 4000000 in
set_option maxRecDepth 100000 in
theorem ps_goesOn_0 {v : rfE} {p : Program} {l : Launch} {e : Env} {s : State} {m : MethodId} {args : Array Value} {below : List Frame} {meth : Method} {c : Code} {d : Nat} {rec : Nat → RS → List Int → Option (RS × Int)} {σ' : RS} {r : Int} (hR : rf_Rec l v d rec) (B : rf_B v p s m args meth c cX12_goesOn 1 (some .boolean)) : ∀ (σ : RS) (x0 : Int), inR x0 → pf_goesOn_0 rec σ x0 = some (σ', r) → ∀ (H : Heap) (locs : List Loc) (ls : Array Slot), rf_W v s σ H locs → lv_has ls 1 [(0, .int (rI x0))] → W p l e (rf_rm (d + 1)) s m args below meth c H locs 0 0 (MQ below (rf_Q v σ' (some (.int (rI r)))) args s 0 0 (rf_F v)) (F0 m 0 ls []) := by
  obtain ⟨hx, hb, hr, hml, hown, hts, hlk, hK, hD⟩ := id B
  intro σ x0 ix0 hf H locs ls hw hl
  unfold pf_goesOn_0 at hf
  refine lv_iload_n hx hb dX12_goesOn_0 rfl (lv_at hl 0 rfl) ?_
  obtain ⟨σ1, z2, hσ1, hf⟩ := rf_cl_s hf
  obtain ⟨iz2, mσ1⟩ := hR 8 σ [x0] σ1 z2 hσ1
  have mσ1 : rf_Met l v yX12_isLetter cX12_isLetter 1 (some .boolean) d [.int (rI x0)] σ σ1 (some (.int (rI z2))) := mσ1 ix0
  refine rf_cs (n := 1) (rest := []) (As := [.int (rI x0)]) B mσ1 g_189_isLetter (by decide +kernel) (by decide) rfl hl.1 (Nat.le_of_ble_eq_true rfl) dX12_goesOn_1 rfl hw (fun H locs hw => ?_)
  refine rn_if_ne (a := z2) (tgt := 25) hx hb iz2 dX12_goesOn_4 (by decide) (fun c3 => ?_) (fun c3 => ?_)
  · replace hf := rf_if_t hf c3
    refine lv_iconst (v := rI 1) hx hb dX12_goesOn_25 rfl ?_
    refine lv_goto (tgt := 30) hx hb dX12_goesOn_26 (by decide) ?_
    obtain ⟨h01, hf⟩ := rf_bo_s hf
    exact rf_retz B h01 hf hw dX12_goesOn_30
  · replace hf := rf_if_f hf c3
    refine lv_iload_n hx hb dX12_goesOn_7 rfl (lv_at hl 0 rfl) ?_
    refine lv_bipush (v := rI 48) hx hb dX12_goesOn_8 (by decide +kernel) ?_
    refine rn_icmp_lt (a := x0) (b := 48) (tgt := 19) hx hb ix0 ⟨by decide, by decide⟩ dX12_goesOn_10 (by decide) (fun c4 => ?_) (fun c4 => ?_)
    · replace hf := rf_if_t hf c4
      exact ps_goesOn_19 hR B σ1 x0 ix0 hf _ _ _ hw (lv_sub hl [0] rfl)
    · replace hf := rf_if_f hf c4
      refine lv_iload_n hx hb dX12_goesOn_13 rfl (lv_at hl 0 rfl) ?_
      refine lv_bipush (v := rI 57) hx hb dX12_goesOn_14 (by decide +kernel) ?_
      refine rn_icmp_le (a := x0) (b := 57) (tgt := 25) hx hb ix0 ⟨by decide, by decide⟩ dX12_goesOn_16 (by decide) (fun c5 => ?_) (fun c5 => ?_)
      · replace hf := rf_if_t hf c5
        refine lv_iconst (v := rI 1) hx hb dX12_goesOn_25 rfl ?_
        refine lv_goto (tgt := 30) hx hb dX12_goesOn_26 (by decide) ?_
        obtain ⟨h01, hf⟩ := rf_bo_s hf
        exact rf_retz B h01 hf hw dX12_goesOn_30
      · replace hf := rf_if_f hf c5
        exact ps_goesOn_19 hR B σ1 x0 ix0 hf _ _ _ hw (lv_sub hl [0] rfl)

set_option maxHeartbeats 4000000 in
set_option maxRecDepth 100000 in
theorem pm_goesOn {v : rfE} (hD : rf_D v) {l : Launch} {d : Nat} {rec : Nat → RS → List Int → Option (RS × Int)} (hR : rf_Rec l v d rec) (σ σ' : RS) (x0 r : Int) (ix0 : inR x0) (hf : pf_goesOn_0 rec σ x0 = some (σ', r)) : rf_Met l v yX12_goesOn cX12_goesOn 1 (some .boolean) (d + 1) [.int (rI x0)] σ σ' (some (.int (rI r))) := by
  refine Met.ofW (cc := cX12_goesOn) (maxL := 1) (ret := (some .boolean)) (by decide +kernel) rfl ?_
  intro p e s m args below meth c s₁ B hml hv
  obtain ⟨rfl, hM, hK⟩ := hv
  have hts := atoms_spec (ws := Cond.code yX12_goesOn cX12_goesOn 1 (some .boolean) :: rf_bw) B.pre
  have hB : rf_B v p s m _ meth c cX12_goesOn 1 (some .boolean) := ⟨B.exec, B.bytes, B.returns, hml, findClass_of_methodNamed B.named, fun w h => hts w (List.mem_cons_of_mem _ h), B.notSynchronized, hK, hD⟩
  have hl := lv_entry ([.int (rI x0)]) (n := 1) (Nat.le_of_ble_eq_true rfl)
  rw [lg_entry_eq]
  generalize (lg_sl ([.int (rI x0)]) ++ List.replicate (1 - (lg_sl ([.int (rI x0)])).length) Slot.unset).toArray = ls at hl ⊢
  exact ps_goesOn_0 hR hB σ x0 ix0 hf _ _ _ ⟨hM, rfl, fun _ _ => rfl, fun q h => by cases h⟩ (lv_sub hl [0] rfl)

set_option maxHeartbeats 4000000 in
set_option maxRecDepth 100000 in
theorem ps_next_32 {v : rfE} {p : Program} {l : Launch} {e : Env} {s : State} {m : MethodId} {args : Array Value} {below : List Frame} {meth : Method} {c : Code} {d : Nat} {rec : Nat → RS → List Int → Option (RS × Int)} {σ' : RS} {r : Int} (hR : rf_Rec l v d rec) (B : rf_B v p s m args meth c cX12_next 4 none) (k2 : RS → Int → Option (RS × Int)) (k6 : RS → Option (RS × Int)) (hk2 : ∀ (σ : RS) (x1 : Int), inR x1 → k2 σ x1 = some (σ', r) → ∀ (H : Heap) (locs : List Loc) (ls : Array Slot), rf_W v s σ H locs → lv_has ls 4 [(0, .ref (rf_h v)), (1, .int (rI x1))] → W p l e (rf_rm (d + 1)) s m args below meth c H locs 0 0 (MQ below (rf_Q v σ' none) args s 0 0 (rf_F v)) (F0 m 2 ls [])) (hk6 : ∀ (σ : RS), k6 σ = some (σ', r) → ∀ (H : Heap) (locs : List Loc) (ls : Array Slot), rf_W v s σ H locs → lv_has ls 4 [(0, .ref (rf_h v))] → W p l e (rf_rm (d + 1)) s m args below meth c H locs 0 0 (MQ below (rf_Q v σ' none) args s 0 0 (rf_F v)) (F0 m 6 ls [])) : ∀ (σ : RS), pf_next_32 rec k2 k6 σ = some (σ', r) → ∀ (H : Heap) (locs : List Loc) (ls : Array Slot), rf_W v s σ H locs → lv_has ls 4 [(0, .ref (rf_h v))] → W p l e (rf_rm (d + 1)) s m args below meth c H locs 0 0 (MQ below (rf_Q v σ' none) args s 0 0 (rf_F v)) (F0 m 32 ls []) := by
  obtain ⟨hx, hb, hr, hml, hown, hts, hlk, hK, hD⟩ := id B
  intro σ hf H locs ls hw hl
  unfold pf_next_32 at hf
  refine lv_aload_n hx hb dX12_next_32 rfl (lv_at hl 0 rfl) ?_
  refine lv_dup hx hb dX12_next_33 rfl ?_
  obtain ⟨z1, ez1, iz1, hf⟩ := rf_gi_s hw hf
  refine rf_geti B hw 6 (by decide) rfl lk_193 ez1 dX12_next_34 ?_
  refine lv_iconst (v := rI 1) hx hb dX12_next_37 rfl ?_
  obtain ⟨z2, ez2, iz2, hf⟩ := rf_ck_s hf
  refine rn_add hx hb ez2 dX12_next_38 ?_
  obtain ⟨σ3, eσ3, hf⟩ := rf_pi_s hf
  refine rf_put B hw 6 (by decide) rfl rfl lk_193 iz2 eσ3 rfl rfl dX12_next_39 (fun H locs hw => ?_)
  refine lv_goto (tgt := 6) hx hb dX12_next_42 (by decide) ?_
  exact hk6 σ3 hf _ _ _ hw (lv_sub hl [0] rfl)

set_option maxHeartbeats 4000000 in
set_option maxRecDepth 100000 in
theorem ps_next_111 {v : rfE} {p : Program} {l : Launch} {e : Env} {s : State} {m : MethodId} {args : Array Value} {below : List Frame} {meth : Method} {c : Code} {d : Nat} {rec : Nat → RS → List Int → Option (RS × Int)} {σ' : RS} {r : Int} (hR : rf_Rec l v d rec) (B : rf_B v p s m args meth c cX12_next 4 none) (k2 : RS → Int → Option (RS × Int)) (hk2 : ∀ (σ : RS) (x1 : Int), inR x1 → k2 σ x1 = some (σ', r) → ∀ (H : Heap) (locs : List Loc) (ls : Array Slot), rf_W v s σ H locs → lv_has ls 4 [(0, .ref (rf_h v)), (1, .int (rI x1))] → W p l e (rf_rm (d + 1)) s m args below meth c H locs 0 0 (MQ below (rf_Q v σ' none) args s 0 0 (rf_F v)) (F0 m 2 ls [])) : ∀ (σ : RS) (x1 x2 : Int), inR x1 → inR x2 → pf_next_111 rec k2 σ x1 x2 = some (σ', r) → ∀ (H : Heap) (locs : List Loc) (ls : Array Slot), rf_W v s σ H locs → lv_has ls 4 [(0, .ref (rf_h v)), (1, .int (rI x1)), (2, .int (rI x2))] → W p l e (rf_rm (d + 1)) s m args below meth c H locs 0 0 (MQ below (rf_Q v σ' none) args s 0 0 (rf_F v)) (F0 m 111 ls []) := by
  obtain ⟨hx, hb, hr, hml, hown, hts, hlk, hK, hD⟩ := id B
  intro σ x1 x2 ix1 ix2 hf H locs ls hw hl
  unfold pf_next_111 at hf
  refine lv_aload_n hx hb dX12_next_111 rfl (lv_at hl 0 rfl) ?_
  obtain ⟨z1, ez1, iz1, hf⟩ := rf_gi_s hw hf
  refine rf_geti B hw 6 (by decide) rfl lk_193 ez1 dX12_next_112 ?_
  refine lv_aload_n hx hb dX12_next_115 rfl (lv_at hl 0 rfl) ?_
  obtain ⟨z2, ez2, iz2, hf⟩ := rf_gi_s hw hf
  refine rf_geti B hw 5 (by decide) rfl lk_186 ez2 dX12_next_116 ?_
  refine rn_icmp_ne (a := z1) (b := z2) (tgt := 138) hx hb iz1 iz2 dX12_next_119 (by decide) (fun c3 => ?_) (fun c3 => ?_)
  · replace hf := rf_if_t hf c3
    refine lv_aload_n hx hb dX12_next_138 rfl (lv_at hl 0 rfl) ?_
    refine lv_dup hx hb dX12_next_139 rfl ?_
    obtain ⟨z4, ez4, iz4, hf⟩ := rf_gi_s hw hf
    refine rf_geti B hw 6 (by decide) rfl lk_193 ez4 dX12_next_140 ?_
    refine lv_iconst (v := rI 1) hx hb dX12_next_143 rfl ?_
    obtain ⟨z5, ez5, iz5, hf⟩ := rf_ck_s hf
    refine rn_add hx hb ez5 dX12_next_144 ?_
    obtain ⟨σ6, eσ6, hf⟩ := rf_pi_s hf
    refine rf_put B hw 6 (by decide) rfl rfl lk_193 iz5 eσ6 rfl rfl dX12_next_145 (fun H locs hw => ?_)
    refine lv_goto (tgt := 2) hx hb dX12_next_148 (by decide) ?_
    exact hk2 σ6 x1 ix1 hf _ _ _ hw (lv_sub hl [0, 1] rfl)
  · replace hf := rf_if_f hf c3
    refine lv_aload_n hx hb dX12_next_122 rfl (lv_at hl 0 rfl) ?_
    refine lv_iload_n hx hb dX12_next_123 rfl (lv_at hl 2 rfl) ?_
    obtain ⟨σ7, eσ7, hf⟩ := rf_pi_s hf
    refine rf_put B hw 9 (by decide) rfl rfl lk_200 ix2 eσ7 rfl rfl dX12_next_124 (fun H locs hw => ?_)
    refine lv_aload_n hx hb dX12_next_127 rfl (lv_at hl 0 rfl) ?_
    refine lv_iconst (v := rI 3) hx hb dX12_next_128 rfl ?_
    obtain ⟨σ8, eσ8, hf⟩ := rf_pi_s hf
    refine rf_put B hw 7 (by decide) rfl rfl lk_203 ⟨by decide, by decide⟩ eσ8 rfl rfl dX12_next_129 (fun H locs hw => ?_)
    refine lv_aload_n hx hb dX12_next_132 rfl (lv_at hl 0 rfl) ?_
    refine lv_iconst (v := rI (-1)) hx hb dX12_next_133 rfl ?_
    obtain ⟨σ9, eσ9, hf⟩ := rf_pi_s hf
    refine rf_put B hw 11 (by decide) rfl rfl lk_206 ⟨by decide, by decide⟩ eσ9 rfl rfl dX12_next_134 (fun H locs hw => ?_)
    exact rf_retv B hf hw dX12_next_137

set_option maxHeartbeats 4000000 in
set_option maxRecDepth 100000 in
theorem ps_next_73 {v : rfE} {p : Program} {l : Launch} {e : Env} {s : State} {m : MethodId} {args : Array Value} {below : List Frame} {meth : Method} {c : Code} {d : Nat} {rec : Nat → RS → List Int → Option (RS × Int)} {σ' : RS} {r : Int} (hR : rf_Rec l v d rec) (B : rf_B v p s m args meth c cX12_next 4 none) (k2 : RS → Int → Option (RS × Int)) (hk2 : ∀ (σ : RS) (x1 : Int), inR x1 → k2 σ x1 = some (σ', r) → ∀ (H : Heap) (locs : List Loc) (ls : Array Slot), rf_W v s σ H locs → lv_has ls 4 [(0, .ref (rf_h v)), (1, .int (rI x1))] → W p l e (rf_rm (d + 1)) s m args below meth c H locs 0 0 (MQ below (rf_Q v σ' none) args s 0 0 (rf_F v)) (F0 m 2 ls [])) : ∀ (n : Nat) (σ : RS) (x1 x2 : Int), inR x1 → inR x2 → pf_next_73 rec k2 n σ x1 x2 = some (σ', r) → ∀ (H : Heap) (locs : List Loc) (ls : Array Slot), rf_W v s σ H locs → lv_has ls 4 [(0, .ref (rf_h v)), (1, .int (rI x1)), (2, .int (rI x2))] → W p l e (rf_rm (d + 1)) s m args below meth c H locs 0 0 (MQ below (rf_Q v σ' none) args s 0 0 (rf_F v)) (F0 m 73 ls []) := by
  obtain ⟨hx, hb, hr, hml, hown, hts, hlk, hK, hD⟩ := id B
  intro n
  induction n with
  | zero => intro σ x1 x2 ix1 ix2 hf; cases hf
  | succ n ih =>
    intro σ x1 x2 ix1 ix2 hf H locs ls hw hl
    unfold pf_next_73 at hf
    refine lv_aload_n hx hb dX12_next_73 rfl (lv_at hl 0 rfl) ?_
    obtain ⟨z1, ez1, iz1, hf⟩ := rf_gi_s hw hf
    refine rf_geti B hw 6 (by decide) rfl lk_193 ez1 dX12_next_74 ?_
    refine lv_aload_n hx hb dX12_next_77 rfl (lv_at hl 0 rfl) ?_
    obtain ⟨z2, ez2, iz2, hf⟩ := rf_gi_s hw hf
    refine rf_geti B hw 5 (by decide) rfl lk_186 ez2 dX12_next_78 ?_
    refine rn_icmp_ge (a := z1) (b := z2) (tgt := 111) hx hb iz1 iz2 dX12_next_81 (by decide) (fun c3 => ?_) (fun c3 => ?_)
    · replace hf := rf_if_t hf c3
      exact ps_next_111 hR B k2 hk2 σ x1 x2 ix1 ix2 hf _ _ _ hw (lv_sub hl [0, 1, 2] rfl)
    · replace hf := rf_if_f hf c3
      refine lv_aload_n hx hb dX12_next_84 rfl (lv_at hl 0 rfl) ?_
      refine rf_get (val := .ref (rf_ad v 4)) B hw 4 (by decide) lk_37 rfl dX12_next_85 ?_
      refine lv_aload_n hx hb dX12_next_88 rfl (lv_at hl 0 rfl) ?_
      obtain ⟨z4, ez4, iz4, hf⟩ := rf_gi_s hw hf
      refine rf_geti B hw 6 (by decide) rfl lk_193 ez4 dX12_next_89 ?_
      obtain ⟨z5, ez5, iz5, rz5, hf⟩ := rf_rd_s hw hf
      refine rf_ald B hw iz4 rz5 ez5 dX12_next_92 ?_
      refine lv_bipush (v := rI 125) hx hb dX12_next_93 (by decide +kernel) ?_
      refine rn_icmp_eq (a := z5) (b := 125) (tgt := 111) hx hb iz5 ⟨by decide, by decide⟩ dX12_next_95 (by decide) (fun c6 => ?_) (fun c6 => ?_)
      · replace hf := rf_if_t hf c6
        exact ps_next_111 hR B k2 hk2 σ x1 x2 ix1 ix2 hf _ _ _ hw (lv_sub hl [0, 1, 2] rfl)
      · replace hf := rf_if_f hf c6
        refine lv_aload_n hx hb dX12_next_98 rfl (lv_at hl 0 rfl) ?_
        refine lv_dup hx hb dX12_next_99 rfl ?_
        obtain ⟨z7, ez7, iz7, hf⟩ := rf_gi_s hw hf
        refine rf_geti B hw 6 (by decide) rfl lk_193 ez7 dX12_next_100 ?_
        refine lv_iconst (v := rI 1) hx hb dX12_next_103 rfl ?_
        obtain ⟨z8, ez8, iz8, hf⟩ := rf_ck_s hf
        refine rn_add hx hb ez8 dX12_next_104 ?_
        obtain ⟨σ9, eσ9, hf⟩ := rf_pi_s hf
        refine rf_put B hw 6 (by decide) rfl rfl lk_193 iz8 eσ9 rfl rfl dX12_next_105 (fun H locs hw => ?_)
        refine lv_goto (tgt := 73) hx hb dX12_next_108 (by decide) ?_
        exact ih σ9 x1 x2 ix1 ix2 hf _ _ _ hw (lv_sub hl [0, 1, 2] rfl)

set_option maxHeartbeats 4000000 in
set_option maxRecDepth 100000 in
theorem ps_next_63 {v : rfE} {p : Program} {l : Launch} {e : Env} {s : State} {m : MethodId} {args : Array Value} {below : List Frame} {meth : Method} {c : Code} {d : Nat} {rec : Nat → RS → List Int → Option (RS × Int)} {σ' : RS} {r : Int} (hR : rf_Rec l v d rec) (B : rf_B v p s m args meth c cX12_next 4 none) (k2 : RS → Int → Option (RS × Int)) (hk2 : ∀ (σ : RS) (x1 : Int), inR x1 → k2 σ x1 = some (σ', r) → ∀ (H : Heap) (locs : List Loc) (ls : Array Slot), rf_W v s σ H locs → lv_has ls 4 [(0, .ref (rf_h v)), (1, .int (rI x1))] → W p l e (rf_rm (d + 1)) s m args below meth c H locs 0 0 (MQ below (rf_Q v σ' none) args s 0 0 (rf_F v)) (F0 m 2 ls [])) : ∀ (σ : RS) (t0 : Int), inR t0 → pf_next_63 rec k2 σ t0 = some (σ', r) → ∀ (H : Heap) (locs : List Loc) (ls : Array Slot), rf_W v s σ H locs → lv_has ls 4 [(0, .ref (rf_h v))] → W p l e (rf_rm (d + 1)) s m args below meth c H locs 0 0 (MQ below (rf_Q v σ' none) args s 0 0 (rf_F v)) (F0 m 63 ls [.int (rI t0)]) := by
  obtain ⟨hx, hb, hr, hml, hown, hts, hlk, hK, hD⟩ := id B
  intro σ t0 it0 hf H locs ls hw hl
  unfold pf_next_63 at hf
  refine lv_istore_n (lv' := [(1, .int (rI t0)), (0, .ref (rf_h v))]) hx hb dX12_next_63 rfl hl (by decide) rfl (fun ls hl => ?_)
  refine lv_iload_n hx hb dX12_next_64 rfl (lv_at hl 0 rfl) ?_
  refine rn_if_eq (a := t0) (tgt := 2) hx hb it0 dX12_next_65 (by decide) (fun c1 => ?_) (fun c1 => ?_)
  · replace hf := rf_if_t hf c1
    exact hk2 σ t0 it0 hf _ _ _ hw (lv_sub hl [1, 0] rfl)
  · replace hf := rf_if_f hf c1
    refine lv_aload_n hx hb dX12_next_68 rfl (lv_at hl 1 rfl) ?_
    obtain ⟨z2, ez2, iz2, hf⟩ := rf_gi_s hw hf
    refine rf_geti B hw 6 (by decide) rfl lk_193 ez2 dX12_next_69 ?_
    refine lv_istore_n (lv' := [(2, .int (rI z2)), (1, .int (rI t0)), (0, .ref (rf_h v))]) hx hb dX12_next_72 rfl hl (by decide) rfl (fun ls hl => ?_)
    exact ps_next_73 hR B k2 hk2 200000 σ t0 z2 it0 iz2 hf _ _ _ hw (lv_sub hl [2, 1, 0] rfl)

set_option maxHeartbeats 4000000 in
set_option maxRecDepth 100000 in
theorem ps_next_6 {v : rfE} {p : Program} {l : Launch} {e : Env} {s : State} {m : MethodId} {args : Array Value} {below : List Frame} {meth : Method} {c : Code} {d : Nat} {rec : Nat → RS → List Int → Option (RS × Int)} {σ' : RS} {r : Int} (hR : rf_Rec l v d rec) (B : rf_B v p s m args meth c cX12_next 4 none) (k2 : RS → Int → Option (RS × Int)) (hk2 : ∀ (σ : RS) (x1 : Int), inR x1 → k2 σ x1 = some (σ', r) → ∀ (H : Heap) (locs : List Loc) (ls : Array Slot), rf_W v s σ H locs → lv_has ls 4 [(0, .ref (rf_h v)), (1, .int (rI x1))] → W p l e (rf_rm (d + 1)) s m args below meth c H locs 0 0 (MQ below (rf_Q v σ' none) args s 0 0 (rf_F v)) (F0 m 2 ls [])) : ∀ (n : Nat) (σ : RS), pf_next_6 rec k2 n σ = some (σ', r) → ∀ (H : Heap) (locs : List Loc) (ls : Array Slot), rf_W v s σ H locs → lv_has ls 4 [(0, .ref (rf_h v))] → W p l e (rf_rm (d + 1)) s m args below meth c H locs 0 0 (MQ below (rf_Q v σ' none) args s 0 0 (rf_F v)) (F0 m 6 ls []) := by
  obtain ⟨hx, hb, hr, hml, hown, hts, hlk, hK, hD⟩ := id B
  intro n
  induction n with
  | zero => intro σ hf; cases hf
  | succ n ih =>
    intro σ hf H locs ls hw hl
    unfold pf_next_6 at hf
    refine lv_aload_n hx hb dX12_next_6 rfl (lv_at hl 0 rfl) ?_
    refine lv_aload_n hx hb dX12_next_7 rfl (lv_at hl 0 rfl) ?_
    obtain ⟨z1, ez1, iz1, hf⟩ := rf_gi_s hw hf
    refine rf_geti B hw 6 (by decide) rfl lk_193 ez1 dX12_next_8 ?_
    obtain ⟨σ2, z3, hσ2, hf⟩ := rf_cl_s hf
    obtain ⟨iz3, mσ2⟩ := hR 7 σ [z1] σ2 z3 hσ2
    have mσ2 : rf_Met l v yX12_byteAt cX12_byteAt 2 (some .int) d [.ref (rf_h v), .int (rI z1)] σ σ2 (some (.int (rI z3))) := mσ2 iz1
    refine rf_cv (n := 1) (rest := []) (As := [.int (rI z1)]) B mσ2 g_196_byteAt (by decide +kernel) (by decide) rfl hl.1 (Nat.le_of_ble_eq_true rfl) dX12_next_11 rfl hw (fun H locs hw => ?_)
    refine lv_bipush (v := rI 10) hx hb dX12_next_14 (by decide +kernel) ?_
    refine rn_icmp_eq (a := z3) (b := 10) (tgt := 32) hx hb iz3 ⟨by decide, by decide⟩ dX12_next_16 (by decide) (fun c4 => ?_) (fun c4 => ?_)
    · replace hf := rf_if_t hf c4
      exact ps_next_32 hR B k2 (pf_next_6 rec k2 n) hk2 ih σ2 hf _ _ _ hw (lv_sub hl [0] rfl)
    · replace hf := rf_if_f hf c4
      refine lv_aload_n hx hb dX12_next_19 rfl (lv_at hl 0 rfl) ?_
      refine lv_aload_n hx hb dX12_next_20 rfl (lv_at hl 0 rfl) ?_
      obtain ⟨z5, ez5, iz5, hf⟩ := rf_gi_s hw hf
      refine rf_geti B hw 6 (by decide) rfl lk_193 ez5 dX12_next_21 ?_
      obtain ⟨σ6, z7, hσ6, hf⟩ := rf_cl_s hf
      obtain ⟨iz7, mσ6⟩ := hR 7 σ2 [z5] σ6 z7 hσ6
      have mσ6 : rf_Met l v yX12_byteAt cX12_byteAt 2 (some .int) d [.ref (rf_h v), .int (rI z5)] σ2 σ6 (some (.int (rI z7))) := mσ6 iz5
      refine rf_cv (n := 1) (rest := []) (As := [.int (rI z5)]) B mσ6 g_196_byteAt (by decide +kernel) (by decide) rfl hl.1 (Nat.le_of_ble_eq_true rfl) dX12_next_24 rfl hw (fun H locs hw => ?_)
      refine lv_bipush (v := rI 32) hx hb dX12_next_27 (by decide +kernel) ?_
      refine rn_icmp_ne (a := z7) (b := 32) (tgt := 45) hx hb iz7 ⟨by decide, by decide⟩ dX12_next_29 (by decide) (fun c8 => ?_) (fun c8 => ?_)
      · replace hf := rf_if_t hf c8
        refine lv_aload_n hx hb dX12_next_45 rfl (lv_at hl 0 rfl) ?_
        refine lv_aload_n hx hb dX12_next_46 rfl (lv_at hl 0 rfl) ?_
        obtain ⟨z9, ez9, iz9, hf⟩ := rf_gi_s hw hf
        refine rf_geti B hw 6 (by decide) rfl lk_193 ez9 dX12_next_47 ?_
        obtain ⟨σ10, z11, hσ10, hf⟩ := rf_cl_s hf
        obtain ⟨iz11, mσ10⟩ := hR 7 σ6 [z9] σ10 z11 hσ10
        have mσ10 : rf_Met l v yX12_byteAt cX12_byteAt 2 (some .int) d [.ref (rf_h v), .int (rI z9)] σ6 σ10 (some (.int (rI z11))) := mσ10 iz9
        refine rf_cv (n := 1) (rest := []) (As := [.int (rI z9)]) B mσ10 g_196_byteAt (by decide +kernel) (by decide) rfl hl.1 (Nat.le_of_ble_eq_true rfl) dX12_next_50 rfl hw (fun H locs hw => ?_)
        refine lv_bipush (v := rI 123) hx hb dX12_next_53 (by decide +kernel) ?_
        refine rn_icmp_ne (a := z11) (b := 123) (tgt := 62) hx hb iz11 ⟨by decide, by decide⟩ dX12_next_55 (by decide) (fun c12 => ?_) (fun c12 => ?_)
        · replace hf := rf_if_t hf c12
          refine lv_iconst (v := rI 0) hx hb dX12_next_62 rfl ?_
          exact ps_next_63 hR B k2 hk2 σ10 0 ⟨by decide, by decide⟩ hf _ _ _ hw (lv_sub hl [0] rfl)
        · replace hf := rf_if_f hf c12
          refine lv_iconst (v := rI 1) hx hb dX12_next_58 rfl ?_
          refine lv_goto (tgt := 63) hx hb dX12_next_59 (by decide) ?_
          exact ps_next_63 hR B k2 hk2 σ10 1 ⟨by decide, by decide⟩ hf _ _ _ hw (lv_sub hl [0] rfl)
      · replace hf := rf_if_f hf c8
        exact ps_next_32 hR B k2 (pf_next_6 rec k2 n) hk2 ih σ6 hf _ _ _ hw (lv_sub hl [0] rfl)

set_option maxHeartbeats 4000000 in
set_option maxRecDepth 100000 in
theorem ps_next_254 {v : rfE} {p : Program} {l : Launch} {e : Env} {s : State} {m : MethodId} {args : Array Value} {below : List Frame} {meth : Method} {c : Code} {d : Nat} {rec : Nat → RS → List Int → Option (RS × Int)} {σ' : RS} {r : Int} (hR : rf_Rec l v d rec) (B : rf_B v p s m args meth c cX12_next 4 none) (k235 : RS → Int → Option (RS × Int)) (hk235 : ∀ (σ : RS) (x3 : Int), inR x3 → k235 σ x3 = some (σ', r) → ∀ (H : Heap) (locs : List Loc) (ls : Array Slot), rf_W v s σ H locs → lv_has ls 4 [(0, .ref (rf_h v)), (3, .int (rI x3))] → W p l e (rf_rm (d + 1)) s m args below meth c H locs 0 0 (MQ below (rf_Q v σ' none) args s 0 0 (rf_F v)) (F0 m 235 ls [])) : ∀ (σ : RS) (x3 : Int), inR x3 → pf_next_254 rec k235 σ x3 = some (σ', r) → ∀ (H : Heap) (locs : List Loc) (ls : Array Slot), rf_W v s σ H locs → lv_has ls 4 [(0, .ref (rf_h v)), (3, .int (rI x3))] → W p l e (rf_rm (d + 1)) s m args below meth c H locs 0 0 (MQ below (rf_Q v σ' none) args s 0 0 (rf_F v)) (F0 m 254 ls []) := by
  obtain ⟨hx, hb, hr, hml, hown, hts, hlk, hK, hD⟩ := id B
  intro σ x3 ix3 hf H locs ls hw hl
  unfold pf_next_254 at hf
  obtain ⟨z1, ez1, iz1, hf⟩ := rf_ck_s hf
  refine lv_iinc (v := rI z1) (lv' := [(3, .int (rI z1)), (0, .ref (rf_h v))]) hx hb dX12_next_254 hl (k := 1) rfl (by rw [ez1]; exact rI_add _ _) (by decide) rfl (fun ls hl => ?_)
  refine lv_goto (tgt := 235) hx hb dX12_next_257 (by decide) ?_
  exact hk235 σ z1 iz1 hf _ _ _ hw (lv_sub hl [1, 0] rfl)

set_option maxHeartbeats 4000000 in
set_option maxRecDepth 100000 in
theorem ps_next_235 {v : rfE} {p : Program} {l : Launch} {e : Env} {s : State} {m : MethodId} {args : Array Value} {below : List Frame} {meth : Method} {c : Code} {d : Nat} {rec : Nat → RS → List Int → Option (RS × Int)} {σ' : RS} {r : Int} (hR : rf_Rec l v d rec) (B : rf_B v p s m args meth c cX12_next 4 none) : ∀ (n : Nat) (σ : RS) (x3 : Int), inR x3 → pf_next_235 rec n σ x3 = some (σ', r) → ∀ (H : Heap) (locs : List Loc) (ls : Array Slot), rf_W v s σ H locs → lv_has ls 4 [(0, .ref (rf_h v)), (3, .int (rI x3))] → W p l e (rf_rm (d + 1)) s m args below meth c H locs 0 0 (MQ below (rf_Q v σ' none) args s 0 0 (rf_F v)) (F0 m 235 ls []) := by
  obtain ⟨hx, hb, hr, hml, hown, hts, hlk, hK, hD⟩ := id B
  intro n
  induction n with
  | zero => intro σ x3 ix3 hf; cases hf
  | succ n ih =>
    intro σ x3 ix3 hf H locs ls hw hl
    unfold pf_next_235 at hf
    refine lv_iload_n hx hb dX12_next_235 rfl (lv_at hl 1 rfl) ?_
    refine lv_bipush (v := rI 9) hx hb dX12_next_236 (by decide +kernel) ?_
    refine rn_icmp_ge (a := x3) (b := 9) (tgt := 260) hx hb ix3 ⟨by decide, by decide⟩ dX12_next_238 (by decide) (fun c1 => ?_) (fun c1 => ?_)
    · replace hf := rf_if_t hf c1
      refine lv_aload_n hx hb dX12_next_260 rfl (lv_at hl 0 rfl) ?_
      obtain ⟨z2, ez2, iz2, hf⟩ := rf_gi_s hw hf
      refine rf_geti B hw 10 (by decide) rfl lk_212 ez2 dX12_next_261 ?_
      refine lv_aload_n hx hb dX12_next_264 rfl (lv_at hl 0 rfl) ?_
      obtain ⟨z3, ez3, iz3, hf⟩ := rf_gi_s hw hf
      refine rf_geti B hw 9 (by decide) rfl lk_200 ez3 dX12_next_265 ?_
      obtain ⟨z4, ez4, iz4, hf⟩ := rf_ck_s hf
      refine rn_sub hx hb ez4 dX12_next_268 ?_
      refine lv_bipush (v := rI 12) hx hb dX12_next_269 (by decide +kernel) ?_
      refine rn_icmp_le (a := z4) (b := 12) (tgt := 291) hx hb iz4 ⟨by decide, by decide⟩ dX12_next_271 (by decide) (fun c5 => ?_) (fun c5 => ?_)
      · replace hf := rf_if_t hf c5
        exact rf_retv B hf hw dX12_next_291
      · replace hf := rf_if_f hf c5
        refine lv_aload_n hx hb dX12_next_274 rfl (lv_at hl 0 rfl) ?_
        refine lv_iconst (v := rI 2) hx hb dX12_next_275 rfl ?_
        refine lv_aload_n hx hb dX12_next_276 rfl (lv_at hl 0 rfl) ?_
        obtain ⟨z6, ez6, iz6, hf⟩ := rf_gi_s hw hf
        refine rf_geti B hw 9 (by decide) rfl lk_200 ez6 dX12_next_277 ?_
        obtain ⟨σ7, z8, hσ7, hf⟩ := rf_cl_s hf
        obtain ⟨iz8, mσ7⟩ := hR 3 σ [2, z6] σ7 z8 hσ7
        have mσ7 : rf_Met l v yX12_wrong cX12_wrong 3 none d [.ref (rf_h v), .int (rI 2), .int (rI z6)] σ σ7 none := mσ7 ⟨by decide, by decide⟩ iz6
        refine rf_cv (n := 2) (rest := []) (As := [.int (rI 2), .int (rI z6)]) B mσ7 g_218_wrong (by decide +kernel) (by decide) rfl hl.1 (Nat.le_of_ble_eq_true rfl) dX12_next_280 rfl hw (fun H locs hw => ?_)
        refine lv_goto (tgt := 291) hx hb dX12_next_283 (by decide) ?_
        exact rf_retv B hf hw dX12_next_291
    · replace hf := rf_if_f hf c1
      refine lv_aload_n hx hb dX12_next_241 rfl (lv_at hl 0 rfl) ?_
      refine lv_iload_n hx hb dX12_next_242 rfl (lv_at hl 1 rfl) ?_
      obtain ⟨σ9, z10, hσ9, hf⟩ := rf_cl_s hf
      obtain ⟨iz10, mσ9⟩ := hR 11 σ [x3] σ9 z10 hσ9
      have mσ9 : rf_Met l v yX12_isWord cX12_isWord 4 (some .boolean) d [.ref (rf_h v), .int (rI x3)] σ σ9 (some (.int (rI z10))) := mσ9 ix3
      refine rf_cv (n := 1) (rest := []) (As := [.int (rI x3)]) B mσ9 g_215_isWord (by decide +kernel) (by decide) rfl hl.1 (Nat.le_of_ble_eq_true rfl) dX12_next_243 rfl hw (fun H locs hw => ?_)
      refine rn_if_eq (a := z10) (tgt := 254) hx hb iz10 dX12_next_246 (by decide) (fun c11 => ?_) (fun c11 => ?_)
      · replace hf := rf_if_t hf c11
        exact ps_next_254 hR B (pf_next_235 rec n) ih σ9 x3 ix3 hf _ _ _ hw (lv_sub hl [0, 1] rfl)
      · replace hf := rf_if_f hf c11
        refine lv_aload_n hx hb dX12_next_249 rfl (lv_at hl 0 rfl) ?_
        refine lv_iload_n hx hb dX12_next_250 rfl (lv_at hl 1 rfl) ?_
        obtain ⟨σ12, eσ12, hf⟩ := rf_pi_s hf
        refine rf_put B hw 11 (by decide) rfl rfl lk_206 ix3 eσ12 rfl rfl dX12_next_251 (fun H locs hw => ?_)
        exact ps_next_254 hR B (pf_next_235 rec n) ih σ12 x3 ix3 hf _ _ _ hw (lv_sub hl [0, 1] rfl)

set_option maxHeartbeats 4000000 in
set_option maxRecDepth 100000 in
theorem ps_next_193 {v : rfE} {p : Program} {l : Launch} {e : Env} {s : State} {m : MethodId} {args : Array Value} {below : List Frame} {meth : Method} {c : Code} {d : Nat} {rec : Nat → RS → List Int → Option (RS × Int)} {σ' : RS} {r : Int} (hR : rf_Rec l v d rec) (B : rf_B v p s m args meth c cX12_next 4 none) : ∀ (n : Nat) (σ : RS), pf_next_193 rec n σ = some (σ', r) → ∀ (H : Heap) (locs : List Loc) (ls : Array Slot), rf_W v s σ H locs → lv_has ls 4 [(0, .ref (rf_h v))] → W p l e (rf_rm (d + 1)) s m args below meth c H locs 0 0 (MQ below (rf_Q v σ' none) args s 0 0 (rf_F v)) (F0 m 193 ls []) := by
  obtain ⟨hx, hb, hr, hml, hown, hts, hlk, hK, hD⟩ := id B
  intro n
  induction n with
  | zero => intro σ hf; cases hf
  | succ n ih =>
    intro σ hf H locs ls hw hl
    unfold pf_next_193 at hf
    refine lv_aload_n hx hb dX12_next_193 rfl (lv_at hl 0 rfl) ?_
    refine lv_aload_n hx hb dX12_next_194 rfl (lv_at hl 0 rfl) ?_
    obtain ⟨z1, ez1, iz1, hf⟩ := rf_gi_s hw hf
    refine rf_geti B hw 6 (by decide) rfl lk_193 ez1 dX12_next_195 ?_
    obtain ⟨σ2, z3, hσ2, hf⟩ := rf_cl_s hf
    obtain ⟨iz3, mσ2⟩ := hR 7 σ [z1] σ2 z3 hσ2
    have mσ2 : rf_Met l v yX12_byteAt cX12_byteAt 2 (some .int) d [.ref (rf_h v), .int (rI z1)] σ σ2 (some (.int (rI z3))) := mσ2 iz1
    refine rf_cv (n := 1) (rest := []) (As := [.int (rI z1)]) B mσ2 g_196_byteAt (by decide +kernel) (by decide) rfl hl.1 (Nat.le_of_ble_eq_true rfl) dX12_next_198 rfl hw (fun H locs hw => ?_)
    obtain ⟨σ4, z5, hσ4, hf⟩ := rf_cl_s hf
    obtain ⟨iz5, mσ4⟩ := hR 9 σ2 [z3] σ4 z5 hσ4
    have mσ4 : rf_Met l v yX12_goesOn cX12_goesOn 1 (some .boolean) d [.int (rI z3)] σ2 σ4 (some (.int (rI z5))) := mσ4 iz3
    refine rf_cs (n := 1) (rest := []) (As := [.int (rI z3)]) B mσ4 g_209_goesOn (by decide +kernel) (by decide) rfl hl.1 (Nat.le_of_ble_eq_true rfl) dX12_next_201 rfl hw (fun H locs hw => ?_)
    refine rn_if_eq (a := z5) (tgt := 220) hx hb iz5 dX12_next_204 (by decide) (fun c6 => ?_) (fun c6 => ?_)
    · replace hf := rf_if_t hf c6
      refine lv_aload_n hx hb dX12_next_220 rfl (lv_at hl 0 rfl) ?_
      refine lv_iconst (v := rI 1) hx hb dX12_next_221 rfl ?_
      obtain ⟨σ7, eσ7, hf⟩ := rf_pi_s hf
      refine rf_put B hw 7 (by decide) rfl rfl lk_203 ⟨by decide, by decide⟩ eσ7 rfl rfl dX12_next_222 (fun H locs hw => ?_)
      refine lv_aload_n hx hb dX12_next_225 rfl (lv_at hl 0 rfl) ?_
      refine lv_aload_n hx hb dX12_next_226 rfl (lv_at hl 0 rfl) ?_
      obtain ⟨z8, ez8, iz8, hf⟩ := rf_gi_s hw hf
      refine rf_geti B hw 6 (by decide) rfl lk_193 ez8 dX12_next_227 ?_
      obtain ⟨σ9, eσ9, hf⟩ := rf_pi_s hf
      refine rf_put B hw 10 (by decide) rfl rfl lk_212 iz8 eσ9 rfl rfl dX12_next_230 (fun H locs hw => ?_)
      refine lv_iconst (v := rI 0) hx hb dX12_next_233 rfl ?_
      refine lv_istore_n (lv' := [(3, .int (rI 0)), (0, .ref (rf_h v))]) hx hb dX12_next_234 rfl hl (by decide) rfl (fun ls hl => ?_)
      exact ps_next_235 hR B 200000 σ9 0 ⟨by decide, by decide⟩ hf _ _ _ hw (lv_sub hl [1, 0] rfl)
    · replace hf := rf_if_f hf c6
      refine lv_aload_n hx hb dX12_next_207 rfl (lv_at hl 0 rfl) ?_
      refine lv_dup hx hb dX12_next_208 rfl ?_
      obtain ⟨z10, ez10, iz10, hf⟩ := rf_gi_s hw hf
      refine rf_geti B hw 6 (by decide) rfl lk_193 ez10 dX12_next_209 ?_
      refine lv_iconst (v := rI 1) hx hb dX12_next_212 rfl ?_
      obtain ⟨z11, ez11, iz11, hf⟩ := rf_ck_s hf
      refine rn_add hx hb ez11 dX12_next_213 ?_
      obtain ⟨σ12, eσ12, hf⟩ := rf_pi_s hf
      refine rf_put B hw 6 (by decide) rfl rfl lk_193 iz11 eσ12 rfl rfl dX12_next_214 (fun H locs hw => ?_)
      refine lv_goto (tgt := 193) hx hb dX12_next_217 (by decide) ?_
      exact ih σ12 hf _ _ _ hw (lv_sub hl [0] rfl)

set_option maxHeartbeats 4000000 in
set_option maxRecDepth 100000 in
theorem ps_next_2 {v : rfE} {p : Program} {l : Launch} {e : Env} {s : State} {m : MethodId} {args : Array Value} {below : List Frame} {meth : Method} {c : Code} {d : Nat} {rec : Nat → RS → List Int → Option (RS × Int)} {σ' : RS} {r : Int} (hR : rf_Rec l v d rec) (B : rf_B v p s m args meth c cX12_next 4 none) : ∀ (n : Nat) (σ : RS) (x1 : Int), inR x1 → pf_next_2 rec n σ x1 = some (σ', r) → ∀ (H : Heap) (locs : List Loc) (ls : Array Slot), rf_W v s σ H locs → lv_has ls 4 [(0, .ref (rf_h v)), (1, .int (rI x1))] → W p l e (rf_rm (d + 1)) s m args below meth c H locs 0 0 (MQ below (rf_Q v σ' none) args s 0 0 (rf_F v)) (F0 m 2 ls []) := by
  obtain ⟨hx, hb, hr, hml, hown, hts, hlk, hK, hD⟩ := id B
  intro n
  induction n with
  | zero => intro σ x1 ix1 hf; cases hf
  | succ n ih =>
    intro σ x1 ix1 hf H locs ls hw hl
    unfold pf_next_2 at hf
    refine lv_iload_n hx hb dX12_next_2 rfl (lv_at hl 1 rfl) ?_
    refine rn_if_eq (a := x1) (tgt := 151) hx hb ix1 dX12_next_3 (by decide) (fun c1 => ?_) (fun c1 => ?_)
    · replace hf := rf_if_t hf c1
      refine lv_aload_n hx hb dX12_next_151 rfl (lv_at hl 0 rfl) ?_
      refine lv_aload_n hx hb dX12_next_152 rfl (lv_at hl 0 rfl) ?_
      obtain ⟨z2, ez2, iz2, hf⟩ := rf_gi_s hw hf
      refine rf_geti B hw 6 (by decide) rfl lk_193 ez2 dX12_next_153 ?_
      obtain ⟨σ3, eσ3, hf⟩ := rf_pi_s hf
      refine rf_put B hw 9 (by decide) rfl rfl lk_200 iz2 eσ3 rfl rfl dX12_next_156 (fun H locs hw => ?_)
      refine lv_aload_n hx hb dX12_next_159 rfl (lv_at hl 0 rfl) ?_
      refine lv_aload_n hx hb dX12_next_160 rfl (lv_at hl 0 rfl) ?_
      obtain ⟨z4, ez4, iz4, hf⟩ := rf_gi_s hw hf
      refine rf_geti B hw 6 (by decide) rfl lk_193 ez4 dX12_next_161 ?_
      obtain ⟨σ5, z6, hσ5, hf⟩ := rf_cl_s hf
      obtain ⟨iz6, mσ5⟩ := hR 7 σ3 [z4] σ5 z6 hσ5
      have mσ5 : rf_Met l v yX12_byteAt cX12_byteAt 2 (some .int) d [.ref (rf_h v), .int (rI z4)] σ3 σ5 (some (.int (rI z6))) := mσ5 iz4
      refine rf_cv (n := 1) (rest := []) (As := [.int (rI z4)]) B mσ5 g_196_byteAt (by decide +kernel) (by decide) rfl hl.1 (Nat.le_of_ble_eq_true rfl) dX12_next_164 rfl hw (fun H locs hw => ?_)
      refine lv_istore_n (lv' := [(2, .int (rI z6)), (0, .ref (rf_h v)), (1, .int (rI x1))]) hx hb dX12_next_167 rfl hl (by decide) rfl (fun ls hl => ?_)
      refine lv_aload_n hx hb dX12_next_168 rfl (lv_at hl 1 rfl) ?_
      refine lv_iconst (v := rI (-1)) hx hb dX12_next_169 rfl ?_
      obtain ⟨σ7, eσ7, hf⟩ := rf_pi_s hf
      refine rf_put B hw 11 (by decide) rfl rfl lk_206 ⟨by decide, by decide⟩ eσ7 rfl rfl dX12_next_170 (fun H locs hw => ?_)
      refine lv_iload_n hx hb dX12_next_173 rfl (lv_at hl 0 rfl) ?_
      refine lv_iconst (v := rI (-1)) hx hb dX12_next_174 rfl ?_
      refine rn_icmp_ne (a := z6) (b := (-1)) (tgt := 186) hx hb iz6 ⟨by decide, by decide⟩ dX12_next_175 (by decide) (fun c8 => ?_) (fun c8 => ?_)
      · replace hf := rf_if_t hf c8
        refine lv_iload_n hx hb dX12_next_186 rfl (lv_at hl 0 rfl) ?_
        obtain ⟨σ9, z10, hσ9, hf⟩ := rf_cl_s hf
        obtain ⟨iz10, mσ9⟩ := hR 8 σ7 [z6] σ9 z10 hσ9
        have mσ9 : rf_Met l v yX12_isLetter cX12_isLetter 1 (some .boolean) d [.int (rI z6)] σ7 σ9 (some (.int (rI z10))) := mσ9 iz6
        refine rf_cs (n := 1) (rest := []) (As := [.int (rI z6)]) B mσ9 g_189_isLetter (by decide +kernel) (by decide) rfl hl.1 (Nat.le_of_ble_eq_true rfl) dX12_next_187 rfl hw (fun H locs hw => ?_)
        refine rn_if_eq (a := z10) (tgt := 286) hx hb iz10 dX12_next_190 (by decide) (fun c11 => ?_) (fun c11 => ?_)
        · replace hf := rf_if_t hf c11
          refine lv_aload_n hx hb dX12_next_286 rfl (lv_at hl 1 rfl) ?_
          refine lv_iload_n hx hb dX12_next_287 rfl (lv_at hl 0 rfl) ?_
          obtain ⟨σ12, z13, hσ12, hf⟩ := rf_cl_s hf
          obtain ⟨iz13, mσ12⟩ := hR 12 σ9 [z6] σ12 z13 hσ12
          have mσ12 : rf_Met l v yX12_readSign cX12_readSign 2 none d [.ref (rf_h v), .int (rI z6)] σ9 σ12 none := mσ12 iz6
          refine rf_cv (n := 1) (rest := []) (As := [.int (rI z6)]) B mσ12 g_222_readSign (by decide +kernel) (by decide) rfl hl.1 (Nat.le_of_ble_eq_true rfl) dX12_next_288 rfl hw (fun H locs hw => ?_)
          exact rf_retv B hf hw dX12_next_291
        · replace hf := rf_if_f hf c11
          exact ps_next_193 hR B 200000 σ9 hf _ _ _ hw (lv_sub hl [1] rfl)
      · replace hf := rf_if_f hf c8
        refine lv_aload_n hx hb dX12_next_178 rfl (lv_at hl 1 rfl) ?_
        refine lv_iconst (v := rI 0) hx hb dX12_next_179 rfl ?_
        obtain ⟨σ14, eσ14, hf⟩ := rf_pi_s hf
        refine rf_put B hw 7 (by decide) rfl rfl lk_203 ⟨by decide, by decide⟩ eσ14 rfl rfl dX12_next_180 (fun H locs hw => ?_)
        refine lv_goto (tgt := 291) hx hb dX12_next_183 (by decide) ?_
        exact rf_retv B hf hw dX12_next_291
    · replace hf := rf_if_f hf c1
      exact ps_next_6 hR B (pf_next_2 rec n) ih 200000 σ hf _ _ _ hw (lv_sub hl [0] rfl)

set_option maxHeartbeats 4000000 in
set_option maxRecDepth 100000 in
theorem ps_next_0 {v : rfE} {p : Program} {l : Launch} {e : Env} {s : State} {m : MethodId} {args : Array Value} {below : List Frame} {meth : Method} {c : Code} {d : Nat} {rec : Nat → RS → List Int → Option (RS × Int)} {σ' : RS} {r : Int} (hR : rf_Rec l v d rec) (B : rf_B v p s m args meth c cX12_next 4 none) : ∀ (σ : RS), pf_next_0 rec σ = some (σ', r) → ∀ (H : Heap) (locs : List Loc) (ls : Array Slot), rf_W v s σ H locs → lv_has ls 4 [(0, .ref (rf_h v))] → W p l e (rf_rm (d + 1)) s m args below meth c H locs 0 0 (MQ below (rf_Q v σ' none) args s 0 0 (rf_F v)) (F0 m 0 ls []) := by
  obtain ⟨hx, hb, hr, hml, hown, hts, hlk, hK, hD⟩ := id B
  intro σ hf H locs ls hw hl
  unfold pf_next_0 at hf
  refine lv_iconst (v := rI 1) hx hb dX12_next_0 rfl ?_
  refine lv_istore_n (lv' := [(1, .int (rI 1)), (0, .ref (rf_h v))]) hx hb dX12_next_1 rfl hl (by decide) rfl (fun ls hl => ?_)
  exact ps_next_2 hR B 200000 σ 1 ⟨by decide, by decide⟩ hf _ _ _ hw (lv_sub hl [1, 0] rfl)

set_option maxHeartbeats 4000000 in
set_option maxRecDepth 100000 in
theorem pm_next {v : rfE} (hD : rf_D v) {l : Launch} {d : Nat} {rec : Nat → RS → List Int → Option (RS × Int)} (hR : rf_Rec l v d rec) (σ σ' : RS) (r : Int) (hf : pf_next_0 rec σ = some (σ', r)) : rf_Met l v yX12_next cX12_next 4 none (d + 1) [.ref (rf_h v)] σ σ' none := by
  refine Met.ofW (cc := cX12_next) (maxL := 4) (ret := none) (by decide +kernel) rfl ?_
  intro p e s m args below meth c s₁ B hml hv
  obtain ⟨rfl, hM, hK⟩ := hv
  have hts := atoms_spec (ws := Cond.code yX12_next cX12_next 4 none :: rf_bw) B.pre
  have hB : rf_B v p s m _ meth c cX12_next 4 none := ⟨B.exec, B.bytes, B.returns, hml, findClass_of_methodNamed B.named, fun w h => hts w (List.mem_cons_of_mem _ h), B.notSynchronized, hK, hD⟩
  have hl := lv_entry ([.ref (rf_h v)]) (n := 4) (Nat.le_of_ble_eq_true rfl)
  rw [lg_entry_eq]
  generalize (lg_sl ([.ref (rf_h v)]) ++ List.replicate (4 - (lg_sl ([.ref (rf_h v)])).length) Slot.unset).toArray = ls at hl ⊢
  exact ps_next_0 hR hB σ hf _ _ _ ⟨hM, rfl, fun _ _ => rfl, fun q h => by cases h⟩ (lv_sub hl [0] rfl)

set_option maxHeartbeats 4000000 in
set_option maxRecDepth 100000 in
theorem ps_isWord_75 {v : rfE} {p : Program} {l : Launch} {e : Env} {s : State} {m : MethodId} {args : Array Value} {below : List Frame} {meth : Method} {c : Code} {d : Nat} {rec : Nat → RS → List Int → Option (RS × Int)} {σ' : RS} {r : Int} (hR : rf_Rec l v d rec) (hd3 : 3 ≤ d) (B : rf_B v p s m args meth c cX12_isWord 4 (some .boolean)) (k29 : RS → Int → Int → Int → Option (RS × Int)) (hk29 : ∀ (σ : RS) (x1 x2 x3 : Int), inR x1 → inR x2 → inR x3 → k29 σ x1 x2 x3 = some (σ', r) → ∀ (H : Heap) (locs : List Loc) (ls : Array Slot), rf_W v s σ H locs → lv_has ls 4 [(0, .ref (rf_h v)), (1, .int (rI x1)), (2, .int (rI x2)), (3, .int (rI x3))] → W p l e (rf_rm (d + 1)) s m args below meth c H locs 0 0 (MQ below (rf_Q v σ' (some (.int (rI r)))) args s 0 0 (rf_F v)) (F0 m 29 ls [])) : ∀ (σ : RS) (x1 x3 t0 : Int), inR x1 → inR x3 → inR t0 → pf_isWord_75 rec k29 σ x1 x3 t0 = some (σ', r) → ∀ (H : Heap) (locs : List Loc) (ls : Array Slot), rf_W v s σ H locs → lv_has ls 4 [(0, .ref (rf_h v)), (1, .int (rI x1)), (3, .int (rI x3))] → W p l e (rf_rm (d + 1)) s m args below meth c H locs 0 0 (MQ below (rf_Q v σ' (some (.int (rI r)))) args s 0 0 (rf_F v)) (F0 m 75 ls [.int (rI t0)]) := by
  obtain ⟨hx, hb, hr, hml, hown, hts, hlk, hK, hD⟩ := id B
  intro σ x1 x3 t0 ix1 ix3 it0 hf H locs ls hw hl
  unfold pf_isWord_75 at hf
  refine lv_istore_n (lv' := [(2, .int (rI t0)), (0, .ref (rf_h v)), (1, .int (rI x1)), (3, .int (rI x3))]) hx hb dX12_isWord_75 rfl hl (by decide) rfl (fun ls hl => ?_)
  obtain ⟨z1, ez1, iz1, hf⟩ := rf_ck_s hf
  refine lv_iinc (v := rI z1) (lv' := [(3, .int (rI z1)), (2, .int (rI t0)), (0, .ref (rf_h v)), (1, .int (rI x1))]) hx hb dX12_isWord_76 hl (k := 3) rfl (by rw [ez1]; exact rI_add _ _) (by decide) rfl (fun ls hl => ?_)
  refine lv_goto (tgt := 29) hx hb dX12_isWord_79 (by decide) ?_
  exact hk29 σ x1 t0 z1 ix1 it0 iz1 hf _ _ _ hw (lv_sub hl [2, 3, 1, 0] rfl)

set_option maxHeartbeats 4000000 in
set_option maxRecDepth 100000 in
theorem ps_isWord_29 {v : rfE} {p : Program} {l : Launch} {e : Env} {s : State} {m : MethodId} {args : Array Value} {below : List Frame} {meth : Method} {c : Code} {d : Nat} {rec : Nat → RS → List Int → Option (RS × Int)} {σ' : RS} {r : Int} (hR : rf_Rec l v d rec) (hd3 : 3 ≤ d) (B : rf_B v p s m args meth c cX12_isWord 4 (some .boolean)) : ∀ (n : Nat) (σ : RS) (x1 x2 x3 : Int), inR x1 → inR x2 → inR x3 → pf_isWord_29 rec n σ x1 x2 x3 = some (σ', r) → ∀ (H : Heap) (locs : List Loc) (ls : Array Slot), rf_W v s σ H locs → lv_has ls 4 [(0, .ref (rf_h v)), (1, .int (rI x1)), (2, .int (rI x2)), (3, .int (rI x3))] → W p l e (rf_rm (d + 1)) s m args below meth c H locs 0 0 (MQ below (rf_Q v σ' (some (.int (rI r)))) args s 0 0 (rf_F v)) (F0 m 29 ls []) := by
  obtain ⟨hx, hb, hr, hml, hown, hts, hlk, hK, hD⟩ := id B
  intro n
  induction n with
  | zero => intro σ x1 x2 x3 ix1 ix2 ix3 hf; cases hf
  | succ n ih =>
    intro σ x1 x2 x3 ix1 ix2 ix3 hf H locs ls hw hl
    unfold pf_isWord_29 at hf
    refine lv_iload_n hx hb dX12_isWord_29 rfl (lv_at hl 2 rfl) ?_
    refine rn_if_eq (a := x2) (tgt := 82) hx hb ix2 dX12_isWord_30 (by decide) (fun c1 => ?_) (fun c1 => ?_)
    · replace hf := rf_if_t hf c1
      refine lv_iload_n hx hb dX12_isWord_82 rfl (lv_at hl 2 rfl) ?_
      obtain ⟨h01, hf⟩ := rf_bo_s hf
      exact rf_retz B h01 hf hw dX12_isWord_83
    · replace hf := rf_if_f hf c1
      refine lv_iload_n hx hb dX12_isWord_33 rfl (lv_at hl 3 rfl) ?_
      refine lv_aload_n hx hb dX12_isWord_34 rfl (lv_at hl 0 rfl) ?_
      obtain ⟨z2, ez2, iz2, hf⟩ := rf_gi_s hw hf
      refine rf_geti B hw 10 (by decide) rfl lk_212 ez2 dX12_isWord_35 ?_
      refine lv_aload_n hx hb dX12_isWord_38 rfl (lv_at hl 0 rfl) ?_
      obtain ⟨z3, ez3, iz3, hf⟩ := rf_gi_s hw hf
      refine rf_geti B hw 9 (by decide) rfl lk_200 ez3 dX12_isWord_39 ?_
      obtain ⟨z4, ez4, iz4, hf⟩ := rf_ck_s hf
      refine rn_sub hx hb ez4 dX12_isWord_42 ?_
      refine rn_icmp_ge (a := x3) (b := z4) (tgt := 82) hx hb ix3 iz4 dX12_isWord_43 (by decide) (fun c5 => ?_) (fun c5 => ?_)
      · replace hf := rf_if_t hf c5
        refine lv_iload_n hx hb dX12_isWord_82 rfl (lv_at hl 2 rfl) ?_
        obtain ⟨h01, hf⟩ := rf_bo_s hf
        exact rf_retz B h01 hf hw dX12_isWord_83
      · replace hf := rf_if_f hf c5
        refine lv_aload_n hx hb dX12_isWord_46 rfl (lv_at hl 0 rfl) ?_
        refine rf_get (val := .ref (rf_ad v 0)) B hw 0 (by decide) lk_27 rfl dX12_isWord_47 ?_
        refine lv_iload_n hx hb dX12_isWord_50 rfl (lv_at hl 1 rfl) ?_
        obtain ⟨rz6, hf⟩ := rf_ws_s hf
        refine rf_aald B hw ix1 rz6 dX12_isWord_51 ?_
        refine lv_iload_n hx hb dX12_isWord_52 rfl (lv_at hl 3 rfl) ?_
        obtain ⟨z7, ez7, iz7, rz7, hf⟩ := rf_sC_s hf
        refine rf_cj (n := 1) (i := Int.toNat x1) (rest := []) (As := [.int (rI x3)]) B (by omega) (rf_schr hd3 rz7 ez7) gj_163_charAt (by decide +kernel) (by decide) rfl hl.1 (Nat.le_of_ble_eq_true rfl) dX12_isWord_53 rfl hw ?_
        refine lv_aload_n hx hb dX12_isWord_56 rfl (lv_at hl 0 rfl) ?_
        refine rf_get (val := .ref (rf_ad v 4)) B hw 4 (by decide) lk_37 rfl dX12_isWord_57 ?_
        refine lv_aload_n hx hb dX12_isWord_60 rfl (lv_at hl 0 rfl) ?_
        obtain ⟨z8, ez8, iz8, hf⟩ := rf_gi_s hw hf
        refine rf_geti B hw 9 (by decide) rfl lk_200 ez8 dX12_isWord_61 ?_
        refine lv_iload_n hx hb dX12_isWord_64 rfl (lv_at hl 3 rfl) ?_
        obtain ⟨z9, ez9, iz9, hf⟩ := rf_ck_s hf
        refine rn_add hx hb ez9 dX12_isWord_65 ?_
        obtain ⟨z10, ez10, iz10, rz10, hf⟩ := rf_rd_s hw hf
        refine rf_ald B hw iz9 rz10 ez10 dX12_isWord_66 ?_
        refine rn_icmp_ne (a := z7) (b := z10) (tgt := 74) hx hb iz7 iz10 dX12_isWord_67 (by decide) (fun c11 => ?_) (fun c11 => ?_)
        · replace hf := rf_if_t hf c11
          refine lv_iconst (v := rI 0) hx hb dX12_isWord_74 rfl ?_
          exact ps_isWord_75 hR hd3 B (pf_isWord_29 rec n) ih σ x1 x3 0 ix1 ix3 ⟨by decide, by decide⟩ hf _ _ _ hw (lv_sub hl [0, 1, 3] rfl)
        · replace hf := rf_if_f hf c11
          refine lv_iconst (v := rI 1) hx hb dX12_isWord_70 rfl ?_
          refine lv_goto (tgt := 75) hx hb dX12_isWord_71 (by decide) ?_
          exact ps_isWord_75 hR hd3 B (pf_isWord_29 rec n) ih σ x1 x3 1 ix1 ix3 ⟨by decide, by decide⟩ hf _ _ _ hw (lv_sub hl [0, 1, 3] rfl)

set_option maxHeartbeats 4000000 in
set_option maxRecDepth 100000 in
theorem ps_isWord_26 {v : rfE} {p : Program} {l : Launch} {e : Env} {s : State} {m : MethodId} {args : Array Value} {below : List Frame} {meth : Method} {c : Code} {d : Nat} {rec : Nat → RS → List Int → Option (RS × Int)} {σ' : RS} {r : Int} (hR : rf_Rec l v d rec) (hd3 : 3 ≤ d) (B : rf_B v p s m args meth c cX12_isWord 4 (some .boolean)) : ∀ (σ : RS) (x1 t0 : Int), inR x1 → inR t0 → pf_isWord_26 rec σ x1 t0 = some (σ', r) → ∀ (H : Heap) (locs : List Loc) (ls : Array Slot), rf_W v s σ H locs → lv_has ls 4 [(0, .ref (rf_h v)), (1, .int (rI x1))] → W p l e (rf_rm (d + 1)) s m args below meth c H locs 0 0 (MQ below (rf_Q v σ' (some (.int (rI r)))) args s 0 0 (rf_F v)) (F0 m 26 ls [.int (rI t0)]) := by
  obtain ⟨hx, hb, hr, hml, hown, hts, hlk, hK, hD⟩ := id B
  intro σ x1 t0 ix1 it0 hf H locs ls hw hl
  unfold pf_isWord_26 at hf
  refine lv_istore_n (lv' := [(2, .int (rI t0)), (0, .ref (rf_h v)), (1, .int (rI x1))]) hx hb dX12_isWord_26 rfl hl (by decide) rfl (fun ls hl => ?_)
  refine lv_iconst (v := rI 0) hx hb dX12_isWord_27 rfl ?_
  refine lv_istore_n (lv' := [(3, .int (rI 0)), (2, .int (rI t0)), (0, .ref (rf_h v)), (1, .int (rI x1))]) hx hb dX12_isWord_28 rfl hl (by decide) rfl (fun ls hl => ?_)
  exact ps_isWord_29 hR hd3 B 200000 σ x1 t0 0 ix1 it0 ⟨by decide, by decide⟩ hf _ _ _ hw (lv_sub hl [2, 3, 1, 0] rfl)

set_option maxHeartbeats 4000000 in
set_option maxRecDepth 100000 in
theorem ps_isWord_0 {v : rfE} {p : Program} {l : Launch} {e : Env} {s : State} {m : MethodId} {args : Array Value} {below : List Frame} {meth : Method} {c : Code} {d : Nat} {rec : Nat → RS → List Int → Option (RS × Int)} {σ' : RS} {r : Int} (hR : rf_Rec l v d rec) (hd3 : 3 ≤ d) (B : rf_B v p s m args meth c cX12_isWord 4 (some .boolean)) : ∀ (σ : RS) (x1 : Int), inR x1 → pf_isWord_0 rec σ x1 = some (σ', r) → ∀ (H : Heap) (locs : List Loc) (ls : Array Slot), rf_W v s σ H locs → lv_has ls 4 [(0, .ref (rf_h v)), (1, .int (rI x1))] → W p l e (rf_rm (d + 1)) s m args below meth c H locs 0 0 (MQ below (rf_Q v σ' (some (.int (rI r)))) args s 0 0 (rf_F v)) (F0 m 0 ls []) := by
  obtain ⟨hx, hb, hr, hml, hown, hts, hlk, hK, hD⟩ := id B
  intro σ x1 ix1 hf H locs ls hw hl
  unfold pf_isWord_0 at hf
  refine lv_aload_n hx hb dX12_isWord_0 rfl (lv_at hl 0 rfl) ?_
  refine rf_get (val := .ref (rf_ad v 0)) B hw 0 (by decide) lk_27 rfl dX12_isWord_1 ?_
  refine lv_iload_n hx hb dX12_isWord_4 rfl (lv_at hl 1 rfl) ?_
  obtain ⟨rz1, hf⟩ := rf_ws_s hf
  refine rf_aald B hw ix1 rz1 dX12_isWord_5 ?_
  obtain ⟨z2, ez2, iz2, rz2, hf⟩ := rf_sL_s hf
  refine rf_cj (n := 0) (i := Int.toNat x1) (rest := []) (As := []) B (by omega) (rf_slen hd3 rz2 ez2) gj_156_length (by decide +kernel) (by decide) rfl hl.1 (Nat.le_of_ble_eq_true rfl) dX12_isWord_6 rfl hw ?_
  refine lv_aload_n hx hb dX12_isWord_9 rfl (lv_at hl 0 rfl) ?_
  obtain ⟨z3, ez3, iz3, hf⟩ := rf_gi_s hw hf
  refine rf_geti B hw 10 (by decide) rfl lk_212 ez3 dX12_isWord_10 ?_
  refine lv_aload_n hx hb dX12_isWord_13 rfl (lv_at hl 0 rfl) ?_
  obtain ⟨z4, ez4, iz4, hf⟩ := rf_gi_s hw hf
  refine rf_geti B hw 9 (by decide) rfl lk_200 ez4 dX12_isWord_14 ?_
  obtain ⟨z5, ez5, iz5, hf⟩ := rf_ck_s hf
  refine rn_sub hx hb ez5 dX12_isWord_17 ?_
  refine rn_icmp_ne (a := z2) (b := z5) (tgt := 25) hx hb iz2 iz5 dX12_isWord_18 (by decide) (fun c6 => ?_) (fun c6 => ?_)
  · replace hf := rf_if_t hf c6
    refine lv_iconst (v := rI 0) hx hb dX12_isWord_25 rfl ?_
    exact ps_isWord_26 hR hd3 B σ x1 0 ix1 ⟨by decide, by decide⟩ hf _ _ _ hw (lv_sub hl [0, 1] rfl)
  · replace hf := rf_if_f hf c6
    refine lv_iconst (v := rI 1) hx hb dX12_isWord_21 rfl ?_
    refine lv_goto (tgt := 26) hx hb dX12_isWord_22 (by decide) ?_
    exact ps_isWord_26 hR hd3 B σ x1 1 ix1 ⟨by decide, by decide⟩ hf _ _ _ hw (lv_sub hl [0, 1] rfl)

set_option maxHeartbeats 4000000 in
set_option maxRecDepth 100000 in
theorem pm_isWord {v : rfE} (hD : rf_D v) {l : Launch} {d : Nat} {rec : Nat → RS → List Int → Option (RS × Int)} (hR : rf_Rec l v d rec) (hd3 : 3 ≤ d) (σ σ' : RS) (x1 r : Int) (ix1 : inR x1) (hf : pf_isWord_0 rec σ x1 = some (σ', r)) : rf_Met l v yX12_isWord cX12_isWord 4 (some .boolean) (d + 1) [.ref (rf_h v), .int (rI x1)] σ σ' (some (.int (rI r))) := by
  refine Met.ofW (cc := cX12_isWord) (maxL := 4) (ret := (some .boolean)) (by decide +kernel) rfl ?_
  intro p e s m args below meth c s₁ B hml hv
  obtain ⟨rfl, hM, hK⟩ := hv
  have hts := atoms_spec (ws := Cond.code yX12_isWord cX12_isWord 4 (some .boolean) :: rf_bw) B.pre
  have hB : rf_B v p s m _ meth c cX12_isWord 4 (some .boolean) := ⟨B.exec, B.bytes, B.returns, hml, findClass_of_methodNamed B.named, fun w h => hts w (List.mem_cons_of_mem _ h), B.notSynchronized, hK, hD⟩
  have hl := lv_entry ([.ref (rf_h v), .int (rI x1)]) (n := 4) (Nat.le_of_ble_eq_true rfl)
  rw [lg_entry_eq]
  generalize (lg_sl ([.ref (rf_h v), .int (rI x1)]) ++ List.replicate (4 - (lg_sl ([.ref (rf_h v), .int (rI x1)])).length) Slot.unset).toArray = ls at hl ⊢
  exact ps_isWord_0 hR hd3 hB σ x1 ix1 hf _ _ _ ⟨hM, rfl, fun _ _ => rfl, fun q h => by cases h⟩ (lv_sub hl [0, 1] rfl)

set_option maxHeartbeats 4000000 in
set_option maxRecDepth 100000 in
theorem ps_readSign_98 {v : rfE} {p : Program} {l : Launch} {e : Env} {s : State} {m : MethodId} {args : Array Value} {below : List Frame} {meth : Method} {c : Code} {d : Nat} {rec : Nat → RS → List Int → Option (RS × Int)} {σ' : RS} {r : Int} (hR : rf_Rec l v d rec) (B : rf_B v p s m args meth c cX12_readSign 2 none) : ∀ (σ : RS) (x1 : Int), inR x1 → pf_readSign_98 rec σ x1 = some (σ', r) → ∀ (H : Heap) (locs : List Loc) (ls : Array Slot), rf_W v s σ H locs → lv_has ls 2 [(0, .ref (rf_h v)), (1, .int (rI x1))] → W p l e (rf_rm (d + 1)) s m args below meth c H locs 0 0 (MQ below (rf_Q v σ' none) args s 0 0 (rf_F v)) (F0 m 98 ls []) := by
  obtain ⟨hx, hb, hr, hml, hown, hts, hlk, hK, hD⟩ := id B
  intro σ x1 ix1 hf H locs ls hw hl
  unfold pf_readSign_98 at hf
  refine lv_iload_n hx hb dX12_readSign_98 rfl (lv_at hl 1 rfl) ?_
  refine lv_bipush (v := rI 92) hx hb dX12_readSign_99 (by decide +kernel) ?_
  refine rn_icmp_eq (a := x1) (b := 92) (tgt := 151) hx hb ix1 ⟨by decide, by decide⟩ dX12_readSign_101 (by decide) (fun c1 => ?_) (fun c1 => ?_)
  · replace hf := rf_if_t hf c1
    exact rf_retv B hf hw dX12_readSign_151
  · replace hf := rf_if_f hf c1
    refine lv_iload_n hx hb dX12_readSign_104 rfl (lv_at hl 1 rfl) ?_
    refine lv_bipush (v := rI 33) hx hb dX12_readSign_105 (by decide +kernel) ?_
    refine rn_icmp_eq (a := x1) (b := 33) (tgt := 151) hx hb ix1 ⟨by decide, by decide⟩ dX12_readSign_107 (by decide) (fun c2 => ?_) (fun c2 => ?_)
    · replace hf := rf_if_t hf c2
      exact rf_retv B hf hw dX12_readSign_151
    · replace hf := rf_if_f hf c2
      refine lv_iload_n hx hb dX12_readSign_110 rfl (lv_at hl 1 rfl) ?_
      refine lv_bipush (v := rI 58) hx hb dX12_readSign_111 (by decide +kernel) ?_
      refine rn_icmp_eq (a := x1) (b := 58) (tgt := 151) hx hb ix1 ⟨by decide, by decide⟩ dX12_readSign_113 (by decide) (fun c3 => ?_) (fun c3 => ?_)
      · replace hf := rf_if_t hf c3
        exact rf_retv B hf hw dX12_readSign_151
      · replace hf := rf_if_f hf c3
        refine lv_iload_n hx hb dX12_readSign_116 rfl (lv_at hl 1 rfl) ?_
        refine lv_bipush (v := rI 46) hx hb dX12_readSign_117 (by decide +kernel) ?_
        refine rn_icmp_eq (a := x1) (b := 46) (tgt := 151) hx hb ix1 ⟨by decide, by decide⟩ dX12_readSign_119 (by decide) (fun c4 => ?_) (fun c4 => ?_)
        · replace hf := rf_if_t hf c4
          exact rf_retv B hf hw dX12_readSign_151
        · replace hf := rf_if_f hf c4
          refine lv_iload_n hx hb dX12_readSign_122 rfl (lv_at hl 1 rfl) ?_
          refine lv_bipush (v := rI 59) hx hb dX12_readSign_123 (by decide +kernel) ?_
          refine rn_icmp_eq (a := x1) (b := 59) (tgt := 151) hx hb ix1 ⟨by decide, by decide⟩ dX12_readSign_125 (by decide) (fun c5 => ?_) (fun c5 => ?_)
          · replace hf := rf_if_t hf c5
            exact rf_retv B hf hw dX12_readSign_151
          · replace hf := rf_if_f hf c5
            refine lv_iload_n hx hb dX12_readSign_128 rfl (lv_at hl 1 rfl) ?_
            refine lv_bipush (v := rI 61) hx hb dX12_readSign_129 (by decide +kernel) ?_
            refine rn_icmp_eq (a := x1) (b := 61) (tgt := 151) hx hb ix1 ⟨by decide, by decide⟩ dX12_readSign_131 (by decide) (fun c6 => ?_) (fun c6 => ?_)
            · replace hf := rf_if_t hf c6
              exact rf_retv B hf hw dX12_readSign_151
            · replace hf := rf_if_f hf c6
              refine lv_iload_n hx hb dX12_readSign_134 rfl (lv_at hl 1 rfl) ?_
              refine lv_bipush (v := rI 40) hx hb dX12_readSign_135 (by decide +kernel) ?_
              refine rn_icmp_eq (a := x1) (b := 40) (tgt := 151) hx hb ix1 ⟨by decide, by decide⟩ dX12_readSign_137 (by decide) (fun c7 => ?_) (fun c7 => ?_)
              · replace hf := rf_if_t hf c7
                exact rf_retv B hf hw dX12_readSign_151
              · replace hf := rf_if_f hf c7
                refine lv_iload_n hx hb dX12_readSign_140 rfl (lv_at hl 1 rfl) ?_
                refine lv_bipush (v := rI 41) hx hb dX12_readSign_141 (by decide +kernel) ?_
                refine rn_icmp_eq (a := x1) (b := 41) (tgt := 151) hx hb ix1 ⟨by decide, by decide⟩ dX12_readSign_143 (by decide) (fun c8 => ?_) (fun c8 => ?_)
                · replace hf := rf_if_t hf c8
                  exact rf_retv B hf hw dX12_readSign_151
                · replace hf := rf_if_f hf c8
                  refine lv_aload_n hx hb dX12_readSign_146 rfl (lv_at hl 0 rfl) ?_
                  refine lv_iconst (v := rI 3) hx hb dX12_readSign_147 rfl ?_
                  obtain ⟨σ9, eσ9, hf⟩ := rf_pi_s hf
                  refine rf_put B hw 7 (by decide) rfl rfl lk_203 ⟨by decide, by decide⟩ eσ9 rfl rfl dX12_readSign_148 (fun H locs hw => ?_)
                  exact rf_retv B hf hw dX12_readSign_151

