set_option maxHeartbeats 4000000 in
set_option maxRecDepth 100000 in
theorem ps_text_0 {v : rfE} {p : Program} {l : Launch} {e : Env} {s : State} {m : MethodId} {args : Array Value} {below : List Frame} {meth : Method} {c : Code} {d : Nat} {rec : Nat → RS → List Int → Option (RS × Int)} {σ' : RS} {r : Int} (hR : rf_Rec l v d rec) (B : rf_B v p s m args meth c cX12_text 3 (some .int)) : ∀ (σ : RS) (x1 : Int), inR x1 → pf_text_0 rec σ x1 = some (σ', r) → ∀ (H : Heap) (locs : List Loc) (ls : Array Slot), rf_W v s σ H locs → lv_has ls 3 [(0, .ref (rf_h v)), (1, .int (rI x1))] → W p l e (rf_rm (d + 1)) s m args below meth c H locs 0 0 (MQ below (rf_Q v σ' (some (.int (rI r)))) args s 0 0 (rf_F v)) (F0 m 0 ls []) := by
  obtain ⟨hx, hb, hr, hml, hown, hts, hlk, hK, hD⟩ := id B
  intro σ x1 ix1 hf H locs ls hw hl
  unfold pf_text_0 at hf
  refine lv_aload_n hx hb dX12_text_0 rfl (lv_at hl 0 rfl) ?_
  refine lv_iconst (v := rI 0) hx hb dX12_text_1 rfl ?_
  obtain ⟨σ1, eσ1, hf⟩ := rf_pi_s hf
  refine rf_put B hw 1 (by decide) rfl rfl lk_147 ⟨by decide, by decide⟩ eσ1 rfl rfl dX12_text_2 (fun H locs hw => ?_)
  refine lv_iload_n hx hb dX12_text_5 rfl (lv_at hl 1 rfl) ?_
  refine rn_if_lt (a := x1) (tgt := 17) hx hb ix1 dX12_text_6 (by decide) (fun c2 => ?_) (fun c2 => ?_)
  · replace hf := rf_if_t hf c2
    exact ps_text_17 hR B σ1 hf _ _ _ hw (lv_sub hl [0] rfl)
  · replace hf := rf_if_f hf c2
    refine lv_iload_n hx hb dX12_text_9 rfl (lv_at hl 1 rfl) ?_
    refine lv_aload_n hx hb dX12_text_10 rfl (lv_at hl 0 rfl) ?_
    obtain ⟨z3, ez3, iz3, hf⟩ := rf_gi_s hw hf
    refine rf_geti B hw 3 (by decide) rfl lk_183 ez3 dX12_text_11 ?_
    refine rn_icmp_le (a := x1) (b := z3) (tgt := 23) hx hb ix1 iz3 dX12_text_14 (by decide) (fun c4 => ?_) (fun c4 => ?_)
    · replace hf := rf_if_t hf c4
      refine lv_iconst (v := rI 0) hx hb dX12_text_23 rfl ?_
      refine lv_istore_n (lv' := [(2, .int (rI 0)), (0, .ref (rf_h v)), (1, .int (rI x1))]) hx hb dX12_text_24 rfl hl (by decide) rfl (fun ls hl => ?_)
      exact ps_text_25 hR B 200000 σ1 x1 0 ix1 ⟨by decide, by decide⟩ hf _ _ _ hw (lv_sub hl [1, 2, 0] rfl)
    · replace hf := rf_if_f hf c4
      exact ps_text_17 hR B σ1 hf _ _ _ hw (lv_sub hl [0] rfl)

set_option maxHeartbeats 4000000 in
set_option maxRecDepth 100000 in
theorem pm_text {v : rfE} (hD : rf_D v) {l : Launch} {d : Nat} {rec : Nat → RS → List Int → Option (RS × Int)} (hR : rf_Rec l v d rec) (σ σ' : RS) (x1 r : Int) (ix1 : inR x1) (hf : pf_text_0 rec σ x1 = some (σ', r)) : rf_Met l v yX12_text cX12_text 3 (some .int) (d + 1) [.ref (rf_h v), .int (rI x1)] σ σ' (some (.int (rI r))) := by
  refine Met.ofW (cc := cX12_text) (maxL := 3) (ret := (some .int)) (by decide +kernel) rfl ?_
  intro p e s m args below meth c s₁ B hml hv
  obtain ⟨rfl, hM, hK⟩ := hv
  have hts := atoms_spec (ws := Cond.code yX12_text cX12_text 3 (some .int) :: rf_bw) B.pre
  have hB : rf_B v p s m _ meth c cX12_text 3 (some .int) := ⟨B.exec, B.bytes, B.returns, hml, findClass_of_methodNamed B.named, fun w h => hts w (List.mem_cons_of_mem _ h), B.notSynchronized, hK, hD⟩
  have hl := lv_entry ([.ref (rf_h v), .int (rI x1)]) (n := 3) (Nat.le_of_ble_eq_true rfl)
  rw [lg_entry_eq]
  generalize (lg_sl ([.ref (rf_h v), .int (rI x1)]) ++ List.replicate (3 - (lg_sl ([.ref (rf_h v), .int (rI x1)])).length) Slot.unset).toArray = ls at hl ⊢
  exact ps_text_0 hR hB σ x1 ix1 hf _ _ _ ⟨hM, rfl, fun _ _ => rfl, fun q h => by cases h⟩ (lv_sub hl [0, 1] rfl)

set_option maxHeartbeats 4000000 in
set_option maxRecDepth 100000 in
theorem ps_fault_0 {v : rfE} {p : Program} {l : Launch} {e : Env} {s : State} {m : MethodId} {args : Array Value} {below : List Frame} {meth : Method} {c : Code} {d : Nat} {rec : Nat → RS → List Int → Option (RS × Int)} {σ' : RS} {r : Int} (hR : rf_Rec l v d rec) (B : rf_B v p s m args meth c cX12_fault 2 (some .int)) : ∀ (σ : RS) (x1 : Int), inR x1 → pf_fault_0 rec σ x1 = some (σ', r) → ∀ (H : Heap) (locs : List Loc) (ls : Array Slot), rf_W v s σ H locs → lv_has ls 2 [(0, .ref (rf_h v)), (1, .int (rI x1))] → W p l e (rf_rm (d + 1)) s m args below meth c H locs 0 0 (MQ below (rf_Q v σ' (some (.int (rI r)))) args s 0 0 (rf_F v)) (F0 m 0 ls []) := by
  obtain ⟨hx, hb, hr, hml, hown, hts, hlk, hK, hD⟩ := id B
  intro σ x1 ix1 hf H locs ls hw hl
  unfold pf_fault_0 at hf
  refine lv_aload_n hx hb dX12_fault_0 rfl (lv_at hl 0 rfl) ?_
  refine lv_iconst (v := rI 0) hx hb dX12_fault_1 rfl ?_
  obtain ⟨σ1, eσ1, hf⟩ := rf_pi_s hf
  refine rf_put B hw 1 (by decide) rfl rfl lk_147 ⟨by decide, by decide⟩ eσ1 rfl rfl dX12_fault_2 (fun H locs hw => ?_)
  refine lv_iload_n hx hb dX12_fault_5 rfl (lv_at hl 1 rfl) ?_
  by_cases c2 : x1 = 0
  · replace hf := rf_if_t hf c2
    refine rn_tab (n := 0) (tgt := 32) hx hb ix1 c2 dX12_fault_6 (by decide) (by decide) rfl (by decide) ?_
    refine lv_aload_n hx hb dX12_fault_32 rfl (lv_at hl 0 rfl) ?_
    obtain ⟨z3, ez3, iz3, hf⟩ := rf_gi_s hw hf
    refine rf_geti B hw 12 (by decide) rfl lk_486 ez3 dX12_fault_33 ?_
    exact rf_reti B hf hw dX12_fault_36
  · replace hf := rf_if_f hf c2
    by_cases c4 : x1 = 1
    · replace hf := rf_if_t hf c4
      refine rn_tab (n := 1) (tgt := 37) hx hb ix1 c4 dX12_fault_6 (by decide) (by decide) rfl (by decide) ?_
      refine lv_aload_n hx hb dX12_fault_37 rfl (lv_at hl 0 rfl) ?_
      obtain ⟨z5, ez5, iz5, hf⟩ := rf_gi_s hw hf
      refine rf_geti B hw 13 (by decide) rfl lk_40 ez5 dX12_fault_38 ?_
      exact rf_reti B hf hw dX12_fault_41
    · replace hf := rf_if_f hf c4
      by_cases c6 : x1 = 2
      · replace hf := rf_if_t hf c6
        refine rn_tab (n := 2) (tgt := 42) hx hb ix1 c6 dX12_fault_6 (by decide) (by decide) rfl (by decide) ?_
        refine lv_aload_n hx hb dX12_fault_42 rfl (lv_at hl 0 rfl) ?_
        obtain ⟨z7, ez7, iz7, hf⟩ := rf_gi_s hw hf
        refine rf_geti B hw 14 (by decide) rfl lk_471 ez7 dX12_fault_43 ?_
        exact rf_reti B hf hw dX12_fault_46
      · replace hf := rf_if_f hf c6
        refine rn_tabO (tgt := 47) hx hb ix1 dX12_fault_6 (by omega) (by decide) ?_
        refine lv_aload_n hx hb dX12_fault_47 rfl (lv_at hl 0 rfl) ?_
        refine lv_iconst (v := rI 1) hx hb dX12_fault_48 rfl ?_
        obtain ⟨σ8, z9, hσ8, hf⟩ := rf_cl_s hf
        obtain ⟨iz9, mσ8⟩ := hR 2 σ1 [1] σ8 z9 hσ8
        have mσ8 : rf_Met l v yX12_fail cX12_fail 2 (some .int) d [.ref (rf_h v), .int (rI 1)] σ1 σ8 (some (.int (rI z9))) := mσ8 ⟨by decide, by decide⟩
        refine rf_cv (n := 1) (rest := []) (As := [.int (rI 1)]) B mσ8 g_468_fail (by decide +kernel) (by decide) rfl hl.1 (Nat.le_of_ble_eq_true rfl) dX12_fault_49 rfl hw (fun H locs hw => ?_)
        exact rf_reti B hf hw dX12_fault_52

set_option maxHeartbeats 4000000 in
set_option maxRecDepth 100000 in
theorem pm_fault {v : rfE} (hD : rf_D v) {l : Launch} {d : Nat} {rec : Nat → RS → List Int → Option (RS × Int)} (hR : rf_Rec l v d rec) (σ σ' : RS) (x1 r : Int) (ix1 : inR x1) (hf : pf_fault_0 rec σ x1 = some (σ', r)) : rf_Met l v yX12_fault cX12_fault 2 (some .int) (d + 1) [.ref (rf_h v), .int (rI x1)] σ σ' (some (.int (rI r))) := by
  refine Met.ofW (cc := cX12_fault) (maxL := 2) (ret := (some .int)) (by decide +kernel) rfl ?_
  intro p e s m args below meth c s₁ B hml hv
  obtain ⟨rfl, hM, hK⟩ := hv
  have hts := atoms_spec (ws := Cond.code yX12_fault cX12_fault 2 (some .int) :: rf_bw) B.pre
  have hB : rf_B v p s m _ meth c cX12_fault 2 (some .int) := ⟨B.exec, B.bytes, B.returns, hml, findClass_of_methodNamed B.named, fun w h => hts w (List.mem_cons_of_mem _ h), B.notSynchronized, hK, hD⟩
  have hl := lv_entry ([.ref (rf_h v), .int (rI x1)]) (n := 2) (Nat.le_of_ble_eq_true rfl)
  rw [lg_entry_eq]
  generalize (lg_sl ([.ref (rf_h v), .int (rI x1)]) ++ List.replicate (2 - (lg_sl ([.ref (rf_h v), .int (rI x1)])).length) Slot.unset).toArray = ls at hl ⊢
  exact ps_fault_0 hR hB σ x1 ix1 hf _ _ _ ⟨hM, rfl, fun _ _ => rfl, fun q h => by cases h⟩ (lv_sub hl [0, 1] rfl)

set_option maxHeartbeats 4000000 in
set_option maxRecDepth 100000 in
theorem ps_corner_15 {v : rfE} {p : Program} {l : Launch} {e : Env} {s : State} {m : MethodId} {args : Array Value} {below : List Frame} {meth : Method} {c : Code} {d : Nat} {rec : Nat → RS → List Int → Option (RS × Int)} {σ' : RS} {r : Int} (hR : rf_Rec l v d rec) (B : rf_B v p s m args meth c cX12_corner 3 (some .int)) : ∀ (σ : RS), pf_corner_15 rec σ = some (σ', r) → ∀ (H : Heap) (locs : List Loc) (ls : Array Slot), rf_W v s σ H locs → lv_has ls 3 [(0, .ref (rf_h v))] → W p l e (rf_rm (d + 1)) s m args below meth c H locs 0 0 (MQ below (rf_Q v σ' (some (.int (rI r)))) args s 0 0 (rf_F v)) (F0 m 15 ls []) := by
  obtain ⟨hx, hb, hr, hml, hown, hts, hlk, hK, hD⟩ := id B
  intro σ hf H locs ls hw hl
  unfold pf_corner_15 at hf
  refine lv_aload_n hx hb dX12_corner_15 rfl (lv_at hl 0 rfl) ?_
  refine lv_iconst (v := rI 1) hx hb dX12_corner_16 rfl ?_
  obtain ⟨σ1, z2, hσ1, hf⟩ := rf_cl_s hf
  obtain ⟨iz2, mσ1⟩ := hR 2 σ [1] σ1 z2 hσ1
  have mσ1 : rf_Met l v yX12_fail cX12_fail 2 (some .int) d [.ref (rf_h v), .int (rI 1)] σ σ1 (some (.int (rI z2))) := mσ1 ⟨by decide, by decide⟩
  refine rf_cv (n := 1) (rest := []) (As := [.int (rI 1)]) B mσ1 g_468_fail (by decide +kernel) (by decide) rfl hl.1 (Nat.le_of_ble_eq_true rfl) dX12_corner_17 rfl hw (fun H locs hw => ?_)
  exact rf_reti B hf hw dX12_corner_20

set_option maxHeartbeats 4000000 in
set_option maxRecDepth 100000 in
theorem ps_corner_0 {v : rfE} {p : Program} {l : Launch} {e : Env} {s : State} {m : MethodId} {args : Array Value} {below : List Frame} {meth : Method} {c : Code} {d : Nat} {rec : Nat → RS → List Int → Option (RS × Int)} {σ' : RS} {r : Int} (hR : rf_Rec l v d rec) (B : rf_B v p s m args meth c cX12_corner 3 (some .int)) : ∀ (σ : RS) (x1 : Int), inR x1 → pf_corner_0 rec σ x1 = some (σ', r) → ∀ (H : Heap) (locs : List Loc) (ls : Array Slot), rf_W v s σ H locs → lv_has ls 3 [(0, .ref (rf_h v)), (1, .int (rI x1))] → W p l e (rf_rm (d + 1)) s m args below meth c H locs 0 0 (MQ below (rf_Q v σ' (some (.int (rI r)))) args s 0 0 (rf_F v)) (F0 m 0 ls []) := by
  obtain ⟨hx, hb, hr, hml, hown, hts, hlk, hK, hD⟩ := id B
  intro σ x1 ix1 hf H locs ls hw hl
  unfold pf_corner_0 at hf
  refine lv_aload_n hx hb dX12_corner_0 rfl (lv_at hl 0 rfl) ?_
  refine lv_iconst (v := rI 0) hx hb dX12_corner_1 rfl ?_
  obtain ⟨σ1, eσ1, hf⟩ := rf_pi_s hf
  refine rf_put B hw 1 (by decide) rfl rfl lk_147 ⟨by decide, by decide⟩ eσ1 rfl rfl dX12_corner_2 (fun H locs hw => ?_)
  refine lv_iload_n hx hb dX12_corner_5 rfl (lv_at hl 1 rfl) ?_
  refine rn_if_lt (a := x1) (tgt := 15) hx hb ix1 dX12_corner_6 (by decide) (fun c2 => ?_) (fun c2 => ?_)
  · replace hf := rf_if_t hf c2
    exact ps_corner_15 hR B σ1 hf _ _ _ hw (lv_sub hl [0] rfl)
  · replace hf := rf_if_f hf c2
    refine lv_iload_n hx hb dX12_corner_9 rfl (lv_at hl 1 rfl) ?_
    refine lv_bipush (v := rI 8) hx hb dX12_corner_10 (by decide +kernel) ?_
    refine rn_icmp_le (a := x1) (b := 8) (tgt := 21) hx hb ix1 ⟨by decide, by decide⟩ dX12_corner_12 (by decide) (fun c3 => ?_) (fun c3 => ?_)
    · replace hf := rf_if_t hf c3
      refine lv_aload_n hx hb dX12_corner_21 rfl (lv_at hl 0 rfl) ?_
      obtain ⟨z4, ez4, iz4, hf⟩ := rf_gi_s hw hf
      refine rf_geti B hw 27 (by decide) rfl lk_167 ez4 dX12_corner_22 ?_
      refine lv_istore_n (lv' := [(2, .int (rI z4)), (0, .ref (rf_h v)), (1, .int (rI x1))]) hx hb dX12_corner_25 rfl hl (by decide) rfl (fun ls hl => ?_)
      refine lv_aload_n hx hb dX12_corner_26 rfl (lv_at hl 1 rfl) ?_
      refine lv_iload_n hx hb dX12_corner_27 rfl (lv_at hl 2 rfl) ?_
      obtain ⟨σ5, z6, hσ5, hf⟩ := rf_cl_s hf
      obtain ⟨iz6, mσ5⟩ := hR 5 σ1 [x1] σ5 z6 hσ5
      have mσ5 : rf_Met l v yX12_table cX12_table 4 none d [.ref (rf_h v), .int (rI x1)] σ1 σ5 none := mσ5 ix1
      refine rf_cv (n := 1) (rest := []) (As := [.int (rI x1)]) B mσ5 g_143_table (by decide +kernel) (by decide) rfl hl.1 (Nat.le_of_ble_eq_true rfl) dX12_corner_28 rfl hw (fun H locs hw => ?_)
      refine lv_iload_n hx hb dX12_corner_31 rfl (lv_at hl 0 rfl) ?_
      exact rf_reti B hf hw dX12_corner_32
    · replace hf := rf_if_f hf c3
      exact ps_corner_15 hR B σ1 hf _ _ _ hw (lv_sub hl [0] rfl)

set_option maxHeartbeats 4000000 in
set_option maxRecDepth 100000 in
theorem pm_corner {v : rfE} (hD : rf_D v) {l : Launch} {d : Nat} {rec : Nat → RS → List Int → Option (RS × Int)} (hR : rf_Rec l v d rec) (σ σ' : RS) (x1 r : Int) (ix1 : inR x1) (hf : pf_corner_0 rec σ x1 = some (σ', r)) : rf_Met l v yX12_corner cX12_corner 3 (some .int) (d + 1) [.ref (rf_h v), .int (rI x1)] σ σ' (some (.int (rI r))) := by
  refine Met.ofW (cc := cX12_corner) (maxL := 3) (ret := (some .int)) (by decide +kernel) rfl ?_
  intro p e s m args below meth c s₁ B hml hv
  obtain ⟨rfl, hM, hK⟩ := hv
  have hts := atoms_spec (ws := Cond.code yX12_corner cX12_corner 3 (some .int) :: rf_bw) B.pre
  have hB : rf_B v p s m _ meth c cX12_corner 3 (some .int) := ⟨B.exec, B.bytes, B.returns, hml, findClass_of_methodNamed B.named, fun w h => hts w (List.mem_cons_of_mem _ h), B.notSynchronized, hK, hD⟩
  have hl := lv_entry ([.ref (rf_h v), .int (rI x1)]) (n := 3) (Nat.le_of_ble_eq_true rfl)
  rw [lg_entry_eq]
  generalize (lg_sl ([.ref (rf_h v), .int (rI x1)]) ++ List.replicate (3 - (lg_sl ([.ref (rf_h v), .int (rI x1)])).length) Slot.unset).toArray = ls at hl ⊢
  exact ps_corner_0 hR hB σ x1 ix1 hf _ _ _ ⟨hM, rfl, fun _ _ => rfl, fun q h => by cases h⟩ (lv_sub hl [0, 1] rfl)

set_option maxHeartbeats 4000000 in
set_option maxRecDepth 100000 in
theorem ps_limit_17 {v : rfE} {p : Program} {l : Launch} {e : Env} {s : State} {m : MethodId} {args : Array Value} {below : List Frame} {meth : Method} {c : Code} {d : Nat} {rec : Nat → RS → List Int → Option (RS × Int)} {σ' : RS} {r : Int} (hR : rf_Rec l v d rec) (B : rf_B v p s m args meth c cX12_limit 3 (some .int)) : ∀ (σ : RS), pf_limit_17 rec σ = some (σ', r) → ∀ (H : Heap) (locs : List Loc) (ls : Array Slot), rf_W v s σ H locs → lv_has ls 3 [(0, .ref (rf_h v))] → W p l e (rf_rm (d + 1)) s m args below meth c H locs 0 0 (MQ below (rf_Q v σ' (some (.int (rI r)))) args s 0 0 (rf_F v)) (F0 m 17 ls []) := by
  obtain ⟨hx, hb, hr, hml, hown, hts, hlk, hK, hD⟩ := id B
  intro σ hf H locs ls hw hl
  unfold pf_limit_17 at hf
  refine lv_aload_n hx hb dX12_limit_17 rfl (lv_at hl 0 rfl) ?_
  refine lv_iconst (v := rI 1) hx hb dX12_limit_18 rfl ?_
  obtain ⟨σ1, z2, hσ1, hf⟩ := rf_cl_s hf
  obtain ⟨iz2, mσ1⟩ := hR 2 σ [1] σ1 z2 hσ1
  have mσ1 : rf_Met l v yX12_fail cX12_fail 2 (some .int) d [.ref (rf_h v), .int (rI 1)] σ σ1 (some (.int (rI z2))) := mσ1 ⟨by decide, by decide⟩
  refine rf_cv (n := 1) (rest := []) (As := [.int (rI 1)]) B mσ1 g_468_fail (by decide +kernel) (by decide) rfl hl.1 (Nat.le_of_ble_eq_true rfl) dX12_limit_19 rfl hw (fun H locs hw => ?_)
  exact rf_reti B hf hw dX12_limit_22

set_option maxHeartbeats 4000000 in
set_option maxRecDepth 100000 in
theorem ps_limit_0 {v : rfE} {p : Program} {l : Launch} {e : Env} {s : State} {m : MethodId} {args : Array Value} {below : List Frame} {meth : Method} {c : Code} {d : Nat} {rec : Nat → RS → List Int → Option (RS × Int)} {σ' : RS} {r : Int} (hR : rf_Rec l v d rec) (B : rf_B v p s m args meth c cX12_limit 3 (some .int)) : ∀ (σ : RS) (x1 : Int), inR x1 → pf_limit_0 rec σ x1 = some (σ', r) → ∀ (H : Heap) (locs : List Loc) (ls : Array Slot), rf_W v s σ H locs → lv_has ls 3 [(0, .ref (rf_h v)), (1, .int (rI x1))] → W p l e (rf_rm (d + 1)) s m args below meth c H locs 0 0 (MQ below (rf_Q v σ' (some (.int (rI r)))) args s 0 0 (rf_F v)) (F0 m 0 ls []) := by
  obtain ⟨hx, hb, hr, hml, hown, hts, hlk, hK, hD⟩ := id B
  intro σ x1 ix1 hf H locs ls hw hl
  unfold pf_limit_0 at hf
  refine lv_aload_n hx hb dX12_limit_0 rfl (lv_at hl 0 rfl) ?_
  refine lv_iconst (v := rI 0) hx hb dX12_limit_1 rfl ?_
  obtain ⟨σ1, eσ1, hf⟩ := rf_pi_s hf
  refine rf_put B hw 1 (by decide) rfl rfl lk_147 ⟨by decide, by decide⟩ eσ1 rfl rfl dX12_limit_2 (fun H locs hw => ?_)
  refine lv_iload_n hx hb dX12_limit_5 rfl (lv_at hl 1 rfl) ?_
  refine lv_iconst (v := rI 1) hx hb dX12_limit_6 rfl ?_
  refine rn_icmp_lt (a := x1) (b := 1) (tgt := 17) hx hb ix1 ⟨by decide, by decide⟩ dX12_limit_7 (by decide) (fun c2 => ?_) (fun c2 => ?_)
  · replace hf := rf_if_t hf c2
    exact ps_limit_17 hR B σ1 hf _ _ _ hw (lv_sub hl [0] rfl)
  · replace hf := rf_if_f hf c2
    refine lv_iload_n hx hb dX12_limit_10 rfl (lv_at hl 1 rfl) ?_
    refine lv_sipush (v := rI 20000) hx hb dX12_limit_11 (by decide +kernel) ?_
    refine rn_icmp_le (a := x1) (b := 20000) (tgt := 23) hx hb ix1 ⟨by decide, by decide⟩ dX12_limit_14 (by decide) (fun c3 => ?_) (fun c3 => ?_)
    · replace hf := rf_if_t hf c3
      refine lv_aload_n hx hb dX12_limit_23 rfl (lv_at hl 0 rfl) ?_
      obtain ⟨z4, ez4, iz4, hf⟩ := rf_gi_s hw hf
      refine rf_geti B hw 63 (by decide) rfl lk_137 ez4 dX12_limit_24 ?_
      refine lv_istore_n (lv' := [(2, .int (rI z4)), (0, .ref (rf_h v)), (1, .int (rI x1))]) hx hb dX12_limit_27 rfl hl (by decide) rfl (fun ls hl => ?_)
      refine lv_aload_n hx hb dX12_limit_28 rfl (lv_at hl 1 rfl) ?_
      refine lv_iload_n hx hb dX12_limit_29 rfl (lv_at hl 2 rfl) ?_
      obtain ⟨σ5, eσ5, hf⟩ := rf_pi_s hf
      refine rf_put B hw 63 (by decide) rfl rfl lk_137 ix1 eσ5 rfl rfl dX12_limit_30 (fun H locs hw => ?_)
      refine lv_iload_n hx hb dX12_limit_33 rfl (lv_at hl 0 rfl) ?_
      exact rf_reti B hf hw dX12_limit_34
    · replace hf := rf_if_f hf c3
      exact ps_limit_17 hR B σ1 hf _ _ _ hw (lv_sub hl [0] rfl)

set_option maxHeartbeats 4000000 in
set_option maxRecDepth 100000 in
theorem pm_limit {v : rfE} (hD : rf_D v) {l : Launch} {d : Nat} {rec : Nat → RS → List Int → Option (RS × Int)} (hR : rf_Rec l v d rec) (σ σ' : RS) (x1 r : Int) (ix1 : inR x1) (hf : pf_limit_0 rec σ x1 = some (σ', r)) : rf_Met l v yX12_limit cX12_limit 3 (some .int) (d + 1) [.ref (rf_h v), .int (rI x1)] σ σ' (some (.int (rI r))) := by
  refine Met.ofW (cc := cX12_limit) (maxL := 3) (ret := (some .int)) (by decide +kernel) rfl ?_
  intro p e s m args below meth c s₁ B hml hv
  obtain ⟨rfl, hM, hK⟩ := hv
  have hts := atoms_spec (ws := Cond.code yX12_limit cX12_limit 3 (some .int) :: rf_bw) B.pre
  have hB : rf_B v p s m _ meth c cX12_limit 3 (some .int) := ⟨B.exec, B.bytes, B.returns, hml, findClass_of_methodNamed B.named, fun w h => hts w (List.mem_cons_of_mem _ h), B.notSynchronized, hK, hD⟩
  have hl := lv_entry ([.ref (rf_h v), .int (rI x1)]) (n := 3) (Nat.le_of_ble_eq_true rfl)
  rw [lg_entry_eq]
  generalize (lg_sl ([.ref (rf_h v), .int (rI x1)]) ++ List.replicate (3 - (lg_sl ([.ref (rf_h v), .int (rI x1)])).length) Slot.unset).toArray = ls at hl ⊢
  exact ps_limit_0 hR hB σ x1 ix1 hf _ _ _ ⟨hM, rfl, fun _ _ => rfl, fun q h => by cases h⟩ (lv_sub hl [0, 1] rfl)

set_option maxHeartbeats 4000000 in
set_option maxRecDepth 100000 in
theorem ps_outs_0 {v : rfE} {p : Program} {l : Launch} {e : Env} {s : State} {m : MethodId} {args : Array Value} {below : List Frame} {meth : Method} {c : Code} {d : Nat} {rec : Nat → RS → List Int → Option (RS × Int)} {σ' : RS} {r : Int} (hR : rf_Rec l v d rec) (B : rf_B v p s m args meth c cX12_outs 1 (some .int)) : ∀ (σ : RS), pf_outs_0 rec σ = some (σ', r) → ∀ (H : Heap) (locs : List Loc) (ls : Array Slot), rf_W v s σ H locs → lv_has ls 1 [(0, .ref (rf_h v))] → W p l e (rf_rm (d + 1)) s m args below meth c H locs 0 0 (MQ below (rf_Q v σ' (some (.int (rI r)))) args s 0 0 (rf_F v)) (F0 m 0 ls []) := by
  obtain ⟨hx, hb, hr, hml, hown, hts, hlk, hK, hD⟩ := id B
  intro σ hf H locs ls hw hl
  unfold pf_outs_0 at hf
  refine lv_aload_n hx hb dX12_outs_0 rfl (lv_at hl 0 rfl) ?_
  refine lv_iconst (v := rI 0) hx hb dX12_outs_1 rfl ?_
  obtain ⟨σ1, eσ1, hf⟩ := rf_pi_s hf
  refine rf_put B hw 1 (by decide) rfl rfl lk_147 ⟨by decide, by decide⟩ eσ1 rfl rfl dX12_outs_2 (fun H locs hw => ?_)
  refine lv_aload_n hx hb dX12_outs_5 rfl (lv_at hl 0 rfl) ?_
  obtain ⟨z2, ez2, iz2, hf⟩ := rf_gi_s hw hf
  refine rf_geti B hw 75 (by decide) rfl lk_378 ez2 dX12_outs_6 ?_
  exact rf_reti B hf hw dX12_outs_9

set_option maxHeartbeats 4000000 in
set_option maxRecDepth 100000 in
theorem pm_outs {v : rfE} (hD : rf_D v) {l : Launch} {d : Nat} {rec : Nat → RS → List Int → Option (RS × Int)} (hR : rf_Rec l v d rec) (σ σ' : RS) (r : Int) (hf : pf_outs_0 rec σ = some (σ', r)) : rf_Met l v yX12_outs cX12_outs 1 (some .int) (d + 1) [.ref (rf_h v)] σ σ' (some (.int (rI r))) := by
  refine Met.ofW (cc := cX12_outs) (maxL := 1) (ret := (some .int)) (by decide +kernel) rfl ?_
  intro p e s m args below meth c s₁ B hml hv
  obtain ⟨rfl, hM, hK⟩ := hv
  have hts := atoms_spec (ws := Cond.code yX12_outs cX12_outs 1 (some .int) :: rf_bw) B.pre
  have hB : rf_B v p s m _ meth c cX12_outs 1 (some .int) := ⟨B.exec, B.bytes, B.returns, hml, findClass_of_methodNamed B.named, fun w h => hts w (List.mem_cons_of_mem _ h), B.notSynchronized, hK, hD⟩
  have hl := lv_entry ([.ref (rf_h v)]) (n := 1) (Nat.le_of_ble_eq_true rfl)
  rw [lg_entry_eq]
  generalize (lg_sl ([.ref (rf_h v)]) ++ List.replicate (1 - (lg_sl ([.ref (rf_h v)])).length) Slot.unset).toArray = ls at hl ⊢
  exact ps_outs_0 hR hB σ hf _ _ _ ⟨hM, rfl, fun _ _ => rfl, fun q h => by cases h⟩ (lv_sub hl [0] rfl)

set_option maxHeartbeats 4000000 in
set_option maxRecDepth 100000 in
theorem ps_out_24 {v : rfE} {p : Program} {l : Launch} {e : Env} {s : State} {m : MethodId} {args : Array Value} {below : List Frame} {meth : Method} {c : Code} {d : Nat} {rec : Nat → RS → List Int → Option (RS × Int)} {σ' : RS} {r : Int} (hR : rf_Rec l v d rec) (B : rf_B v p s m args meth c cX12_out 2 (some .int)) : ∀ (σ : RS), pf_out_24 rec σ = some (σ', r) → ∀ (H : Heap) (locs : List Loc) (ls : Array Slot), rf_W v s σ H locs → lv_has ls 2 [(0, .ref (rf_h v))] → W p l e (rf_rm (d + 1)) s m args below meth c H locs 0 0 (MQ below (rf_Q v σ' (some (.int (rI r)))) args s 0 0 (rf_F v)) (F0 m 24 ls []) := by
  obtain ⟨hx, hb, hr, hml, hown, hts, hlk, hK, hD⟩ := id B
  intro σ hf H locs ls hw hl
  unfold pf_out_24 at hf
  refine lv_aload_n hx hb dX12_out_24 rfl (lv_at hl 0 rfl) ?_
  refine lv_iconst (v := rI 1) hx hb dX12_out_25 rfl ?_
  obtain ⟨σ1, z2, hσ1, hf⟩ := rf_cl_s hf
  obtain ⟨iz2, mσ1⟩ := hR 2 σ [1] σ1 z2 hσ1
  have mσ1 : rf_Met l v yX12_fail cX12_fail 2 (some .int) d [.ref (rf_h v), .int (rI 1)] σ σ1 (some (.int (rI z2))) := mσ1 ⟨by decide, by decide⟩
  refine rf_cv (n := 1) (rest := []) (As := [.int (rI 1)]) B mσ1 g_468_fail (by decide +kernel) (by decide) rfl hl.1 (Nat.le_of_ble_eq_true rfl) dX12_out_26 rfl hw (fun H locs hw => ?_)
  exact rf_reti B hf hw dX12_out_29

set_option maxHeartbeats 4000000 in
set_option maxRecDepth 100000 in
theorem ps_out_0 {v : rfE} {p : Program} {l : Launch} {e : Env} {s : State} {m : MethodId} {args : Array Value} {below : List Frame} {meth : Method} {c : Code} {d : Nat} {rec : Nat → RS → List Int → Option (RS × Int)} {σ' : RS} {r : Int} (hR : rf_Rec l v d rec) (B : rf_B v p s m args meth c cX12_out 2 (some .int)) : ∀ (σ : RS) (x1 : Int), inR x1 → pf_out_0 rec σ x1 = some (σ', r) → ∀ (H : Heap) (locs : List Loc) (ls : Array Slot), rf_W v s σ H locs → lv_has ls 2 [(0, .ref (rf_h v)), (1, .int (rI x1))] → W p l e (rf_rm (d + 1)) s m args below meth c H locs 0 0 (MQ below (rf_Q v σ' (some (.int (rI r)))) args s 0 0 (rf_F v)) (F0 m 0 ls []) := by
  obtain ⟨hx, hb, hr, hml, hown, hts, hlk, hK, hD⟩ := id B
  intro σ x1 ix1 hf H locs ls hw hl
  unfold pf_out_0 at hf
  refine lv_aload_n hx hb dX12_out_0 rfl (lv_at hl 0 rfl) ?_
  refine lv_iconst (v := rI 0) hx hb dX12_out_1 rfl ?_
  obtain ⟨σ1, eσ1, hf⟩ := rf_pi_s hf
  refine rf_put B hw 1 (by decide) rfl rfl lk_147 ⟨by decide, by decide⟩ eσ1 rfl rfl dX12_out_2 (fun H locs hw => ?_)
  refine lv_iload_n hx hb dX12_out_5 rfl (lv_at hl 1 rfl) ?_
  refine rn_if_lt (a := x1) (tgt := 24) hx hb ix1 dX12_out_6 (by decide) (fun c2 => ?_) (fun c2 => ?_)
  · replace hf := rf_if_t hf c2
    exact ps_out_24 hR B σ1 hf _ _ _ hw (lv_sub hl [0] rfl)
  · replace hf := rf_if_f hf c2
    refine lv_iload_n hx hb dX12_out_9 rfl (lv_at hl 1 rfl) ?_
    refine lv_aload_n hx hb dX12_out_10 rfl (lv_at hl 0 rfl) ?_
    obtain ⟨z3, ez3, iz3, hf⟩ := rf_gi_s hw hf
    refine rf_geti B hw 75 (by decide) rfl lk_378 ez3 dX12_out_11 ?_
    refine rn_icmp_ge (a := x1) (b := z3) (tgt := 24) hx hb ix1 iz3 dX12_out_14 (by decide) (fun c4 => ?_) (fun c4 => ?_)
    · replace hf := rf_if_t hf c4
      exact ps_out_24 hR B σ1 hf _ _ _ hw (lv_sub hl [0] rfl)
    · replace hf := rf_if_f hf c4
      refine lv_iload_n hx hb dX12_out_17 rfl (lv_at hl 1 rfl) ?_
      refine lv_sipush (v := rI 3000) hx hb dX12_out_18 (by decide +kernel) ?_
      refine rn_icmp_lt (a := x1) (b := 3000) (tgt := 30) hx hb ix1 ⟨by decide, by decide⟩ dX12_out_21 (by decide) (fun c5 => ?_) (fun c5 => ?_)
      · replace hf := rf_if_t hf c5
        refine lv_aload_n hx hb dX12_out_30 rfl (lv_at hl 0 rfl) ?_
        refine rf_get (val := .ref (rf_ad v 74)) B hw 74 (by decide) lk_140 rfl dX12_out_31 ?_
        refine lv_iload_n hx hb dX12_out_34 rfl (lv_at hl 1 rfl) ?_
        obtain ⟨z6, ez6, iz6, rz6, hf⟩ := rf_rd_s hw hf
        refine rf_ald B hw ix1 rz6 ez6 dX12_out_35 ?_
        exact rf_reti B hf hw dX12_out_36
      · replace hf := rf_if_f hf c5
        exact ps_out_24 hR B σ1 hf _ _ _ hw (lv_sub hl [0] rfl)

set_option maxHeartbeats 4000000 in
set_option maxRecDepth 100000 in
theorem pm_out {v : rfE} (hD : rf_D v) {l : Launch} {d : Nat} {rec : Nat → RS → List Int → Option (RS × Int)} (hR : rf_Rec l v d rec) (σ σ' : RS) (x1 r : Int) (ix1 : inR x1) (hf : pf_out_0 rec σ x1 = some (σ', r)) : rf_Met l v yX12_out cX12_out 2 (some .int) (d + 1) [.ref (rf_h v), .int (rI x1)] σ σ' (some (.int (rI r))) := by
  refine Met.ofW (cc := cX12_out) (maxL := 2) (ret := (some .int)) (by decide +kernel) rfl ?_
  intro p e s m args below meth c s₁ B hml hv
  obtain ⟨rfl, hM, hK⟩ := hv
  have hts := atoms_spec (ws := Cond.code yX12_out cX12_out 2 (some .int) :: rf_bw) B.pre
  have hB : rf_B v p s m _ meth c cX12_out 2 (some .int) := ⟨B.exec, B.bytes, B.returns, hml, findClass_of_methodNamed B.named, fun w h => hts w (List.mem_cons_of_mem _ h), B.notSynchronized, hK, hD⟩
  have hl := lv_entry ([.ref (rf_h v), .int (rI x1)]) (n := 2) (Nat.le_of_ble_eq_true rfl)
  rw [lg_entry_eq]
  generalize (lg_sl ([.ref (rf_h v), .int (rI x1)]) ++ List.replicate (2 - (lg_sl ([.ref (rf_h v), .int (rI x1)])).length) Slot.unset).toArray = ls at hl ⊢
  exact ps_out_0 hR hB σ x1 ix1 hf _ _ _ ⟨hM, rfl, fun _ _ => rfl, fun q h => by cases h⟩ (lv_sub hl [0, 1] rfl)

set_option maxHeartbeats 4000000 in
set_option maxRecDepth 100000 in
theorem ps_count_37 {v : rfE} {p : Program} {l : Launch} {e : Env} {s : State} {m : MethodId} {args : Array Value} {below : List Frame} {meth : Method} {c : Code} {d : Nat} {rec : Nat → RS → List Int → Option (RS × Int)} {σ' : RS} {r : Int} (hR : rf_Rec l v d rec) (B : rf_B v p s m args meth c cX12_count 5 (some .int)) (k12 : RS → Int → Int → Int → Int → Option (RS × Int)) (hk12 : ∀ (σ : RS) (x1 x2 x3 x4 : Int), inR x1 → inR x2 → inR x3 → inR x4 → k12 σ x1 x2 x3 x4 = some (σ', r) → ∀ (H : Heap) (locs : List Loc) (ls : Array Slot), rf_W v s σ H locs → lv_has ls 5 [(0, .ref (rf_h v)), (1, .int (rI x1)), (2, .int (rI x2)), (3, .int (rI x3)), (4, .int (rI x4))] → W p l e (rf_rm (d + 1)) s m args below meth c H locs 0 0 (MQ below (rf_Q v σ' (some (.int (rI r)))) args s 0 0 (rf_F v)) (F0 m 12 ls [])) : ∀ (σ : RS) (x1 x3 x4 t0 t1 : Int), inR x1 → inR x3 → inR x4 → inR t0 → inR t1 → pf_count_37 rec k12 σ x1 x3 x4 t0 t1 = some (σ', r) → ∀ (H : Heap) (locs : List Loc) (ls : Array Slot), rf_W v s σ H locs → lv_has ls 5 [(0, .ref (rf_h v)), (1, .int (rI x1)), (3, .int (rI x3)), (4, .int (rI x4))] → W p l e (rf_rm (d + 1)) s m args below meth c H locs 0 0 (MQ below (rf_Q v σ' (some (.int (rI r)))) args s 0 0 (rf_F v)) (F0 m 37 ls [.int (rI t0), .int (rI t1)]) := by
  obtain ⟨hx, hb, hr, hml, hown, hts, hlk, hK, hD⟩ := id B
  intro σ x1 x3 x4 t0 t1 ix1 ix3 ix4 it0 it1 hf H locs ls hw hl
  unfold pf_count_37 at hf
  obtain ⟨z1, ez1, iz1, hf⟩ := rf_ck_s hf
  refine rn_add hx hb ez1 dX12_count_37 ?_
  refine lv_istore_n (lv' := [(2, .int (rI z1)), (0, .ref (rf_h v)), (1, .int (rI x1)), (3, .int (rI x3)), (4, .int (rI x4))]) hx hb dX12_count_38 rfl hl (by decide) rfl (fun ls hl => ?_)
  obtain ⟨z2, ez2, iz2, hf⟩ := rf_ck_s hf
  refine lv_iinc (v := rI z2) (lv' := [(4, .int (rI z2)), (2, .int (rI z1)), (0, .ref (rf_h v)), (1, .int (rI x1)), (3, .int (rI x3))]) hx hb dX12_count_39 hl (k := 4) rfl (by rw [ez2]; exact rI_add _ _) (by decide) rfl (fun ls hl => ?_)
  refine lv_goto (tgt := 12) hx hb dX12_count_42 (by decide) ?_
  exact hk12 σ x1 z1 x3 z2 ix1 iz1 ix3 iz2 hf _ _ _ hw (lv_sub hl [2, 3, 1, 4, 0] rfl)

set_option maxHeartbeats 4000000 in
set_option maxRecDepth 100000 in
theorem ps_count_71 {v : rfE} {p : Program} {l : Launch} {e : Env} {s : State} {m : MethodId} {args : Array Value} {below : List Frame} {meth : Method} {c : Code} {d : Nat} {rec : Nat → RS → List Int → Option (RS × Int)} {σ' : RS} {r : Int} (hR : rf_Rec l v d rec) (B : rf_B v p s m args meth c cX12_count 5 (some .int)) (k48 : RS → Int → Int → Int → Int → Option (RS × Int)) (hk48 : ∀ (σ : RS) (x1 x2 x3 x4 : Int), inR x1 → inR x2 → inR x3 → inR x4 → k48 σ x1 x2 x3 x4 = some (σ', r) → ∀ (H : Heap) (locs : List Loc) (ls : Array Slot), rf_W v s σ H locs → lv_has ls 5 [(0, .ref (rf_h v)), (1, .int (rI x1)), (2, .int (rI x2)), (3, .int (rI x3)), (4, .int (rI x4))] → W p l e (rf_rm (d + 1)) s m args below meth c H locs 0 0 (MQ below (rf_Q v σ' (some (.int (rI r)))) args s 0 0 (rf_F v)) (F0 m 48 ls [])) : ∀ (σ : RS) (x1 x2 x4 t0 t1 : Int), inR x1 → inR x2 → inR x4 → inR t0 → inR t1 → pf_count_71 rec k48 σ x1 x2 x4 t0 t1 = some (σ', r) → ∀ (H : Heap) (locs : List Loc) (ls : Array Slot), rf_W v s σ H locs → lv_has ls 5 [(0, .ref (rf_h v)), (1, .int (rI x1)), (2, .int (rI x2)), (4, .int (rI x4))] → W p l e (rf_rm (d + 1)) s m args below meth c H locs 0 0 (MQ below (rf_Q v σ' (some (.int (rI r)))) args s 0 0 (rf_F v)) (F0 m 71 ls [.int (rI t0), .int (rI t1)]) := by
  obtain ⟨hx, hb, hr, hml, hown, hts, hlk, hK, hD⟩ := id B
  intro σ x1 x2 x4 t0 t1 ix1 ix2 ix4 it0 it1 hf H locs ls hw hl
  unfold pf_count_71 at hf
  obtain ⟨z1, ez1, iz1, hf⟩ := rf_ck_s hf
  refine rn_add hx hb ez1 dX12_count_71 ?_
  refine lv_istore_n (lv' := [(3, .int (rI z1)), (0, .ref (rf_h v)), (1, .int (rI x1)), (2, .int (rI x2)), (4, .int (rI x4))]) hx hb dX12_count_72 rfl hl (by decide) rfl (fun ls hl => ?_)
  obtain ⟨z2, ez2, iz2, hf⟩ := rf_ck_s hf
  refine lv_iinc (v := rI z2) (lv' := [(4, .int (rI z2)), (3, .int (rI z1)), (0, .ref (rf_h v)), (1, .int (rI x1)), (2, .int (rI x2))]) hx hb dX12_count_73 hl (k := 4) rfl (by rw [ez2]; exact rI_add _ _) (by decide) rfl (fun ls hl => ?_)
  refine lv_goto (tgt := 48) hx hb dX12_count_76 (by decide) ?_
  exact hk48 σ x1 x2 z1 z2 ix1 ix2 iz1 iz2 hf _ _ _ hw (lv_sub hl [2, 3, 4, 1, 0] rfl)

set_option maxHeartbeats 4000000 in
set_option maxRecDepth 100000 in
theorem ps_count_48 {v : rfE} {p : Program} {l : Launch} {e : Env} {s : State} {m : MethodId} {args : Array Value} {below : List Frame} {meth : Method} {c : Code} {d : Nat} {rec : Nat → RS → List Int → Option (RS × Int)} {σ' : RS} {r : Int} (hR : rf_Rec l v d rec) (B : rf_B v p s m args meth c cX12_count 5 (some .int)) : ∀ (n : Nat) (σ : RS) (x1 x2 x3 x4 : Int), inR x1 → inR x2 → inR x3 → inR x4 → pf_count_48 rec n σ x1 x2 x3 x4 = some (σ', r) → ∀ (H : Heap) (locs : List Loc) (ls : Array Slot), rf_W v s σ H locs → lv_has ls 5 [(0, .ref (rf_h v)), (1, .int (rI x1)), (2, .int (rI x2)), (3, .int (rI x3)), (4, .int (rI x4))] → W p l e (rf_rm (d + 1)) s m args below meth c H locs 0 0 (MQ below (rf_Q v σ' (some (.int (rI r)))) args s 0 0 (rf_F v)) (F0 m 48 ls []) := by
  obtain ⟨hx, hb, hr, hml, hown, hts, hlk, hK, hD⟩ := id B
  intro n
  induction n with
  | zero => intro σ x1 x2 x3 x4 ix1 ix2 ix3 ix4 hf; cases hf
  | succ n ih =>
    intro σ x1 x2 x3 x4 ix1 ix2 ix3 ix4 hf H locs ls hw hl
    unfold pf_count_48 at hf
    refine lv_iload hx hb dX12_count_48 (lv_at hl 4 rfl) ?_
    refine lv_bipush (v := rI 64) hx hb dX12_count_50 (by decide +kernel) ?_
    refine rn_icmp_ge (a := x4) (b := 64) (tgt := 79) hx hb ix4 ⟨by decide, by decide⟩ dX12_count_52 (by decide) (fun c1 => ?_) (fun c1 => ?_)
    · replace hf := rf_if_t hf c1
      refine lv_iload_n hx hb dX12_count_79 rfl (lv_at hl 1 rfl) ?_
      by_cases c2 : x1 = 0
      · replace hf := rf_if_t hf c2
        refine rn_tab (n := 0) (tgt := 152) hx hb ix1 c2 dX12_count_80 (by decide) (by decide) rfl (by decide) ?_
        refine lv_aload_n hx hb dX12_count_152 rfl (lv_at hl 0 rfl) ?_
        obtain ⟨z3, ez3, iz3, hf⟩ := rf_gi_s hw hf
        refine rf_geti B hw 64 (by decide) rfl lk_302 ez3 dX12_count_153 ?_
        exact rf_reti B hf hw dX12_count_156
      · replace hf := rf_if_f hf c2
        by_cases c4 : x1 = 1
        · replace hf := rf_if_t hf c4
          refine rn_tab (n := 1) (tgt := 157) hx hb ix1 c4 dX12_count_80 (by decide) (by decide) rfl (by decide) ?_
          refine lv_aload_n hx hb dX12_count_157 rfl (lv_at hl 0 rfl) ?_
          obtain ⟨z5, ez5, iz5, hf⟩ := rf_gi_s hw hf
          refine rf_geti B hw 66 (by decide) rfl lk_339 ez5 dX12_count_158 ?_
          exact rf_reti B hf hw dX12_count_161
        · replace hf := rf_if_f hf c4
          by_cases c6 : x1 = 2
          · replace hf := rf_if_t hf c6
            refine rn_tab (n := 2) (tgt := 162) hx hb ix1 c6 dX12_count_80 (by decide) (by decide) rfl (by decide) ?_
            refine lv_aload_n hx hb dX12_count_162 rfl (lv_at hl 0 rfl) ?_
            obtain ⟨z7, ez7, iz7, hf⟩ := rf_gi_s hw hf
            refine rf_geti B hw 67 (by decide) rfl lk_336 ez7 dX12_count_163 ?_
            exact rf_reti B hf hw dX12_count_166
          · replace hf := rf_if_f hf c6
            by_cases c8 : x1 = 3
            · replace hf := rf_if_t hf c8
              refine rn_tab (n := 3) (tgt := 167) hx hb ix1 c8 dX12_count_80 (by decide) (by decide) rfl (by decide) ?_
              refine lv_aload_n hx hb dX12_count_167 rfl (lv_at hl 0 rfl) ?_
              obtain ⟨z9, ez9, iz9, hf⟩ := rf_gi_s hw hf
              refine rf_geti B hw 68 (by decide) rfl lk_345 ez9 dX12_count_168 ?_
              exact rf_reti B hf hw dX12_count_171
            · replace hf := rf_if_f hf c8
              by_cases c10 : x1 = 4
              · replace hf := rf_if_t hf c10
                refine rn_tab (n := 4) (tgt := 172) hx hb ix1 c10 dX12_count_80 (by decide) (by decide) rfl (by decide) ?_
                refine lv_aload_n hx hb dX12_count_172 rfl (lv_at hl 0 rfl) ?_
                obtain ⟨z11, ez11, iz11, hf⟩ := rf_gi_s hw hf
                refine rf_geti B hw 69 (by decide) rfl lk_327 ez11 dX12_count_173 ?_
                exact rf_reti B hf hw dX12_count_176
              · replace hf := rf_if_f hf c10
                by_cases c12 : x1 = 5
                · replace hf := rf_if_t hf c12
                  refine rn_tab (n := 5) (tgt := 177) hx hb ix1 c12 dX12_count_80 (by decide) (by decide) rfl (by decide) ?_
                  refine lv_aload_n hx hb dX12_count_177 rfl (lv_at hl 0 rfl) ?_
                  obtain ⟨z13, ez13, iz13, hf⟩ := rf_gi_s hw hf
                  refine rf_geti B hw 70 (by decide) rfl lk_333 ez13 dX12_count_178 ?_
                  exact rf_reti B hf hw dX12_count_181
                · replace hf := rf_if_f hf c12
                  by_cases c14 : x1 = 6
                  · replace hf := rf_if_t hf c14
                    refine rn_tab (n := 6) (tgt := 182) hx hb ix1 c14 dX12_count_80 (by decide) (by decide) rfl (by decide) ?_
                    refine lv_aload_n hx hb dX12_count_182 rfl (lv_at hl 0 rfl) ?_
                    obtain ⟨z15, ez15, iz15, hf⟩ := rf_gi_s hw hf
                    refine rf_geti B hw 71 (by decide) rfl lk_312 ez15 dX12_count_183 ?_
                    exact rf_reti B hf hw dX12_count_186
                  · replace hf := rf_if_f hf c14
                    by_cases c16 : x1 = 7
                    · replace hf := rf_if_t hf c16
                      refine rn_tab (n := 7) (tgt := 187) hx hb ix1 c16 dX12_count_80 (by decide) (by decide) rfl (by decide) ?_
                      refine lv_aload_n hx hb dX12_count_187 rfl (lv_at hl 0 rfl) ?_
                      obtain ⟨z17, ez17, iz17, hf⟩ := rf_gi_s hw hf
                      refine rf_geti B hw 65 (by decide) rfl lk_305 ez17 dX12_count_188 ?_
                      exact rf_reti B hf hw dX12_count_191
                    · replace hf := rf_if_f hf c16
                      by_cases c18 : x1 = 8
                      · replace hf := rf_if_t hf c18
                        refine rn_tab (n := 8) (tgt := 192) hx hb ix1 c18 dX12_count_80 (by decide) (by decide) rfl (by decide) ?_
                        refine lv_aload_n hx hb dX12_count_192 rfl (lv_at hl 0 rfl) ?_
                        obtain ⟨z19, ez19, iz19, hf⟩ := rf_gi_s hw hf
                        refine rf_geti B hw 27 (by decide) rfl lk_167 ez19 dX12_count_193 ?_
                        exact rf_reti B hf hw dX12_count_196
                      · replace hf := rf_if_f hf c18
                        by_cases c20 : x1 = 9
                        · replace hf := rf_if_t hf c20
                          refine rn_tab (n := 9) (tgt := 197) hx hb ix1 c20 dX12_count_80 (by decide) (by decide) rfl (by decide) ?_
                          refine lv_aload_n hx hb dX12_count_197 rfl (lv_at hl 0 rfl) ?_
                          obtain ⟨z21, ez21, iz21, hf⟩ := rf_gi_s hw hf
                          refine rf_geti B hw 20 (by decide) rfl lk_160 ez21 dX12_count_198 ?_
                          exact rf_reti B hf hw dX12_count_201
                        · replace hf := rf_if_f hf c20
                          by_cases c22 : x1 = 10
                          · replace hf := rf_if_t hf c22
                            refine rn_tab (n := 10) (tgt := 202) hx hb ix1 c22 dX12_count_80 (by decide) (by decide) rfl (by decide) ?_
                            refine lv_iload_n hx hb dX12_count_202 rfl (lv_at hl 2 rfl) ?_
                            exact rf_reti B hf hw dX12_count_203
                          · replace hf := rf_if_f hf c22
                            by_cases c23 : x1 = 11
                            · replace hf := rf_if_t hf c23
                              refine rn_tab (n := 11) (tgt := 204) hx hb ix1 c23 dX12_count_80 (by decide) (by decide) rfl (by decide) ?_
                              refine lv_iload_n hx hb dX12_count_204 rfl (lv_at hl 3 rfl) ?_
                              exact rf_reti B hf hw dX12_count_205
                            · replace hf := rf_if_f hf c23
                              by_cases c24 : x1 = 12
                              · replace hf := rf_if_t hf c24
                                refine rn_tab (n := 12) (tgt := 206) hx hb ix1 c24 dX12_count_80 (by decide) (by decide) rfl (by decide) ?_
                                refine lv_aload_n hx hb dX12_count_206 rfl (lv_at hl 0 rfl) ?_
                                obtain ⟨z25, ez25, iz25, hf⟩ := rf_gi_s hw hf
                                refine rf_geti B hw 29 (by decide) rfl lk_170 ez25 dX12_count_207 ?_
                                exact rf_reti B hf hw dX12_count_210
                              · replace hf := rf_if_f hf c24
                                by_cases c26 : x1 = 13
                                · replace hf := rf_if_t hf c26
                                  refine rn_tab (n := 13) (tgt := 211) hx hb ix1 c26 dX12_count_80 (by decide) (by decide) rfl (by decide) ?_
                                  refine lv_aload_n hx hb dX12_count_211 rfl (lv_at hl 0 rfl) ?_
                                  obtain ⟨z27, ez27, iz27, hf⟩ := rf_gi_s hw hf
                                  refine rf_geti B hw 3 (by decide) rfl lk_183 ez27 dX12_count_212 ?_
                                  exact rf_reti B hf hw dX12_count_215
                                · replace hf := rf_if_f hf c26
                                  refine rn_tabO (tgt := 216) hx hb ix1 dX12_count_80 (by omega) (by decide) ?_
                                  refine lv_aload_n hx hb dX12_count_216 rfl (lv_at hl 0 rfl) ?_
                                  refine lv_iconst (v := rI 1) hx hb dX12_count_217 rfl ?_
                                  obtain ⟨σ28, z29, hσ28, hf⟩ := rf_cl_s hf
                                  obtain ⟨iz29, mσ28⟩ := hR 2 σ [1] σ28 z29 hσ28
                                  have mσ28 : rf_Met l v yX12_fail cX12_fail 2 (some .int) d [.ref (rf_h v), .int (rI 1)] σ σ28 (some (.int (rI z29))) := mσ28 ⟨by decide, by decide⟩
                                  refine rf_cv (n := 1) (rest := []) (As := [.int (rI 1)]) B mσ28 g_468_fail (by decide +kernel) (by decide) rfl hl.1 (Nat.le_of_ble_eq_true rfl) dX12_count_218 rfl hw (fun H locs hw => ?_)
                                  exact rf_reti B hf hw dX12_count_221
    · replace hf := rf_if_f hf c1
      refine lv_iload_n hx hb dX12_count_55 rfl (lv_at hl 3 rfl) ?_
      refine lv_aload_n hx hb dX12_count_56 rfl (lv_at hl 0 rfl) ?_
      refine rf_get (val := .ref (rf_ad v 19)) B hw 19 (by decide) lk_52 rfl dX12_count_57 ?_
      refine lv_iload hx hb dX12_count_60 (lv_at hl 4 rfl) ?_
      obtain ⟨z30, ez30, iz30, rz30, hf⟩ := rf_rd_s hw hf
      refine rf_ald B hw ix4 rz30 ez30 dX12_count_62 ?_
      refine rn_if_lt (a := z30) (tgt := 70) hx hb iz30 dX12_count_63 (by decide) (fun c31 => ?_) (fun c31 => ?_)
      · replace hf := rf_if_t hf c31
        refine lv_iconst (v := rI 0) hx hb dX12_count_70 rfl ?_
        exact ps_count_71 hR B (pf_count_48 rec n) ih σ x1 x2 x4 0 x3 ix1 ix2 ix4 ⟨by decide, by decide⟩ ix3 hf _ _ _ hw (lv_sub hl [0, 1, 2, 4] rfl)
      · replace hf := rf_if_f hf c31
        refine lv_iconst (v := rI 1) hx hb dX12_count_66 rfl ?_
        refine lv_goto (tgt := 71) hx hb dX12_count_67 (by decide) ?_
        exact ps_count_71 hR B (pf_count_48 rec n) ih σ x1 x2 x4 1 x3 ix1 ix2 ix4 ⟨by decide, by decide⟩ ix3 hf _ _ _ hw (lv_sub hl [0, 1, 2, 4] rfl)

set_option maxHeartbeats 4000000 in
set_option maxRecDepth 100000 in
theorem ps_count_12 {v : rfE} {p : Program} {l : Launch} {e : Env} {s : State} {m : MethodId} {args : Array Value} {below : List Frame} {meth : Method} {c : Code} {d : Nat} {rec : Nat → RS → List Int → Option (RS × Int)} {σ' : RS} {r : Int} (hR : rf_Rec l v d rec) (B : rf_B v p s m args meth c cX12_count 5 (some .int)) : ∀ (n : Nat) (σ : RS) (x1 x2 x3 x4 : Int), inR x1 → inR x2 → inR x3 → inR x4 → pf_count_12 rec n σ x1 x2 x3 x4 = some (σ', r) → ∀ (H : Heap) (locs : List Loc) (ls : Array Slot), rf_W v s σ H locs → lv_has ls 5 [(0, .ref (rf_h v)), (1, .int (rI x1)), (2, .int (rI x2)), (3, .int (rI x3)), (4, .int (rI x4))] → W p l e (rf_rm (d + 1)) s m args below meth c H locs 0 0 (MQ below (rf_Q v σ' (some (.int (rI r)))) args s 0 0 (rf_F v)) (F0 m 12 ls []) := by
  obtain ⟨hx, hb, hr, hml, hown, hts, hlk, hK, hD⟩ := id B
  intro n
  induction n with
  | zero => intro σ x1 x2 x3 x4 ix1 ix2 ix3 ix4 hf; cases hf
  | succ n ih =>
    intro σ x1 x2 x3 x4 ix1 ix2 ix3 ix4 hf H locs ls hw hl
    unfold pf_count_12 at hf
    refine lv_iload hx hb dX12_count_12 (lv_at hl 4 rfl) ?_
    refine lv_aload_n hx hb dX12_count_14 rfl (lv_at hl 0 rfl) ?_
    obtain ⟨z1, ez1, iz1, hf⟩ := rf_gi_s hw hf
    refine rf_geti B hw 20 (by decide) rfl lk_160 ez1 dX12_count_15 ?_
    refine rn_icmp_ge (a := x4) (b := z1) (tgt := 45) hx hb ix4 iz1 dX12_count_18 (by decide) (fun c2 => ?_) (fun c2 => ?_)
    · replace hf := rf_if_t hf c2
      refine lv_iconst (v := rI 0) hx hb dX12_count_45 rfl ?_
      refine lv_istore (lv' := [(4, .int (rI 0)), (0, .ref (rf_h v)), (1, .int (rI x1)), (2, .int (rI x2)), (3, .int (rI x3))]) hx hb dX12_count_46 hl (by decide) rfl (fun ls hl => ?_)
      exact ps_count_48 hR B 200000 σ x1 x2 x3 0 ix1 ix2 ix3 ⟨by decide, by decide⟩ hf _ _ _ hw (lv_sub hl [1, 2, 3, 4, 0] rfl)
    · replace hf := rf_if_f hf c2
      refine lv_iload_n hx hb dX12_count_21 rfl (lv_at hl 2 rfl) ?_
      refine lv_aload_n hx hb dX12_count_22 rfl (lv_at hl 0 rfl) ?_
      refine rf_get (val := .ref (rf_ad v 18)) B hw 18 (by decide) lk_50 rfl dX12_count_23 ?_
      refine lv_iload hx hb dX12_count_26 (lv_at hl 4 rfl) ?_
      obtain ⟨z3, ez3, iz3, rz3, hf⟩ := rf_rd_s hw hf
      refine rf_ald B hw ix4 rz3 ez3 dX12_count_28 ?_
      refine rn_if_lt (a := z3) (tgt := 36) hx hb iz3 dX12_count_29 (by decide) (fun c4 => ?_) (fun c4 => ?_)
      · replace hf := rf_if_t hf c4
        refine lv_iconst (v := rI 0) hx hb dX12_count_36 rfl ?_
        exact ps_count_37 hR B (pf_count_12 rec n) ih σ x1 x3 x4 0 x2 ix1 ix3 ix4 ⟨by decide, by decide⟩ ix2 hf _ _ _ hw (lv_sub hl [0, 1, 3, 4] rfl)
      · replace hf := rf_if_f hf c4
        refine lv_iconst (v := rI 1) hx hb dX12_count_32 rfl ?_
        refine lv_goto (tgt := 37) hx hb dX12_count_33 (by decide) ?_
        exact ps_count_37 hR B (pf_count_12 rec n) ih σ x1 x3 x4 1 x2 ix1 ix3 ix4 ⟨by decide, by decide⟩ ix2 hf _ _ _ hw (lv_sub hl [0, 1, 3, 4] rfl)

set_option maxHeartbeats 4000000 in
set_option maxRecDepth 100000 in
theorem ps_count_0 {v : rfE} {p : Program} {l : Launch} {e : Env} {s : State} {m : MethodId} {args : Array Value} {below : List Frame} {meth : Method} {c : Code} {d : Nat} {rec : Nat → RS → List Int → Option (RS × Int)} {σ' : RS} {r : Int} (hR : rf_Rec l v d rec) (B : rf_B v p s m args meth c cX12_count 5 (some .int)) : ∀ (σ : RS) (x1 : Int), inR x1 → pf_count_0 rec σ x1 = some (σ', r) → ∀ (H : Heap) (locs : List Loc) (ls : Array Slot), rf_W v s σ H locs → lv_has ls 5 [(0, .ref (rf_h v)), (1, .int (rI x1))] → W p l e (rf_rm (d + 1)) s m args below meth c H locs 0 0 (MQ below (rf_Q v σ' (some (.int (rI r)))) args s 0 0 (rf_F v)) (F0 m 0 ls []) := by
  obtain ⟨hx, hb, hr, hml, hown, hts, hlk, hK, hD⟩ := id B
  intro σ x1 ix1 hf H locs ls hw hl
  unfold pf_count_0 at hf
  refine lv_aload_n hx hb dX12_count_0 rfl (lv_at hl 0 rfl) ?_
  refine lv_iconst (v := rI 0) hx hb dX12_count_1 rfl ?_
  obtain ⟨σ1, eσ1, hf⟩ := rf_pi_s hf
  refine rf_put B hw 1 (by decide) rfl rfl lk_147 ⟨by decide, by decide⟩ eσ1 rfl rfl dX12_count_2 (fun H locs hw => ?_)
  refine lv_iconst (v := rI 0) hx hb dX12_count_5 rfl ?_
  refine lv_istore_n (lv' := [(2, .int (rI 0)), (0, .ref (rf_h v)), (1, .int (rI x1))]) hx hb dX12_count_6 rfl hl (by decide) rfl (fun ls hl => ?_)
  refine lv_iconst (v := rI 0) hx hb dX12_count_7 rfl ?_
  refine lv_istore_n (lv' := [(3, .int (rI 0)), (2, .int (rI 0)), (0, .ref (rf_h v)), (1, .int (rI x1))]) hx hb dX12_count_8 rfl hl (by decide) rfl (fun ls hl => ?_)
  refine lv_iconst (v := rI 0) hx hb dX12_count_9 rfl ?_
  refine lv_istore (lv' := [(4, .int (rI 0)), (3, .int (rI 0)), (2, .int (rI 0)), (0, .ref (rf_h v)), (1, .int (rI x1))]) hx hb dX12_count_10 hl (by decide) rfl (fun ls hl => ?_)
  exact ps_count_12 hR B 200000 σ1 x1 0 0 0 ix1 ⟨by decide, by decide⟩ ⟨by decide, by decide⟩ ⟨by decide, by decide⟩ hf _ _ _ hw (lv_sub hl [3, 4, 2, 1, 0] rfl)

set_option maxHeartbeats 4000000 in
set_option maxRecDepth 100000 in
theorem pm_count {v : rfE} (hD : rf_D v) {l : Launch} {d : Nat} {rec : Nat → RS → List Int → Option (RS × Int)} (hR : rf_Rec l v d rec) (σ σ' : RS) (x1 r : Int) (ix1 : inR x1) (hf : pf_count_0 rec σ x1 = some (σ', r)) : rf_Met l v yX12_count cX12_count 5 (some .int) (d + 1) [.ref (rf_h v), .int (rI x1)] σ σ' (some (.int (rI r))) := by
  refine Met.ofW (cc := cX12_count) (maxL := 5) (ret := (some .int)) (by decide +kernel) rfl ?_
  intro p e s m args below meth c s₁ B hml hv
  obtain ⟨rfl, hM, hK⟩ := hv
  have hts := atoms_spec (ws := Cond.code yX12_count cX12_count 5 (some .int) :: rf_bw) B.pre
  have hB : rf_B v p s m _ meth c cX12_count 5 (some .int) := ⟨B.exec, B.bytes, B.returns, hml, findClass_of_methodNamed B.named, fun w h => hts w (List.mem_cons_of_mem _ h), B.notSynchronized, hK, hD⟩
  have hl := lv_entry ([.ref (rf_h v), .int (rI x1)]) (n := 5) (Nat.le_of_ble_eq_true rfl)
  rw [lg_entry_eq]
  generalize (lg_sl ([.ref (rf_h v), .int (rI x1)]) ++ List.replicate (5 - (lg_sl ([.ref (rf_h v), .int (rI x1)])).length) Slot.unset).toArray = ls at hl ⊢
  exact ps_count_0 hR hB σ x1 ix1 hf _ _ _ ⟨hM, rfl, fun _ _ => rfl, fun q h => by cases h⟩ (lv_sub hl [0, 1] rfl)

set_option maxHeartbeats 4000000 in
set_option maxRecDepth 100000 in
theorem ps_name_21 {v : rfE} {p : Program} {l : Launch} {e : Env} {s : State} {m : MethodId} {args : Array Value} {below : List Frame} {meth : Method} {c : Code} {d : Nat} {rec : Nat → RS → List Int → Option (RS × Int)} {σ' : RS} {r : Int} (hR : rf_Rec l v d rec) (B : rf_B v p s m args meth c cX12_name 3 (some .int)) : ∀ (σ : RS), pf_name_21 rec σ = some (σ', r) → ∀ (H : Heap) (locs : List Loc) (ls : Array Slot), rf_W v s σ H locs → lv_has ls 3 [(0, .ref (rf_h v))] → W p l e (rf_rm (d + 1)) s m args below meth c H locs 0 0 (MQ below (rf_Q v σ' (some (.int (rI r)))) args s 0 0 (rf_F v)) (F0 m 21 ls []) := by
  obtain ⟨hx, hb, hr, hml, hown, hts, hlk, hK, hD⟩ := id B
  intro σ hf H locs ls hw hl
  unfold pf_name_21 at hf
  refine lv_aload_n hx hb dX12_name_21 rfl (lv_at hl 0 rfl) ?_
  refine lv_iconst (v := rI 1) hx hb dX12_name_22 rfl ?_
  obtain ⟨σ1, z2, hσ1, hf⟩ := rf_cl_s hf
  obtain ⟨iz2, mσ1⟩ := hR 2 σ [1] σ1 z2 hσ1
  have mσ1 : rf_Met l v yX12_fail cX12_fail 2 (some .int) d [.ref (rf_h v), .int (rI 1)] σ σ1 (some (.int (rI z2))) := mσ1 ⟨by decide, by decide⟩
  refine rf_cv (n := 1) (rest := []) (As := [.int (rI 1)]) B mσ1 g_468_fail (by decide +kernel) (by decide) rfl hl.1 (Nat.le_of_ble_eq_true rfl) dX12_name_23 rfl hw (fun H locs hw => ?_)
  exact rf_reti B hf hw dX12_name_26

set_option maxHeartbeats 4000000 in
set_option maxRecDepth 100000 in
theorem ps_name_0 {v : rfE} {p : Program} {l : Launch} {e : Env} {s : State} {m : MethodId} {args : Array Value} {below : List Frame} {meth : Method} {c : Code} {d : Nat} {rec : Nat → RS → List Int → Option (RS × Int)} {σ' : RS} {r : Int} (hR : rf_Rec l v d rec) (B : rf_B v p s m args meth c cX12_name 3 (some .int)) : ∀ (σ : RS) (x1 x2 : Int), inR x1 → inR x2 → pf_name_0 rec σ x1 x2 = some (σ', r) → ∀ (H : Heap) (locs : List Loc) (ls : Array Slot), rf_W v s σ H locs → lv_has ls 3 [(0, .ref (rf_h v)), (1, .int (rI x1)), (2, .int (rI x2))] → W p l e (rf_rm (d + 1)) s m args below meth c H locs 0 0 (MQ below (rf_Q v σ' (some (.int (rI r)))) args s 0 0 (rf_F v)) (F0 m 0 ls []) := by
  obtain ⟨hx, hb, hr, hml, hown, hts, hlk, hK, hD⟩ := id B
  intro σ x1 x2 ix1 ix2 hf H locs ls hw hl
  unfold pf_name_0 at hf
  refine lv_aload_n hx hb dX12_name_0 rfl (lv_at hl 0 rfl) ?_
  refine lv_iconst (v := rI 0) hx hb dX12_name_1 rfl ?_
  obtain ⟨σ1, eσ1, hf⟩ := rf_pi_s hf
  refine rf_put B hw 1 (by decide) rfl rfl lk_147 ⟨by decide, by decide⟩ eσ1 rfl rfl dX12_name_2 (fun H locs hw => ?_)
  refine lv_iload_n hx hb dX12_name_5 rfl (lv_at hl 1 rfl) ?_
  refine rn_if_lt (a := x1) (tgt := 21) hx hb ix1 dX12_name_6 (by decide) (fun c2 => ?_) (fun c2 => ?_)
  · replace hf := rf_if_t hf c2
    exact ps_name_21 hR B σ1 hf _ _ _ hw (lv_sub hl [0] rfl)
  · replace hf := rf_if_f hf c2
    refine lv_iload_n hx hb dX12_name_9 rfl (lv_at hl 1 rfl) ?_
    refine lv_aload_n hx hb dX12_name_10 rfl (lv_at hl 0 rfl) ?_
    obtain ⟨z3, ez3, iz3, hf⟩ := rf_gi_s hw hf
    refine rf_geti B hw 27 (by decide) rfl lk_167 ez3 dX12_name_11 ?_
    refine rn_icmp_ge (a := x1) (b := z3) (tgt := 21) hx hb ix1 iz3 dX12_name_14 (by decide) (fun c4 => ?_) (fun c4 => ?_)
    · replace hf := rf_if_t hf c4
      exact ps_name_21 hR B σ1 hf _ _ _ hw (lv_sub hl [0] rfl)
    · replace hf := rf_if_f hf c4
      refine lv_iload_n hx hb dX12_name_17 rfl (lv_at hl 2 rfl) ?_
      refine rn_if_ge (a := x2) (tgt := 27) hx hb ix2 dX12_name_18 (by decide) (fun c5 => ?_) (fun c5 => ?_)
      · replace hf := rf_if_t hf c5
        refine lv_iload_n hx hb dX12_name_27 rfl (lv_at hl 2 rfl) ?_
        refine rn_if_ne (a := x2) (tgt := 46) hx hb ix2 dX12_name_28 (by decide) (fun c6 => ?_) (fun c6 => ?_)
        · replace hf := rf_if_t hf c6
          refine lv_iload_n hx hb dX12_name_46 rfl (lv_at hl 2 rfl) ?_
          refine lv_iconst (v := rI 1) hx hb dX12_name_47 rfl ?_
          refine rn_icmp_ne (a := x2) (b := 1) (tgt := 58) hx hb ix2 ⟨by decide, by decide⟩ dX12_name_48 (by decide) (fun c7 => ?_) (fun c7 => ?_)
          · replace hf := rf_if_t hf c7
            refine lv_iload_n hx hb dX12_name_58 rfl (lv_at hl 2 rfl) ?_
            refine lv_iconst (v := rI 2) hx hb dX12_name_59 rfl ?_
            refine rn_icmp_ne (a := x2) (b := 2) (tgt := 70) hx hb ix2 ⟨by decide, by decide⟩ dX12_name_60 (by decide) (fun c8 => ?_) (fun c8 => ?_)
            · replace hf := rf_if_t hf c8
              refine lv_iload_n hx hb dX12_name_70 rfl (lv_at hl 2 rfl) ?_
              refine lv_iconst (v := rI 3) hx hb dX12_name_71 rfl ?_
              obtain ⟨z9, ez9, iz9, hf⟩ := rf_ck_s hf
              refine rn_sub hx hb ez9 dX12_name_72 ?_
              refine lv_aload_n hx hb dX12_name_73 rfl (lv_at hl 0 rfl) ?_
              refine rf_get (val := .ref (rf_ad v 22)) B hw 22 (by decide) lk_57 rfl dX12_name_74 ?_
              refine lv_iload_n hx hb dX12_name_77 rfl (lv_at hl 1 rfl) ?_
              obtain ⟨z10, ez10, iz10, rz10, hf⟩ := rf_rd_s hw hf
              refine rf_ald B hw ix1 rz10 ez10 dX12_name_78 ?_
              refine rn_icmp_ge (a := z9) (b := z10) (tgt := 98) hx hb iz9 iz10 dX12_name_79 (by decide) (fun c11 => ?_) (fun c11 => ?_)
              · replace hf := rf_if_t hf c11
                refine lv_iconst (v := rI (-1)) hx hb dX12_name_98 rfl ?_
                exact rf_reti B hf hw dX12_name_99
              · replace hf := rf_if_f hf c11
                refine lv_aload_n hx hb dX12_name_82 rfl (lv_at hl 0 rfl) ?_
                refine rf_get (val := .ref (rf_ad v 21)) B hw 21 (by decide) lk_54 rfl dX12_name_83 ?_
                refine lv_bipush (v := rI 12) hx hb dX12_name_86 (by decide +kernel) ?_
                refine lv_iload_n hx hb dX12_name_88 rfl (lv_at hl 1 rfl) ?_
                obtain ⟨z12, ez12, iz12, hf⟩ := rf_ck_s hf
                refine rn_mul hx hb ez12 dX12_name_89 ?_
                refine lv_iload_n hx hb dX12_name_90 rfl (lv_at hl 2 rfl) ?_
                obtain ⟨z13, ez13, iz13, hf⟩ := rf_ck_s hf
                refine rn_add hx hb ez13 dX12_name_91 ?_
                refine lv_iconst (v := rI 3) hx hb dX12_name_92 rfl ?_
                obtain ⟨z14, ez14, iz14, hf⟩ := rf_ck_s hf
                refine rn_sub hx hb ez14 dX12_name_93 ?_
                obtain ⟨z15, ez15, iz15, rz15, hf⟩ := rf_rd_s hw hf
                refine rf_ald B hw iz14 rz15 ez15 dX12_name_94 ?_
                refine lv_goto (tgt := 99) hx hb dX12_name_95 (by decide) ?_
                exact rf_reti B hf hw dX12_name_99
            · replace hf := rf_if_f hf c8
              refine lv_aload_n hx hb dX12_name_63 rfl (lv_at hl 0 rfl) ?_
              refine rf_get (val := .ref (rf_ad v 22)) B hw 22 (by decide) lk_57 rfl dX12_name_64 ?_
              refine lv_iload_n hx hb dX12_name_67 rfl (lv_at hl 1 rfl) ?_
              obtain ⟨z16, ez16, iz16, rz16, hf⟩ := rf_rd_s hw hf
              refine rf_ald B hw ix1 rz16 ez16 dX12_name_68 ?_
              exact rf_reti B hf hw dX12_name_69
          · replace hf := rf_if_f hf c7
            refine lv_aload_n hx hb dX12_name_51 rfl (lv_at hl 0 rfl) ?_
            refine rf_get (val := .ref (rf_ad v 24)) B hw 24 (by decide) lk_63 rfl dX12_name_52 ?_
            refine lv_iload_n hx hb dX12_name_55 rfl (lv_at hl 1 rfl) ?_
            obtain ⟨z17, ez17, iz17, rz17, hf⟩ := rf_rd_s hw hf
            refine rf_ald B hw ix1 rz17 ez17 dX12_name_56 ?_
            exact rf_reti B hf hw dX12_name_57
        · replace hf := rf_if_f hf c6
          refine lv_aload_n hx hb dX12_name_31 rfl (lv_at hl 0 rfl) ?_
          refine rf_get (val := .ref (rf_ad v 25)) B hw 25 (by decide) lk_66 rfl dX12_name_32 ?_
          refine lv_iload_n hx hb dX12_name_35 rfl (lv_at hl 1 rfl) ?_
          obtain ⟨z18, ez18, iz18, rz18, hf⟩ := rf_rd_s hw hf
          refine rf_ald B hw ix1 rz18 ez18 dX12_name_36 ?_
          refine rn_if_lt (a := z18) (tgt := 44) hx hb iz18 dX12_name_37 (by decide) (fun c19 => ?_) (fun c19 => ?_)
          · replace hf := rf_if_t hf c19
            refine lv_iconst (v := rI 0) hx hb dX12_name_44 rfl ?_
            exact rf_reti B hf hw dX12_name_45
          · replace hf := rf_if_f hf c19
            refine lv_iconst (v := rI 1) hx hb dX12_name_40 rfl ?_
            refine lv_goto (tgt := 45) hx hb dX12_name_41 (by decide) ?_
            exact rf_reti B hf hw dX12_name_45
      · replace hf := rf_if_f hf c5
        exact ps_name_21 hR B σ1 hf _ _ _ hw (lv_sub hl [0] rfl)

set_option maxHeartbeats 4000000 in
set_option maxRecDepth 100000 in
theorem pm_name {v : rfE} (hD : rf_D v) {l : Launch} {d : Nat} {rec : Nat → RS → List Int → Option (RS × Int)} (hR : rf_Rec l v d rec) (σ σ' : RS) (x1 x2 r : Int) (ix1 : inR x1) (ix2 : inR x2) (hf : pf_name_0 rec σ x1 x2 = some (σ', r)) : rf_Met l v yX12_name cX12_name 3 (some .int) (d + 1) [.ref (rf_h v), .int (rI x1), .int (rI x2)] σ σ' (some (.int (rI r))) := by
  refine Met.ofW (cc := cX12_name) (maxL := 3) (ret := (some .int)) (by decide +kernel) rfl ?_
  intro p e s m args below meth c s₁ B hml hv
  obtain ⟨rfl, hM, hK⟩ := hv
  have hts := atoms_spec (ws := Cond.code yX12_name cX12_name 3 (some .int) :: rf_bw) B.pre
  have hB : rf_B v p s m _ meth c cX12_name 3 (some .int) := ⟨B.exec, B.bytes, B.returns, hml, findClass_of_methodNamed B.named, fun w h => hts w (List.mem_cons_of_mem _ h), B.notSynchronized, hK, hD⟩
  have hl := lv_entry ([.ref (rf_h v), .int (rI x1), .int (rI x2)]) (n := 3) (Nat.le_of_ble_eq_true rfl)
  rw [lg_entry_eq]
  generalize (lg_sl ([.ref (rf_h v), .int (rI x1), .int (rI x2)]) ++ List.replicate (3 - (lg_sl ([.ref (rf_h v), .int (rI x1), .int (rI x2)])).length) Slot.unset).toArray = ls at hl ⊢
  exact ps_name_0 hR hB σ x1 x2 ix1 ix2 hf _ _ _ ⟨hM, rfl, fun _ _ => rfl, fun q h => by cases h⟩ (lv_sub hl [0, 1, 2] rfl)

set_option maxHeartbeats 4000000 in
set_option maxRecDepth 100000 in
theorem ps_sort_21 {v : rfE} {p : Program} {l : Launch} {e : Env} {s : State} {m : MethodId} {args : Array Value} {below : List Frame} {meth : Method} {c : Code} {d : Nat} {rec : Nat → RS → List Int → Option (RS × Int)} {σ' : RS} {r : Int} (hR : rf_Rec l v d rec) (B : rf_B v p s m args meth c cX12_sort 3 (some .int)) : ∀ (σ : RS), pf_sort_21 rec σ = some (σ', r) → ∀ (H : Heap) (locs : List Loc) (ls : Array Slot), rf_W v s σ H locs → lv_has ls 3 [(0, .ref (rf_h v))] → W p l e (rf_rm (d + 1)) s m args below meth c H locs 0 0 (MQ below (rf_Q v σ' (some (.int (rI r)))) args s 0 0 (rf_F v)) (F0 m 21 ls []) := by
  obtain ⟨hx, hb, hr, hml, hown, hts, hlk, hK, hD⟩ := id B
  intro σ hf H locs ls hw hl
  unfold pf_sort_21 at hf
  refine lv_aload_n hx hb dX12_sort_21 rfl (lv_at hl 0 rfl) ?_
  refine lv_iconst (v := rI 1) hx hb dX12_sort_22 rfl ?_
  obtain ⟨σ1, z2, hσ1, hf⟩ := rf_cl_s hf
  obtain ⟨iz2, mσ1⟩ := hR 2 σ [1] σ1 z2 hσ1
  have mσ1 : rf_Met l v yX12_fail cX12_fail 2 (some .int) d [.ref (rf_h v), .int (rI 1)] σ σ1 (some (.int (rI z2))) := mσ1 ⟨by decide, by decide⟩
  refine rf_cv (n := 1) (rest := []) (As := [.int (rI 1)]) B mσ1 g_468_fail (by decide +kernel) (by decide) rfl hl.1 (Nat.le_of_ble_eq_true rfl) dX12_sort_23 rfl hw (fun H locs hw => ?_)
  exact rf_reti B hf hw dX12_sort_26

set_option maxHeartbeats 4000000 in
set_option maxRecDepth 100000 in
theorem ps_sort_0 {v : rfE} {p : Program} {l : Launch} {e : Env} {s : State} {m : MethodId} {args : Array Value} {below : List Frame} {meth : Method} {c : Code} {d : Nat} {rec : Nat → RS → List Int → Option (RS × Int)} {σ' : RS} {r : Int} (hR : rf_Rec l v d rec) (B : rf_B v p s m args meth c cX12_sort 3 (some .int)) : ∀ (σ : RS) (x1 x2 : Int), inR x1 → inR x2 → pf_sort_0 rec σ x1 x2 = some (σ', r) → ∀ (H : Heap) (locs : List Loc) (ls : Array Slot), rf_W v s σ H locs → lv_has ls 3 [(0, .ref (rf_h v)), (1, .int (rI x1)), (2, .int (rI x2))] → W p l e (rf_rm (d + 1)) s m args below meth c H locs 0 0 (MQ below (rf_Q v σ' (some (.int (rI r)))) args s 0 0 (rf_F v)) (F0 m 0 ls []) := by
  obtain ⟨hx, hb, hr, hml, hown, hts, hlk, hK, hD⟩ := id B
  intro σ x1 x2 ix1 ix2 hf H locs ls hw hl
  unfold pf_sort_0 at hf
  refine lv_aload_n hx hb dX12_sort_0 rfl (lv_at hl 0 rfl) ?_
  refine lv_iconst (v := rI 0) hx hb dX12_sort_1 rfl ?_
  obtain ⟨σ1, eσ1, hf⟩ := rf_pi_s hf
  refine rf_put B hw 1 (by decide) rfl rfl lk_147 ⟨by decide, by decide⟩ eσ1 rfl rfl dX12_sort_2 (fun H locs hw => ?_)
  refine lv_iload_n hx hb dX12_sort_5 rfl (lv_at hl 1 rfl) ?_
  refine rn_if_lt (a := x1) (tgt := 21) hx hb ix1 dX12_sort_6 (by decide) (fun c2 => ?_) (fun c2 => ?_)
  · replace hf := rf_if_t hf c2
    exact ps_sort_21 hR B σ1 hf _ _ _ hw (lv_sub hl [0] rfl)
  · replace hf := rf_if_f hf c2
    refine lv_iload_n hx hb dX12_sort_9 rfl (lv_at hl 1 rfl) ?_
    refine lv_aload_n hx hb dX12_sort_10 rfl (lv_at hl 0 rfl) ?_
    obtain ⟨z3, ez3, iz3, hf⟩ := rf_gi_s hw hf
    refine rf_geti B hw 20 (by decide) rfl lk_160 ez3 dX12_sort_11 ?_
    refine rn_icmp_ge (a := x1) (b := z3) (tgt := 21) hx hb ix1 iz3 dX12_sort_14 (by decide) (fun c4 => ?_) (fun c4 => ?_)
    · replace hf := rf_if_t hf c4
      exact ps_sort_21 hR B σ1 hf _ _ _ hw (lv_sub hl [0] rfl)
    · replace hf := rf_if_f hf c4
      refine lv_iload_n hx hb dX12_sort_17 rfl (lv_at hl 2 rfl) ?_
      refine rn_if_ge (a := x2) (tgt := 27) hx hb ix2 dX12_sort_18 (by decide) (fun c5 => ?_) (fun c5 => ?_)
      · replace hf := rf_if_t hf c5
        refine lv_iload_n hx hb dX12_sort_27 rfl (lv_at hl 2 rfl) ?_
        refine rn_if_ne (a := x2) (tgt := 38) hx hb ix2 dX12_sort_28 (by decide) (fun c6 => ?_) (fun c6 => ?_)
        · replace hf := rf_if_t hf c6
          refine lv_iload_n hx hb dX12_sort_38 rfl (lv_at hl 2 rfl) ?_
          refine lv_iconst (v := rI 1) hx hb dX12_sort_39 rfl ?_
          refine rn_icmp_ne (a := x2) (b := 1) (tgt := 50) hx hb ix2 ⟨by decide, by decide⟩ dX12_sort_40 (by decide) (fun c7 => ?_) (fun c7 => ?_)
          · replace hf := rf_if_t hf c7
            refine lv_iload_n hx hb dX12_sort_50 rfl (lv_at hl 2 rfl) ?_
            refine lv_iconst (v := rI 2) hx hb dX12_sort_51 rfl ?_
            obtain ⟨z8, ez8, iz8, hf⟩ := rf_ck_s hf
            refine rn_sub hx hb ez8 dX12_sort_52 ?_
            refine lv_aload_n hx hb dX12_sort_53 rfl (lv_at hl 0 rfl) ?_
            refine rf_get (val := .ref (rf_ad v 17)) B hw 17 (by decide) lk_47 rfl dX12_sort_54 ?_
            refine lv_iload_n hx hb dX12_sort_57 rfl (lv_at hl 1 rfl) ?_
            obtain ⟨z9, ez9, iz9, rz9, hf⟩ := rf_rd_s hw hf
            refine rf_ald B hw ix1 rz9 ez9 dX12_sort_58 ?_
            refine rn_icmp_ge (a := z8) (b := z9) (tgt := 78) hx hb iz8 iz9 dX12_sort_59 (by decide) (fun c10 => ?_) (fun c10 => ?_)
            · replace hf := rf_if_t hf c10
              refine lv_iconst (v := rI (-1)) hx hb dX12_sort_78 rfl ?_
              exact rf_reti B hf hw dX12_sort_79
            · replace hf := rf_if_f hf c10
              refine lv_aload_n hx hb dX12_sort_62 rfl (lv_at hl 0 rfl) ?_
              refine rf_get (val := .ref (rf_ad v 16)) B hw 16 (by decide) lk_44 rfl dX12_sort_63 ?_
              refine lv_bipush (v := rI 12) hx hb dX12_sort_66 (by decide +kernel) ?_
              refine lv_iload_n hx hb dX12_sort_68 rfl (lv_at hl 1 rfl) ?_
              obtain ⟨z11, ez11, iz11, hf⟩ := rf_ck_s hf
              refine rn_mul hx hb ez11 dX12_sort_69 ?_
              refine lv_iload_n hx hb dX12_sort_70 rfl (lv_at hl 2 rfl) ?_
              obtain ⟨z12, ez12, iz12, hf⟩ := rf_ck_s hf
              refine rn_add hx hb ez12 dX12_sort_71 ?_
              refine lv_iconst (v := rI 2) hx hb dX12_sort_72 rfl ?_
              obtain ⟨z13, ez13, iz13, hf⟩ := rf_ck_s hf
              refine rn_sub hx hb ez13 dX12_sort_73 ?_
              obtain ⟨z14, ez14, iz14, rz14, hf⟩ := rf_rd_s hw hf
              refine rf_ald B hw iz13 rz14 ez14 dX12_sort_74 ?_
              refine lv_goto (tgt := 79) hx hb dX12_sort_75 (by decide) ?_
              exact rf_reti B hf hw dX12_sort_79
          · replace hf := rf_if_f hf c7
            refine lv_aload_n hx hb dX12_sort_43 rfl (lv_at hl 0 rfl) ?_
            refine rf_get (val := .ref (rf_ad v 17)) B hw 17 (by decide) lk_47 rfl dX12_sort_44 ?_
            refine lv_iload_n hx hb dX12_sort_47 rfl (lv_at hl 1 rfl) ?_
            obtain ⟨z15, ez15, iz15, rz15, hf⟩ := rf_rd_s hw hf
            refine rf_ald B hw ix1 rz15 ez15 dX12_sort_48 ?_
            exact rf_reti B hf hw dX12_sort_49
        · replace hf := rf_if_f hf c6
          refine lv_aload_n hx hb dX12_sort_31 rfl (lv_at hl 0 rfl) ?_
          refine rf_get (val := .ref (rf_ad v 18)) B hw 18 (by decide) lk_50 rfl dX12_sort_32 ?_
          refine lv_iload_n hx hb dX12_sort_35 rfl (lv_at hl 1 rfl) ?_
          obtain ⟨z16, ez16, iz16, rz16, hf⟩ := rf_rd_s hw hf
          refine rf_ald B hw ix1 rz16 ez16 dX12_sort_36 ?_
          exact rf_reti B hf hw dX12_sort_37
      · replace hf := rf_if_f hf c5
        exact ps_sort_21 hR B σ1 hf _ _ _ hw (lv_sub hl [0] rfl)

set_option maxHeartbeats 4000000 in
set_option maxRecDepth 100000 in
theorem pm_sort {v : rfE} (hD : rf_D v) {l : Launch} {d : Nat} {rec : Nat → RS → List Int → Option (RS × Int)} (hR : rf_Rec l v d rec) (σ σ' : RS) (x1 x2 r : Int) (ix1 : inR x1) (ix2 : inR x2) (hf : pf_sort_0 rec σ x1 x2 = some (σ', r)) : rf_Met l v yX12_sort cX12_sort 3 (some .int) (d + 1) [.ref (rf_h v), .int (rI x1), .int (rI x2)] σ σ' (some (.int (rI r))) := by
  refine Met.ofW (cc := cX12_sort) (maxL := 3) (ret := (some .int)) (by decide +kernel) rfl ?_
  intro p e s m args below meth c s₁ B hml hv
  obtain ⟨rfl, hM, hK⟩ := hv
  have hts := atoms_spec (ws := Cond.code yX12_sort cX12_sort 3 (some .int) :: rf_bw) B.pre
  have hB : rf_B v p s m _ meth c cX12_sort 3 (some .int) := ⟨B.exec, B.bytes, B.returns, hml, findClass_of_methodNamed B.named, fun w h => hts w (List.mem_cons_of_mem _ h), B.notSynchronized, hK, hD⟩
  have hl := lv_entry ([.ref (rf_h v), .int (rI x1), .int (rI x2)]) (n := 3) (Nat.le_of_ble_eq_true rfl)
  rw [lg_entry_eq]
  generalize (lg_sl ([.ref (rf_h v), .int (rI x1), .int (rI x2)]) ++ List.replicate (3 - (lg_sl ([.ref (rf_h v), .int (rI x1), .int (rI x2)])).length) Slot.unset).toArray = ls at hl ⊢
  exact ps_sort_0 hR hB σ x1 x2 ix1 ix2 hf _ _ _ ⟨hM, rfl, fun _ _ => rfl, fun q h => by cases h⟩ (lv_sub hl [0, 1, 2] rfl)

set_option maxHeartbeats 4000000 in
set_option maxRecDepth 100000 in
theorem ps_rule_29 {v : rfE} {p : Program} {l : Launch} {e : Env} {s : State} {m : MethodId} {args : Array Value} {below : List Frame} {meth : Method} {c : Code} {d : Nat} {rec : Nat → RS → List Int → Option (RS × Int)} {σ' : RS} {r : Int} (hR : rf_Rec l v d rec) (B : rf_B v p s m args meth c cX12_rule 3 (some .int)) : ∀ (σ : RS), pf_rule_29 rec σ = some (σ', r) → ∀ (H : Heap) (locs : List Loc) (ls : Array Slot), rf_W v s σ H locs → lv_has ls 3 [(0, .ref (rf_h v))] → W p l e (rf_rm (d + 1)) s m args below meth c H locs 0 0 (MQ below (rf_Q v σ' (some (.int (rI r)))) args s 0 0 (rf_F v)) (F0 m 29 ls []) := by
  obtain ⟨hx, hb, hr, hml, hown, hts, hlk, hK, hD⟩ := id B
  intro σ hf H locs ls hw hl
  unfold pf_rule_29 at hf
  refine lv_aload_n hx hb dX12_rule_29 rfl (lv_at hl 0 rfl) ?_
  refine lv_iconst (v := rI 1) hx hb dX12_rule_30 rfl ?_
  obtain ⟨σ1, z2, hσ1, hf⟩ := rf_cl_s hf
  obtain ⟨iz2, mσ1⟩ := hR 2 σ [1] σ1 z2 hσ1
  have mσ1 : rf_Met l v yX12_fail cX12_fail 2 (some .int) d [.ref (rf_h v), .int (rI 1)] σ σ1 (some (.int (rI z2))) := mσ1 ⟨by decide, by decide⟩
  refine rf_cv (n := 1) (rest := []) (As := [.int (rI 1)]) B mσ1 g_468_fail (by decide +kernel) (by decide) rfl hl.1 (Nat.le_of_ble_eq_true rfl) dX12_rule_31 rfl hw (fun H locs hw => ?_)
  exact rf_reti B hf hw dX12_rule_34

set_option maxHeartbeats 4000000 in
set_option maxRecDepth 100000 in
theorem ps_rule_0 {v : rfE} {p : Program} {l : Launch} {e : Env} {s : State} {m : MethodId} {args : Array Value} {below : List Frame} {meth : Method} {c : Code} {d : Nat} {rec : Nat → RS → List Int → Option (RS × Int)} {σ' : RS} {r : Int} (hR : rf_Rec l v d rec) (B : rf_B v p s m args meth c cX12_rule 3 (some .int)) : ∀ (σ : RS) (x1 x2 : Int), inR x1 → inR x2 → pf_rule_0 rec σ x1 x2 = some (σ', r) → ∀ (H : Heap) (locs : List Loc) (ls : Array Slot), rf_W v s σ H locs → lv_has ls 3 [(0, .ref (rf_h v)), (1, .int (rI x1)), (2, .int (rI x2))] → W p l e (rf_rm (d + 1)) s m args below meth c H locs 0 0 (MQ below (rf_Q v σ' (some (.int (rI r)))) args s 0 0 (rf_F v)) (F0 m 0 ls []) := by
  obtain ⟨hx, hb, hr, hml, hown, hts, hlk, hK, hD⟩ := id B
  intro σ x1 x2 ix1 ix2 hf H locs ls hw hl
  unfold pf_rule_0 at hf
  refine lv_aload_n hx hb dX12_rule_0 rfl (lv_at hl 0 rfl) ?_
  refine lv_iconst (v := rI 0) hx hb dX12_rule_1 rfl ?_
  obtain ⟨σ1, eσ1, hf⟩ := rf_pi_s hf
  refine rf_put B hw 1 (by decide) rfl rfl lk_147 ⟨by decide, by decide⟩ eσ1 rfl rfl dX12_rule_2 (fun H locs hw => ?_)
  refine lv_iload_n hx hb dX12_rule_5 rfl (lv_at hl 1 rfl) ?_
  refine rn_if_lt (a := x1) (tgt := 29) hx hb ix1 dX12_rule_6 (by decide) (fun c2 => ?_) (fun c2 => ?_)
  · replace hf := rf_if_t hf c2
    exact ps_rule_29 hR B σ1 hf _ _ _ hw (lv_sub hl [0] rfl)
  · replace hf := rf_if_f hf c2
    refine lv_iload_n hx hb dX12_rule_9 rfl (lv_at hl 1 rfl) ?_
    refine lv_aload_n hx hb dX12_rule_10 rfl (lv_at hl 0 rfl) ?_
    obtain ⟨z3, ez3, iz3, hf⟩ := rf_gi_s hw hf
    refine rf_geti B hw 20 (by decide) rfl lk_160 ez3 dX12_rule_11 ?_
    refine rn_icmp_ge (a := x1) (b := z3) (tgt := 29) hx hb ix1 iz3 dX12_rule_14 (by decide) (fun c4 => ?_) (fun c4 => ?_)
    · replace hf := rf_if_t hf c4
      exact ps_rule_29 hR B σ1 hf _ _ _ hw (lv_sub hl [0] rfl)
    · replace hf := rf_if_f hf c4
      refine lv_iload_n hx hb dX12_rule_17 rfl (lv_at hl 2 rfl) ?_
      refine rn_if_lt (a := x2) (tgt := 29) hx hb ix2 dX12_rule_18 (by decide) (fun c5 => ?_) (fun c5 => ?_)
      · replace hf := rf_if_t hf c5
        exact ps_rule_29 hR B σ1 hf _ _ _ hw (lv_sub hl [0] rfl)
      · replace hf := rf_if_f hf c5
        refine lv_iload_n hx hb dX12_rule_21 rfl (lv_at hl 2 rfl) ?_
        refine lv_aload_n hx hb dX12_rule_22 rfl (lv_at hl 0 rfl) ?_
        obtain ⟨z6, ez6, iz6, hf⟩ := rf_gi_s hw hf
        refine rf_geti B hw 20 (by decide) rfl lk_160 ez6 dX12_rule_23 ?_
        refine rn_icmp_lt (a := x2) (b := z6) (tgt := 35) hx hb ix2 iz6 dX12_rule_26 (by decide) (fun c7 => ?_) (fun c7 => ?_)
        · replace hf := rf_if_t hf c7
          refine lv_aload_n hx hb dX12_rule_35 rfl (lv_at hl 0 rfl) ?_
          refine rf_get (val := .ref (rf_ad v 19)) B hw 19 (by decide) lk_52 rfl dX12_rule_36 ?_
          refine lv_bipush (v := rI 8) hx hb dX12_rule_39 (by decide +kernel) ?_
          refine lv_iload_n hx hb dX12_rule_41 rfl (lv_at hl 1 rfl) ?_
          obtain ⟨z8, ez8, iz8, hf⟩ := rf_ck_s hf
          refine rn_mul hx hb ez8 dX12_rule_42 ?_
          refine lv_iload_n hx hb dX12_rule_43 rfl (lv_at hl 2 rfl) ?_
          obtain ⟨z9, ez9, iz9, hf⟩ := rf_ck_s hf
          refine rn_add hx hb ez9 dX12_rule_44 ?_
          obtain ⟨z10, ez10, iz10, rz10, hf⟩ := rf_rd_s hw hf
          refine rf_ald B hw iz9 rz10 ez10 dX12_rule_45 ?_
          exact rf_reti B hf hw dX12_rule_46
        · replace hf := rf_if_f hf c7
          exact ps_rule_29 hR B σ1 hf _ _ _ hw (lv_sub hl [0] rfl)

set_option maxHeartbeats 4000000 in
set_option maxRecDepth 100000 in
theorem pm_rule {v : rfE} (hD : rf_D v) {l : Launch} {d : Nat} {rec : Nat → RS → List Int → Option (RS × Int)} (hR : rf_Rec l v d rec) (σ σ' : RS) (x1 x2 r : Int) (ix1 : inR x1) (ix2 : inR x2) (hf : pf_rule_0 rec σ x1 x2 = some (σ', r)) : rf_Met l v yX12_rule cX12_rule 3 (some .int) (d + 1) [.ref (rf_h v), .int (rI x1), .int (rI x2)] σ σ' (some (.int (rI r))) := by
  refine Met.ofW (cc := cX12_rule) (maxL := 3) (ret := (some .int)) (by decide +kernel) rfl ?_
  intro p e s m args below meth c s₁ B hml hv
  obtain ⟨rfl, hM, hK⟩ := hv
  have hts := atoms_spec (ws := Cond.code yX12_rule cX12_rule 3 (some .int) :: rf_bw) B.pre
  have hB : rf_B v p s m _ meth c cX12_rule 3 (some .int) := ⟨B.exec, B.bytes, B.returns, hml, findClass_of_methodNamed B.named, fun w h => hts w (List.mem_cons_of_mem _ h), B.notSynchronized, hK, hD⟩
  have hl := lv_entry ([.ref (rf_h v), .int (rI x1), .int (rI x2)]) (n := 3) (Nat.le_of_ble_eq_true rfl)
  rw [lg_entry_eq]
  generalize (lg_sl ([.ref (rf_h v), .int (rI x1), .int (rI x2)]) ++ List.replicate (3 - (lg_sl ([.ref (rf_h v), .int (rI x1), .int (rI x2)])).length) Slot.unset).toArray = ls at hl ⊢
  exact ps_rule_0 hR hB σ x1 x2 ix1 ix2 hf _ _ _ ⟨hM, rfl, fun _ _ => rfl, fun q h => by cases h⟩ (lv_sub hl [0, 1, 2] rfl)

set_option maxHeartbeats 4000000 in
set_option maxRecDepth 100000 in
theorem ps_type_17 {v : rfE} {p : Program} {l : Launch} {e : Env} {s : State} {m : MethodId} {args : Array Value} {below : List Frame} {meth : Method} {c : Code} {d : Nat} {rec : Nat → RS → List Int → Option (RS × Int)} {σ' : RS} {r : Int} (hR : rf_Rec l v d rec) (B : rf_B v p s m args meth c cX12_type 3 (some .int)) : ∀ (σ : RS), pf_type_17 rec σ = some (σ', r) → ∀ (H : Heap) (locs : List Loc) (ls : Array Slot), rf_W v s σ H locs → lv_has ls 3 [(0, .ref (rf_h v))] → W p l e (rf_rm (d + 1)) s m args below meth c H locs 0 0 (MQ below (rf_Q v σ' (some (.int (rI r)))) args s 0 0 (rf_F v)) (F0 m 17 ls []) := by
  obtain ⟨hx, hb, hr, hml, hown, hts, hlk, hK, hD⟩ := id B
  intro σ hf H locs ls hw hl
  unfold pf_type_17 at hf
  refine lv_aload_n hx hb dX12_type_17 rfl (lv_at hl 0 rfl) ?_
  refine lv_iconst (v := rI 1) hx hb dX12_type_18 rfl ?_
  obtain ⟨σ1, z2, hσ1, hf⟩ := rf_cl_s hf
  obtain ⟨iz2, mσ1⟩ := hR 2 σ [1] σ1 z2 hσ1
  have mσ1 : rf_Met l v yX12_fail cX12_fail 2 (some .int) d [.ref (rf_h v), .int (rI 1)] σ σ1 (some (.int (rI z2))) := mσ1 ⟨by decide, by decide⟩
  refine rf_cv (n := 1) (rest := []) (As := [.int (rI 1)]) B mσ1 g_468_fail (by decide +kernel) (by decide) rfl hl.1 (Nat.le_of_ble_eq_true rfl) dX12_type_19 rfl hw (fun H locs hw => ?_)
  exact rf_reti B hf hw dX12_type_22

set_option maxHeartbeats 4000000 in
set_option maxRecDepth 100000 in
theorem ps_type_0 {v : rfE} {p : Program} {l : Launch} {e : Env} {s : State} {m : MethodId} {args : Array Value} {below : List Frame} {meth : Method} {c : Code} {d : Nat} {rec : Nat → RS → List Int → Option (RS × Int)} {σ' : RS} {r : Int} (hR : rf_Rec l v d rec) (B : rf_B v p s m args meth c cX12_type 3 (some .int)) : ∀ (σ : RS) (x1 : Int), inR x1 → pf_type_0 rec σ x1 = some (σ', r) → ∀ (H : Heap) (locs : List Loc) (ls : Array Slot), rf_W v s σ H locs → lv_has ls 3 [(0, .ref (rf_h v)), (1, .int (rI x1))] → W p l e (rf_rm (d + 1)) s m args below meth c H locs 0 0 (MQ below (rf_Q v σ' (some (.int (rI r)))) args s 0 0 (rf_F v)) (F0 m 0 ls []) := by
  obtain ⟨hx, hb, hr, hml, hown, hts, hlk, hK, hD⟩ := id B
  intro σ x1 ix1 hf H locs ls hw hl
  unfold pf_type_0 at hf
  refine lv_aload_n hx hb dX12_type_0 rfl (lv_at hl 0 rfl) ?_
  refine lv_iconst (v := rI 0) hx hb dX12_type_1 rfl ?_
  obtain ⟨σ1, eσ1, hf⟩ := rf_pi_s hf
  refine rf_put B hw 1 (by decide) rfl rfl lk_147 ⟨by decide, by decide⟩ eσ1 rfl rfl dX12_type_2 (fun H locs hw => ?_)
  refine lv_iload_n hx hb dX12_type_5 rfl (lv_at hl 1 rfl) ?_
  refine rn_if_lt (a := x1) (tgt := 17) hx hb ix1 dX12_type_6 (by decide) (fun c2 => ?_) (fun c2 => ?_)
  · replace hf := rf_if_t hf c2
    exact ps_type_17 hR B σ1 hf _ _ _ hw (lv_sub hl [0] rfl)
  · replace hf := rf_if_f hf c2
    refine lv_iload_n hx hb dX12_type_9 rfl (lv_at hl 1 rfl) ?_
    refine lv_aload_n hx hb dX12_type_10 rfl (lv_at hl 0 rfl) ?_
    obtain ⟨z3, ez3, iz3, hf⟩ := rf_gi_s hw hf
    refine rf_geti B hw 27 (by decide) rfl lk_167 ez3 dX12_type_11 ?_
    refine rn_icmp_lt (a := x1) (b := z3) (tgt := 23) hx hb ix1 iz3 dX12_type_14 (by decide) (fun c4 => ?_) (fun c4 => ?_)
    · replace hf := rf_if_t hf c4
      refine lv_aload_n hx hb dX12_type_23 rfl (lv_at hl 0 rfl) ?_
      obtain ⟨σ5, z6, hσ5, hf⟩ := rf_cl_s hf
      obtain ⟨iz6, mσ5⟩ := hR 54 σ1 [] σ5 z6 hσ5
      have mσ5 : rf_Met l v yX12_begin cX12_begin 1 none d [.ref (rf_h v)] σ1 σ5 none := mσ5
      refine rf_cv (n := 0) (rest := []) (As := []) B mσ5 g_477_begin (by decide +kernel) (by decide) rfl hl.1 (Nat.le_of_ble_eq_true rfl) dX12_type_24 rfl hw (fun H locs hw => ?_)
      refine lv_aload_n hx hb dX12_type_27 rfl (lv_at hl 0 rfl) ?_
      refine lv_iconst (v := rI 0) hx hb dX12_type_28 rfl ?_
      obtain ⟨σ7, eσ7, hf⟩ := rf_pi_s hf
      refine rf_put B hw 75 (by decide) rfl rfl lk_378 ⟨by decide, by decide⟩ eσ7 rfl rfl dX12_type_29 (fun H locs hw => ?_)
      refine lv_aload_n hx hb dX12_type_32 rfl (lv_at hl 0 rfl) ?_
      refine lv_iconst (v := rI 0) hx hb dX12_type_33 rfl ?_
      obtain ⟨σ8, eσ8, hf⟩ := rf_pi_s hf
      refine rf_put B hw 72 (by decide) rfl rfl lk_150 ⟨by decide, by decide⟩ eσ8 rfl rfl dX12_type_34 (fun H locs hw => ?_)
      refine lv_aload_n hx hb dX12_type_37 rfl (lv_at hl 0 rfl) ?_
      refine lv_aload_n hx hb dX12_type_38 rfl (lv_at hl 0 rfl) ?_
      refine rf_get (val := .ref (rf_ad v 23)) B hw 23 (by decide) lk_60 rfl dX12_type_39 ?_
      refine lv_iload_n hx hb dX12_type_42 rfl (lv_at hl 1 rfl) ?_
      obtain ⟨z9, ez9, iz9, rz9, hf⟩ := rf_rd_s hw hf
      refine rf_ald B hw ix1 rz9 ez9 dX12_type_43 ?_
      refine lv_iconst (v := rI 0) hx hb dX12_type_44 rfl ?_
      refine lv_iconst (v := rI 0) hx hb dX12_type_45 rfl ?_
      refine lv_iconst (v := rI 0) hx hb dX12_type_46 rfl ?_
      refine lv_iconst (v := rI 0) hx hb dX12_type_47 rfl ?_
      obtain ⟨σ10, z11, hσ10, hf⟩ := rf_cl_s hf
      obtain ⟨iz11, mσ10⟩ := hR 40 σ8 [z9, 0, 0, 0, 0] σ10 z11 hσ10
      have mσ10 : rf_Met l v yX12_tell cX12_tell 14 none d [.ref (rf_h v), .int (rI z9), .int (rI 0), .int (rI 0), .int (rI 0), .int (rI 0)] σ8 σ10 none := mσ10 iz9 ⟨by decide, by decide⟩ ⟨by decide, by decide⟩ ⟨by decide, by decide⟩ ⟨by decide, by decide⟩
      refine rf_cv (n := 5) (rest := []) (As := [.int (rI z9), .int (rI 0), .int (rI 0), .int (rI 0), .int (rI 0)]) B mσ10 g_387_tell (by decide +kernel) (by decide) rfl hl.1 (Nat.le_of_ble_eq_true rfl) dX12_type_48 rfl hw (fun H locs hw => ?_)
      refine lv_aload_n hx hb dX12_type_51 rfl (lv_at hl 0 rfl) ?_
      obtain ⟨σ12, z13, hσ12, hf⟩ := rf_cl_s hf
      obtain ⟨iz13, mσ12⟩ := hR 55 σ10 [] σ12 z13 hσ12
      have mσ12 : rf_Met l v yX12_drop cX12_drop 1 none d [.ref (rf_h v)] σ10 σ12 none := mσ12
      refine rf_cv (n := 0) (rest := []) (As := []) B mσ12 g_483_drop (by decide +kernel) (by decide) rfl hl.1 (Nat.le_of_ble_eq_true rfl) dX12_type_52 rfl hw (fun H locs hw => ?_)
      refine lv_aload_n hx hb dX12_type_55 rfl (lv_at hl 0 rfl) ?_
      obtain ⟨z14, ez14, iz14, hf⟩ := rf_gi_s hw hf
      refine rf_geti B hw 72 (by decide) rfl lk_150 ez14 dX12_type_56 ?_
      refine lv_istore_n (lv' := [(2, .int (rI z14)), (0, .ref (rf_h v)), (1, .int (rI x1))]) hx hb dX12_type_59 rfl hl (by decide) rfl (fun ls hl => ?_)
      refine lv_aload_n hx hb dX12_type_60 rfl (lv_at hl 1 rfl) ?_
      refine lv_iconst (v := rI 0) hx hb dX12_type_61 rfl ?_
      obtain ⟨σ15, eσ15, hf⟩ := rf_pi_s hf
      refine rf_put B hw 72 (by decide) rfl rfl lk_150 ⟨by decide, by decide⟩ eσ15 rfl rfl dX12_type_62 (fun H locs hw => ?_)
      refine lv_iload_n hx hb dX12_type_65 rfl (lv_at hl 0 rfl) ?_
      refine rn_if_ne (a := z14) (tgt := 76) hx hb iz14 dX12_type_66 (by decide) (fun c16 => ?_) (fun c16 => ?_)
      · replace hf := rf_if_t hf c16
        refine lv_iload_n hx hb dX12_type_76 rfl (lv_at hl 0 rfl) ?_
        obtain ⟨z17, ez17, iz17, hf⟩ := rf_ck_s hf
        refine lv_ineg hx hb dX12_type_77 ?_
        rw [rI_neg, ← ez17]
        exact rf_reti B hf hw dX12_type_78
      · replace hf := rf_if_f hf c16
        refine lv_aload_n hx hb dX12_type_69 rfl (lv_at hl 1 rfl) ?_
        obtain ⟨z18, ez18, iz18, hf⟩ := rf_gi_s hw hf
        refine rf_geti B hw 75 (by decide) rfl lk_378 ez18 dX12_type_70 ?_
        refine lv_goto (tgt := 78) hx hb dX12_type_73 (by decide) ?_
        exact rf_reti B hf hw dX12_type_78
    · replace hf := rf_if_f hf c4
      exact ps_type_17 hR B σ1 hf _ _ _ hw (lv_sub hl [0] rfl)

set_option maxHeartbeats 4000000 in
set_option maxRecDepth 100000 in
theorem pm_type {v : rfE} (hD : rf_D v) {l : Launch} {d : Nat} {rec : Nat → RS → List Int → Option (RS × Int)} (hR : rf_Rec l v d rec) (σ σ' : RS) (x1 r : Int) (ix1 : inR x1) (hf : pf_type_0 rec σ x1 = some (σ', r)) : rf_Met l v yX12_type cX12_type 3 (some .int) (d + 1) [.ref (rf_h v), .int (rI x1)] σ σ' (some (.int (rI r))) := by
  refine Met.ofW (cc := cX12_type) (maxL := 3) (ret := (some .int)) (by decide +kernel) rfl ?_
  intro p e s m args below meth c s₁ B hml hv
  obtain ⟨rfl, hM, hK⟩ := hv
  have hts := atoms_spec (ws := Cond.code yX12_type cX12_type 3 (some .int) :: rf_bw) B.pre
  have hB : rf_B v p s m _ meth c cX12_type 3 (some .int) := ⟨B.exec, B.bytes, B.returns, hml, findClass_of_methodNamed B.named, fun w h => hts w (List.mem_cons_of_mem _ h), B.notSynchronized, hK, hD⟩
  have hl := lv_entry ([.ref (rf_h v), .int (rI x1)]) (n := 3) (Nat.le_of_ble_eq_true rfl)
  rw [lg_entry_eq]
  generalize (lg_sl ([.ref (rf_h v), .int (rI x1)]) ++ List.replicate (3 - (lg_sl ([.ref (rf_h v), .int (rI x1)])).length) Slot.unset).toArray = ls at hl ⊢
  exact ps_type_0 hR hB σ x1 ix1 hf _ _ _ ⟨hM, rfl, fun _ _ => rfl, fun q h => by cases h⟩ (lv_sub hl [0, 1] rfl)

set_option maxHeartbeats 4000000 in
set_option maxRecDepth 100000 in
theorem ps_same_29 {v : rfE} {p : Program} {l : Launch} {e : Env} {s : State} {m : MethodId} {args : Array Value} {below : List Frame} {meth : Method} {c : Code} {d : Nat} {rec : Nat → RS → List Int → Option (RS × Int)} {σ' : RS} {r : Int} (hR : rf_Rec l v d rec) (B : rf_B v p s m args meth c cX12_same 7 (some .int)) : ∀ (σ : RS), pf_same_29 rec σ = some (σ', r) → ∀ (H : Heap) (locs : List Loc) (ls : Array Slot), rf_W v s σ H locs → lv_has ls 7 [(0, .ref (rf_h v))] → W p l e (rf_rm (d + 1)) s m args below meth c H locs 0 0 (MQ below (rf_Q v σ' (some (.int (rI r)))) args s 0 0 (rf_F v)) (F0 m 29 ls []) := by
  obtain ⟨hx, hb, hr, hml, hown, hts, hlk, hK, hD⟩ := id B
  intro σ hf H locs ls hw hl
  unfold pf_same_29 at hf
  refine lv_aload_n hx hb dX12_same_29 rfl (lv_at hl 0 rfl) ?_
  refine lv_iconst (v := rI 1) hx hb dX12_same_30 rfl ?_
  obtain ⟨σ1, z2, hσ1, hf⟩ := rf_cl_s hf
  obtain ⟨iz2, mσ1⟩ := hR 2 σ [1] σ1 z2 hσ1
  have mσ1 : rf_Met l v yX12_fail cX12_fail 2 (some .int) d [.ref (rf_h v), .int (rI 1)] σ σ1 (some (.int (rI z2))) := mσ1 ⟨by decide, by decide⟩
  refine rf_cv (n := 1) (rest := []) (As := [.int (rI 1)]) B mσ1 g_468_fail (by decide +kernel) (by decide) rfl hl.1 (Nat.le_of_ble_eq_true rfl) dX12_same_31 rfl hw (fun H locs hw => ?_)
  exact rf_reti B hf hw dX12_same_34

set_option maxHeartbeats 4000000 in
set_option maxRecDepth 100000 in
theorem ps_same_0 {v : rfE} {p : Program} {l : Launch} {e : Env} {s : State} {m : MethodId} {args : Array Value} {below : List Frame} {meth : Method} {c : Code} {d : Nat} {rec : Nat → RS → List Int → Option (RS × Int)} {σ' : RS} {r : Int} (hR : rf_Rec l v d rec) (B : rf_B v p s m args meth c cX12_same 7 (some .int)) : ∀ (σ : RS) (x1 x2 : Int), inR x1 → inR x2 → pf_same_0 rec σ x1 x2 = some (σ', r) → ∀ (H : Heap) (locs : List Loc) (ls : Array Slot), rf_W v s σ H locs → lv_has ls 7 [(0, .ref (rf_h v)), (1, .int (rI x1)), (2, .int (rI x2))] → W p l e (rf_rm (d + 1)) s m args below meth c H locs 0 0 (MQ below (rf_Q v σ' (some (.int (rI r)))) args s 0 0 (rf_F v)) (F0 m 0 ls []) := by
  obtain ⟨hx, hb, hr, hml, hown, hts, hlk, hK, hD⟩ := id B
  intro σ x1 x2 ix1 ix2 hf H locs ls hw hl
  unfold pf_same_0 at hf
  refine lv_aload_n hx hb dX12_same_0 rfl (lv_at hl 0 rfl) ?_
  refine lv_iconst (v := rI 0) hx hb dX12_same_1 rfl ?_
  obtain ⟨σ1, eσ1, hf⟩ := rf_pi_s hf
  refine rf_put B hw 1 (by decide) rfl rfl lk_147 ⟨by decide, by decide⟩ eσ1 rfl rfl dX12_same_2 (fun H locs hw => ?_)
  refine lv_iload_n hx hb dX12_same_5 rfl (lv_at hl 1 rfl) ?_
  refine rn_if_lt (a := x1) (tgt := 29) hx hb ix1 dX12_same_6 (by decide) (fun c2 => ?_) (fun c2 => ?_)
  · replace hf := rf_if_t hf c2
    exact ps_same_29 hR B σ1 hf _ _ _ hw (lv_sub hl [0] rfl)
  · replace hf := rf_if_f hf c2
    refine lv_iload_n hx hb dX12_same_9 rfl (lv_at hl 1 rfl) ?_
    refine lv_aload_n hx hb dX12_same_10 rfl (lv_at hl 0 rfl) ?_
    obtain ⟨z3, ez3, iz3, hf⟩ := rf_gi_s hw hf
    refine rf_geti B hw 27 (by decide) rfl lk_167 ez3 dX12_same_11 ?_
    refine rn_icmp_ge (a := x1) (b := z3) (tgt := 29) hx hb ix1 iz3 dX12_same_14 (by decide) (fun c4 => ?_) (fun c4 => ?_)
    · replace hf := rf_if_t hf c4
      exact ps_same_29 hR B σ1 hf _ _ _ hw (lv_sub hl [0] rfl)
    · replace hf := rf_if_f hf c4
      refine lv_iload_n hx hb dX12_same_17 rfl (lv_at hl 2 rfl) ?_
      refine rn_if_lt (a := x2) (tgt := 29) hx hb ix2 dX12_same_18 (by decide) (fun c5 => ?_) (fun c5 => ?_)
      · replace hf := rf_if_t hf c5
        exact ps_same_29 hR B σ1 hf _ _ _ hw (lv_sub hl [0] rfl)
      · replace hf := rf_if_f hf c5
        refine lv_iload_n hx hb dX12_same_21 rfl (lv_at hl 2 rfl) ?_
        refine lv_aload_n hx hb dX12_same_22 rfl (lv_at hl 0 rfl) ?_
        obtain ⟨z6, ez6, iz6, hf⟩ := rf_gi_s hw hf
        refine rf_geti B hw 27 (by decide) rfl lk_167 ez6 dX12_same_23 ?_
        refine rn_icmp_lt (a := x2) (b := z6) (tgt := 35) hx hb ix2 iz6 dX12_same_26 (by decide) (fun c7 => ?_) (fun c7 => ?_)
        · replace hf := rf_if_t hf c7
          refine lv_aload_n hx hb dX12_same_35 rfl (lv_at hl 0 rfl) ?_
          obtain ⟨σ8, z9, hσ8, hf⟩ := rf_cl_s hf
          obtain ⟨iz9, mσ8⟩ := hR 54 σ1 [] σ8 z9 hσ8
          have mσ8 : rf_Met l v yX12_begin cX12_begin 1 none d [.ref (rf_h v)] σ1 σ8 none := mσ8
          refine rf_cv (n := 0) (rest := []) (As := []) B mσ8 g_477_begin (by decide +kernel) (by decide) rfl hl.1 (Nat.le_of_ble_eq_true rfl) dX12_same_36 rfl hw (fun H locs hw => ?_)
          refine lv_aload_n hx hb dX12_same_39 rfl (lv_at hl 0 rfl) ?_
          refine lv_iconst (v := rI 0) hx hb dX12_same_40 rfl ?_
          obtain ⟨σ10, eσ10, hf⟩ := rf_pi_s hf
          refine rf_put B hw 72 (by decide) rfl rfl lk_150 ⟨by decide, by decide⟩ eσ10 rfl rfl dX12_same_41 (fun H locs hw => ?_)
          refine lv_aload_n hx hb dX12_same_44 rfl (lv_at hl 0 rfl) ?_
          refine lv_iconst (v := rI 1) hx hb dX12_same_45 rfl ?_
          obtain ⟨b0112, hf⟩ := rf_bo_s hf
          obtain ⟨σ11, eσ11, hf⟩ := rf_pi_s hf
          refine rf_put B hw 15 (by decide) rfl rfl lk_237 ⟨by decide, by decide⟩ eσ11 (rf_narZ b0112) (rf_fitZ b0112) dX12_same_46 (fun H locs hw => ?_)
          refine lv_aload_n hx hb dX12_same_49 rfl (lv_at hl 0 rfl) ?_
          refine lv_iconst (v := rI 2) hx hb dX12_same_50 rfl ?_
          refine lv_iload_n hx hb dX12_same_51 rfl (lv_at hl 1 rfl) ?_
          refine lv_iconst (v := rI 0) hx hb dX12_same_52 rfl ?_
          refine lv_iconst (v := rI 0) hx hb dX12_same_53 rfl ?_
          refine lv_iconst (v := rI 0) hx hb dX12_same_54 rfl ?_
          obtain ⟨σ13, z14, hσ13, hf⟩ := rf_cl_s hf
          obtain ⟨iz14, mσ13⟩ := hR 18 σ11 [2, x1, 0, 0, 0] σ13 z14 hσ13
          have mσ13 : rf_Met l v yX12_node cX12_node 6 (some .int) d [.ref (rf_h v), .int (rI 2), .int (rI x1), .int (rI 0), .int (rI 0), .int (rI 0)] σ11 σ13 (some (.int (rI z14))) := mσ13 ⟨by decide, by decide⟩ ix1 ⟨by decide, by decide⟩ ⟨by decide, by decide⟩ ⟨by decide, by decide⟩
          refine rf_cv (n := 5) (rest := []) (As := [.int (rI 2), .int (rI x1), .int (rI 0), .int (rI 0), .int (rI 0)]) B mσ13 g_241_node (by decide +kernel) (by decide) rfl hl.1 (Nat.le_of_ble_eq_true rfl) dX12_same_55 rfl hw (fun H locs hw => ?_)
          refine lv_istore_n (lv' := [(3, .int (rI z14)), (0, .ref (rf_h v)), (1, .int (rI x1)), (2, .int (rI x2))]) hx hb dX12_same_58 rfl hl (by decide) rfl (fun ls hl => ?_)
          refine lv_aload_n hx hb dX12_same_59 rfl (lv_at hl 1 rfl) ?_
          refine lv_iconst (v := rI 2) hx hb dX12_same_60 rfl ?_
          refine lv_iload_n hx hb dX12_same_61 rfl (lv_at hl 3 rfl) ?_
          refine lv_iconst (v := rI 0) hx hb dX12_same_62 rfl ?_
          refine lv_iconst (v := rI 0) hx hb dX12_same_63 rfl ?_
          refine lv_iconst (v := rI 0) hx hb dX12_same_64 rfl ?_
          obtain ⟨σ15, z16, hσ15, hf⟩ := rf_cl_s hf
          obtain ⟨iz16, mσ15⟩ := hR 18 σ13 [2, x2, 0, 0, 0] σ15 z16 hσ15
          have mσ15 : rf_Met l v yX12_node cX12_node 6 (some .int) d [.ref (rf_h v), .int (rI 2), .int (rI x2), .int (rI 0), .int (rI 0), .int (rI 0)] σ13 σ15 (some (.int (rI z16))) := mσ15 ⟨by decide, by decide⟩ ix2 ⟨by decide, by decide⟩ ⟨by decide, by decide⟩ ⟨by decide, by decide⟩
          refine rf_cv (n := 5) (rest := []) (As := [.int (rI 2), .int (rI x2), .int (rI 0), .int (rI 0), .int (rI 0)]) B mσ15 g_241_node (by decide +kernel) (by decide) rfl hl.1 (Nat.le_of_ble_eq_true rfl) dX12_same_65 rfl hw (fun H locs hw => ?_)
          refine lv_istore (lv' := [(4, .int (rI z16)), (3, .int (rI z14)), (0, .ref (rf_h v)), (1, .int (rI x1)), (2, .int (rI x2))]) hx hb dX12_same_68 hl (by decide) rfl (fun ls hl => ?_)
          refine lv_aload_n hx hb dX12_same_70 rfl (lv_at hl 2 rfl) ?_
          refine lv_iconst (v := rI 0) hx hb dX12_same_71 rfl ?_
          obtain ⟨b0118, hf⟩ := rf_bo_s hf
          obtain ⟨σ17, eσ17, hf⟩ := rf_pi_s hf
          refine rf_put B hw 15 (by decide) rfl rfl lk_237 ⟨by decide, by decide⟩ eσ17 (rf_narZ b0118) (rf_fitZ b0118) dX12_same_72 (fun H locs hw => ?_)
          refine lv_aload_n hx hb dX12_same_75 rfl (lv_at hl 2 rfl) ?_
          refine lv_iload_n hx hb dX12_same_76 rfl (lv_at hl 1 rfl) ?_
          refine lv_iconst (v := rI 0) hx hb dX12_same_77 rfl ?_
          refine lv_iload hx hb dX12_same_78 (lv_at hl 0 rfl) ?_
          refine lv_iconst (v := rI 0) hx hb dX12_same_80 rfl ?_
          refine lv_iconst (v := rI 0) hx hb dX12_same_81 rfl ?_
          obtain ⟨σ19, z20, hσ19, hf⟩ := rf_cl_s hf
          obtain ⟨iz20, mσ19⟩ := hR 35 σ17 [z14, 0, z16, 0, 0] σ19 z20 hσ19
          have mσ19 : rf_Met l v yX12_compare cX12_compare 13 (some .boolean) d [.ref (rf_h v), .int (rI z14), .int (rI 0), .int (rI z16), .int (rI 0), .int (rI 0)] σ17 σ19 (some (.int (rI z20))) := mσ19 iz14 ⟨by decide, by decide⟩ iz16 ⟨by decide, by decide⟩ ⟨by decide, by decide⟩
          refine rf_cv (n := 5) (rest := []) (As := [.int (rI z14), .int (rI 0), .int (rI z16), .int (rI 0), .int (rI 0)]) B mσ19 g_366_compare (by decide +kernel) (by decide) rfl hl.1 (Nat.le_of_ble_eq_true rfl) dX12_same_82 rfl hw (fun H locs hw => ?_)
          refine lv_istore (lv' := [(5, .int (rI z20)), (4, .int (rI z16)), (3, .int (rI z14)), (0, .ref (rf_h v)), (1, .int (rI x1)), (2, .int (rI x2))]) hx hb dX12_same_85 hl (by decide) rfl (fun ls hl => ?_)
          refine lv_aload_n hx hb dX12_same_87 rfl (lv_at hl 3 rfl) ?_
          obtain ⟨σ21, z22, hσ21, hf⟩ := rf_cl_s hf
          obtain ⟨iz22, mσ21⟩ := hR 55 σ19 [] σ21 z22 hσ21
          have mσ21 : rf_Met l v yX12_drop cX12_drop 1 none d [.ref (rf_h v)] σ19 σ21 none := mσ21
          refine rf_cv (n := 0) (rest := []) (As := []) B mσ21 g_483_drop (by decide +kernel) (by decide) rfl hl.1 (Nat.le_of_ble_eq_true rfl) dX12_same_88 rfl hw (fun H locs hw => ?_)
          refine lv_aload_n hx hb dX12_same_91 rfl (lv_at hl 3 rfl) ?_
          obtain ⟨z23, ez23, iz23, hf⟩ := rf_gi_s hw hf
          refine rf_geti B hw 72 (by decide) rfl lk_150 ez23 dX12_same_92 ?_
          refine lv_istore (lv' := [(6, .int (rI z23)), (5, .int (rI z20)), (4, .int (rI z16)), (3, .int (rI z14)), (0, .ref (rf_h v)), (1, .int (rI x1)), (2, .int (rI x2))]) hx hb dX12_same_95 hl (by decide) rfl (fun ls hl => ?_)
          refine lv_aload_n hx hb dX12_same_97 rfl (lv_at hl 4 rfl) ?_
          refine lv_iconst (v := rI 0) hx hb dX12_same_98 rfl ?_
          obtain ⟨σ24, eσ24, hf⟩ := rf_pi_s hf
          refine rf_put B hw 72 (by decide) rfl rfl lk_150 ⟨by decide, by decide⟩ eσ24 rfl rfl dX12_same_99 (fun H locs hw => ?_)
          refine lv_iload hx hb dX12_same_102 (lv_at hl 0 rfl) ?_
          refine rn_if_eq (a := z23) (tgt := 113) hx hb iz23 dX12_same_104 (by decide) (fun c25 => ?_) (fun c25 => ?_)
          · replace hf := rf_if_t hf c25
            refine lv_iload hx hb dX12_same_113 (lv_at hl 1 rfl) ?_
            refine rn_if_eq (a := z20) (tgt := 122) hx hb iz20 dX12_same_115 (by decide) (fun c26 => ?_) (fun c26 => ?_)
            · replace hf := rf_if_t hf c26
              refine lv_iconst (v := rI 0) hx hb dX12_same_122 rfl ?_
              exact rf_reti B hf hw dX12_same_123
            · replace hf := rf_if_f hf c26
              refine lv_iconst (v := rI 1) hx hb dX12_same_118 rfl ?_
              refine lv_goto (tgt := 123) hx hb dX12_same_119 (by decide) ?_
              exact rf_reti B hf hw dX12_same_123
          · replace hf := rf_if_f hf c25
            refine lv_iload hx hb dX12_same_107 (lv_at hl 0 rfl) ?_
            obtain ⟨z27, ez27, iz27, hf⟩ := rf_ck_s hf
            refine lv_ineg hx hb dX12_same_109 ?_
            rw [rI_neg, ← ez27]
            refine lv_goto (tgt := 123) hx hb dX12_same_110 (by decide) ?_
            exact rf_reti B hf hw dX12_same_123
        · replace hf := rf_if_f hf c7
          exact ps_same_29 hR B σ1 hf _ _ _ hw (lv_sub hl [0] rfl)

set_option maxHeartbeats 4000000 in
set_option maxRecDepth 100000 in
theorem pm_same {v : rfE} (hD : rf_D v) {l : Launch} {d : Nat} {rec : Nat → RS → List Int → Option (RS × Int)} (hR : rf_Rec l v d rec) (σ σ' : RS) (x1 x2 r : Int) (ix1 : inR x1) (ix2 : inR x2) (hf : pf_same_0 rec σ x1 x2 = some (σ', r)) : rf_Met l v yX12_same cX12_same 7 (some .int) (d + 1) [.ref (rf_h v), .int (rI x1), .int (rI x2)] σ σ' (some (.int (rI r))) := by
  refine Met.ofW (cc := cX12_same) (maxL := 7) (ret := (some .int)) (by decide +kernel) rfl ?_
  intro p e s m args below meth c s₁ B hml hv
  obtain ⟨rfl, hM, hK⟩ := hv
  have hts := atoms_spec (ws := Cond.code yX12_same cX12_same 7 (some .int) :: rf_bw) B.pre
  have hB : rf_B v p s m _ meth c cX12_same 7 (some .int) := ⟨B.exec, B.bytes, B.returns, hml, findClass_of_methodNamed B.named, fun w h => hts w (List.mem_cons_of_mem _ h), B.notSynchronized, hK, hD⟩
  have hl := lv_entry ([.ref (rf_h v), .int (rI x1), .int (rI x2)]) (n := 7) (Nat.le_of_ble_eq_true rfl)
  rw [lg_entry_eq]
  generalize (lg_sl ([.ref (rf_h v), .int (rI x1), .int (rI x2)]) ++ List.replicate (7 - (lg_sl ([.ref (rf_h v), .int (rI x1), .int (rI x2)])).length) Slot.unset).toArray = ls at hl ⊢
  exact ps_same_0 hR hB σ x1 x2 ix1 ix2 hf _ _ _ ⟨hM, rfl, fun _ _ => rfl, fun q h => by cases h⟩ (lv_sub hl [0, 1, 2] rfl)

set_option maxHeartbeats 4000000 in
set_option maxRecDepth 100000 in
theorem ps_mark_0 {v : rfE} {p : Program} {l : Launch} {e : Env} {s : State} {m : MethodId} {args : Array Value} {below : List Frame} {meth : Method} {c : Code} {d : Nat} {rec : Nat → RS → List Int → Option (RS × Int)} {σ' : RS} {r : Int} (hR : rf_Rec l v d rec) (B : rf_B v p s m args meth c cX12_mark 1 (some .int)) : ∀ (σ : RS), pf_mark_0 rec σ = some (σ', r) → ∀ (H : Heap) (locs : List Loc) (ls : Array Slot), rf_W v s σ H locs → lv_has ls 1 [(0, .ref (rf_h v))] → W p l e (rf_rm (d + 1)) s m args below meth c H locs 0 0 (MQ below (rf_Q v σ' (some (.int (rI r)))) args s 0 0 (rf_F v)) (F0 m 0 ls []) := by
  obtain ⟨hx, hb, hr, hml, hown, hts, hlk, hK, hD⟩ := id B
  intro σ hf H locs ls hw hl
  unfold pf_mark_0 at hf
  refine lv_aload_n hx hb dX12_mark_0 rfl (lv_at hl 0 rfl) ?_
  refine lv_iconst (v := rI 0) hx hb dX12_mark_1 rfl ?_
  obtain ⟨σ1, eσ1, hf⟩ := rf_pi_s hf
  refine rf_put B hw 1 (by decide) rfl rfl lk_147 ⟨by decide, by decide⟩ eσ1 rfl rfl dX12_mark_2 (fun H locs hw => ?_)
  refine lv_aload_n hx hb dX12_mark_5 rfl (lv_at hl 0 rfl) ?_
  obtain ⟨z2, ez2, iz2, hf⟩ := rf_gi_s hw hf
  refine rf_geti B hw 29 (by decide) rfl lk_170 ez2 dX12_mark_6 ?_
  refine lv_bipush (v := rI 20) hx hb dX12_mark_9 (by decide +kernel) ?_
  refine rn_icmp_ne (a := z2) (b := 20) (tgt := 20) hx hb iz2 ⟨by decide, by decide⟩ dX12_mark_11 (by decide) (fun c3 => ?_) (fun c3 => ?_)
  · replace hf := rf_if_t hf c3
    refine lv_aload_n hx hb dX12_mark_20 rfl (lv_at hl 0 rfl) ?_
    refine rf_get (val := .ref (rf_ad v 28)) B hw 28 (by decide) lk_72 rfl dX12_mark_21 ?_
    refine lv_aload_n hx hb dX12_mark_24 rfl (lv_at hl 0 rfl) ?_
    obtain ⟨z4, ez4, iz4, hf⟩ := rf_gi_s hw hf
    refine rf_geti B hw 29 (by decide) rfl lk_170 ez4 dX12_mark_25 ?_
    refine lv_aload_n hx hb dX12_mark_28 rfl (lv_at hl 0 rfl) ?_
    obtain ⟨z5, ez5, iz5, hf⟩ := rf_gi_s hw hf
    refine rf_geti B hw 27 (by decide) rfl lk_167 ez5 dX12_mark_29 ?_
    obtain ⟨σ6, eσ6, rσ6, hf⟩ := rf_wr_s hf
    refine rf_ast B hw iz4 iz5 rσ6 eσ6 dX12_mark_32 (fun H locs hw => ?_)
    refine lv_aload_n hx hb dX12_mark_33 rfl (lv_at hl 0 rfl) ?_
    refine lv_dup hx hb dX12_mark_34 rfl ?_
    obtain ⟨z7, ez7, iz7, hf⟩ := rf_gi_s hw hf
    refine rf_geti B hw 29 (by decide) rfl lk_170 ez7 dX12_mark_35 ?_
    refine lv_iconst (v := rI 1) hx hb dX12_mark_38 rfl ?_
    obtain ⟨z8, ez8, iz8, hf⟩ := rf_ck_s hf
    refine rn_add hx hb ez8 dX12_mark_39 ?_
    obtain ⟨σ9, eσ9, hf⟩ := rf_pi_s hf
    refine rf_put B hw 29 (by decide) rfl rfl lk_170 iz8 eσ9 rfl rfl dX12_mark_40 (fun H locs hw => ?_)
    refine lv_aload_n hx hb dX12_mark_43 rfl (lv_at hl 0 rfl) ?_
    obtain ⟨z10, ez10, iz10, hf⟩ := rf_gi_s hw hf
    refine rf_geti B hw 29 (by decide) rfl lk_170 ez10 dX12_mark_44 ?_
    exact rf_reti B hf hw dX12_mark_47
  · replace hf := rf_if_f hf c3
    refine lv_aload_n hx hb dX12_mark_14 rfl (lv_at hl 0 rfl) ?_
    refine lv_iconst (v := rI 1) hx hb dX12_mark_15 rfl ?_
    obtain ⟨σ11, z12, hσ11, hf⟩ := rf_cl_s hf
    obtain ⟨iz12, mσ11⟩ := hR 2 σ1 [1] σ11 z12 hσ11
    have mσ11 : rf_Met l v yX12_fail cX12_fail 2 (some .int) d [.ref (rf_h v), .int (rI 1)] σ1 σ11 (some (.int (rI z12))) := mσ11 ⟨by decide, by decide⟩
    refine rf_cv (n := 1) (rest := []) (As := [.int (rI 1)]) B mσ11 g_468_fail (by decide +kernel) (by decide) rfl hl.1 (Nat.le_of_ble_eq_true rfl) dX12_mark_16 rfl hw (fun H locs hw => ?_)
    exact rf_reti B hf hw dX12_mark_19

set_option maxHeartbeats 4000000 in
set_option maxRecDepth 100000 in
theorem pm_mark {v : rfE} (hD : rf_D v) {l : Launch} {d : Nat} {rec : Nat → RS → List Int → Option (RS × Int)} (hR : rf_Rec l v d rec) (σ σ' : RS) (r : Int) (hf : pf_mark_0 rec σ = some (σ', r)) : rf_Met l v yX12_mark cX12_mark 1 (some .int) (d + 1) [.ref (rf_h v)] σ σ' (some (.int (rI r))) := by
  refine Met.ofW (cc := cX12_mark) (maxL := 1) (ret := (some .int)) (by decide +kernel) rfl ?_
  intro p e s m args below meth c s₁ B hml hv
  obtain ⟨rfl, hM, hK⟩ := hv
  have hts := atoms_spec (ws := Cond.code yX12_mark cX12_mark 1 (some .int) :: rf_bw) B.pre
  have hB : rf_B v p s m _ meth c cX12_mark 1 (some .int) := ⟨B.exec, B.bytes, B.returns, hml, findClass_of_methodNamed B.named, fun w h => hts w (List.mem_cons_of_mem _ h), B.notSynchronized, hK, hD⟩
  have hl := lv_entry ([.ref (rf_h v)]) (n := 1) (Nat.le_of_ble_eq_true rfl)
  rw [lg_entry_eq]
  generalize (lg_sl ([.ref (rf_h v)]) ++ List.replicate (1 - (lg_sl ([.ref (rf_h v)])).length) Slot.unset).toArray = ls at hl ⊢
  exact ps_mark_0 hR hB σ hf _ _ _ ⟨hM, rfl, fun _ _ => rfl, fun q h => by cases h⟩ (lv_sub hl [0] rfl)

set_option maxHeartbeats 4000000 in
set_option maxRecDepth 100000 in
theorem ps_back_0 {v : rfE} {p : Program} {l : Launch} {e : Env} {s : State} {m : MethodId} {args : Array Value} {below : List Frame} {meth : Method} {c : Code} {d : Nat} {rec : Nat → RS → List Int → Option (RS × Int)} {σ' : RS} {r : Int} (hR : rf_Rec l v d rec) (B : rf_B v p s m args meth c cX12_back 1 (some .int)) : ∀ (σ : RS), pf_back_0 rec σ = some (σ', r) → ∀ (H : Heap) (locs : List Loc) (ls : Array Slot), rf_W v s σ H locs → lv_has ls 1 [(0, .ref (rf_h v))] → W p l e (rf_rm (d + 1)) s m args below meth c H locs 0 0 (MQ below (rf_Q v σ' (some (.int (rI r)))) args s 0 0 (rf_F v)) (F0 m 0 ls []) := by
  obtain ⟨hx, hb, hr, hml, hown, hts, hlk, hK, hD⟩ := id B
  intro σ hf H locs ls hw hl
  unfold pf_back_0 at hf
  refine lv_aload_n hx hb dX12_back_0 rfl (lv_at hl 0 rfl) ?_
  refine lv_iconst (v := rI 0) hx hb dX12_back_1 rfl ?_
  obtain ⟨σ1, eσ1, hf⟩ := rf_pi_s hf
  refine rf_put B hw 1 (by decide) rfl rfl lk_147 ⟨by decide, by decide⟩ eσ1 rfl rfl dX12_back_2 (fun H locs hw => ?_)
  refine lv_aload_n hx hb dX12_back_5 rfl (lv_at hl 0 rfl) ?_
  obtain ⟨z2, ez2, iz2, hf⟩ := rf_gi_s hw hf
  refine rf_geti B hw 29 (by decide) rfl lk_170 ez2 dX12_back_6 ?_
  refine rn_if_ne (a := z2) (tgt := 18) hx hb iz2 dX12_back_9 (by decide) (fun c3 => ?_) (fun c3 => ?_)
  · replace hf := rf_if_t hf c3
    refine lv_aload_n hx hb dX12_back_18 rfl (lv_at hl 0 rfl) ?_
    refine lv_dup hx hb dX12_back_19 rfl ?_
    obtain ⟨z4, ez4, iz4, hf⟩ := rf_gi_s hw hf
    refine rf_geti B hw 29 (by decide) rfl lk_170 ez4 dX12_back_20 ?_
    refine lv_iconst (v := rI 1) hx hb dX12_back_23 rfl ?_
    obtain ⟨z5, ez5, iz5, hf⟩ := rf_ck_s hf
    refine rn_sub hx hb ez5 dX12_back_24 ?_
    obtain ⟨σ6, eσ6, hf⟩ := rf_pi_s hf
    refine rf_put B hw 29 (by decide) rfl rfl lk_170 iz5 eσ6 rfl rfl dX12_back_25 (fun H locs hw => ?_)
    refine lv_aload_n hx hb dX12_back_28 rfl (lv_at hl 0 rfl) ?_
    refine lv_aload_n hx hb dX12_back_29 rfl (lv_at hl 0 rfl) ?_
    refine rf_get (val := .ref (rf_ad v 28)) B hw 28 (by decide) lk_72 rfl dX12_back_30 ?_
    refine lv_aload_n hx hb dX12_back_33 rfl (lv_at hl 0 rfl) ?_
    obtain ⟨z7, ez7, iz7, hf⟩ := rf_gi_s hw hf
    refine rf_geti B hw 29 (by decide) rfl lk_170 ez7 dX12_back_34 ?_
    obtain ⟨z8, ez8, iz8, rz8, hf⟩ := rf_rd_s hw hf
    refine rf_ald B hw iz7 rz8 ez8 dX12_back_37 ?_
    obtain ⟨σ9, eσ9, hf⟩ := rf_pi_s hf
    refine rf_put B hw 27 (by decide) rfl rfl lk_167 iz8 eσ9 rfl rfl dX12_back_38 (fun H locs hw => ?_)
    refine lv_aload_n hx hb dX12_back_41 rfl (lv_at hl 0 rfl) ?_
    refine lv_aload_n hx hb dX12_back_42 rfl (lv_at hl 0 rfl) ?_
    obtain ⟨z10, ez10, iz10, hf⟩ := rf_gi_s hw hf
    refine rf_geti B hw 27 (by decide) rfl lk_167 ez10 dX12_back_43 ?_
    refine rn_if_ne (a := z10) (tgt := 54) hx hb iz10 dX12_back_46 (by decide) (fun c11 => ?_) (fun c11 => ?_)
    · replace hf := rf_if_t hf c11
      refine lv_aload_n hx hb dX12_back_54 rfl (lv_at hl 0 rfl) ?_
      refine rf_get (val := .ref (rf_ad v 26)) B hw 26 (by decide) lk_69 rfl dX12_back_55 ?_
      refine lv_aload_n hx hb dX12_back_58 rfl (lv_at hl 0 rfl) ?_
      obtain ⟨z12, ez12, iz12, hf⟩ := rf_gi_s hw hf
      refine rf_geti B hw 27 (by decide) rfl lk_167 ez12 dX12_back_59 ?_
      refine lv_iconst (v := rI 1) hx hb dX12_back_62 rfl ?_
      obtain ⟨z13, ez13, iz13, hf⟩ := rf_ck_s hf
      refine rn_sub hx hb ez13 dX12_back_63 ?_
      obtain ⟨z14, ez14, iz14, rz14, hf⟩ := rf_rd_s hw hf
      refine rf_ald B hw iz13 rz14 ez14 dX12_back_64 ?_
      obtain ⟨σ15, eσ15, hf⟩ := rf_pi_s hf
      refine rf_put B hw 39 (by decide) rfl rfl lk_173 iz14 eσ15 rfl rfl dX12_back_65 (fun H locs hw => ?_)
      refine lv_aload_n hx hb dX12_back_68 rfl (lv_at hl 0 rfl) ?_
      obtain ⟨z16, ez16, iz16, hf⟩ := rf_gi_s hw hf
      refine rf_geti B hw 27 (by decide) rfl lk_167 ez16 dX12_back_69 ?_
      exact rf_reti B hf hw dX12_back_72
    · replace hf := rf_if_f hf c11
      refine lv_bipush (v := rI 8) hx hb dX12_back_49 (by decide +kernel) ?_
      refine lv_goto (tgt := 65) hx hb dX12_back_51 (by decide) ?_
      obtain ⟨σ17, eσ17, hf⟩ := rf_pi_s hf
      refine rf_put B hw 39 (by decide) rfl rfl lk_173 ⟨by decide, by decide⟩ eσ17 rfl rfl dX12_back_65 (fun H locs hw => ?_)
      refine lv_aload_n hx hb dX12_back_68 rfl (lv_at hl 0 rfl) ?_
      obtain ⟨z18, ez18, iz18, hf⟩ := rf_gi_s hw hf
      refine rf_geti B hw 27 (by decide) rfl lk_167 ez18 dX12_back_69 ?_
      exact rf_reti B hf hw dX12_back_72
  · replace hf := rf_if_f hf c3
    refine lv_aload_n hx hb dX12_back_12 rfl (lv_at hl 0 rfl) ?_
    refine lv_iconst (v := rI 1) hx hb dX12_back_13 rfl ?_
    obtain ⟨σ19, z20, hσ19, hf⟩ := rf_cl_s hf
    obtain ⟨iz20, mσ19⟩ := hR 2 σ1 [1] σ19 z20 hσ19
    have mσ19 : rf_Met l v yX12_fail cX12_fail 2 (some .int) d [.ref (rf_h v), .int (rI 1)] σ1 σ19 (some (.int (rI z20))) := mσ19 ⟨by decide, by decide⟩
    refine rf_cv (n := 1) (rest := []) (As := [.int (rI 1)]) B mσ19 g_468_fail (by decide +kernel) (by decide) rfl hl.1 (Nat.le_of_ble_eq_true rfl) dX12_back_14 rfl hw (fun H locs hw => ?_)
    exact rf_reti B hf hw dX12_back_17

set_option maxHeartbeats 4000000 in
set_option maxRecDepth 100000 in
theorem pm_back {v : rfE} (hD : rf_D v) {l : Launch} {d : Nat} {rec : Nat → RS → List Int → Option (RS × Int)} (hR : rf_Rec l v d rec) (σ σ' : RS) (r : Int) (hf : pf_back_0 rec σ = some (σ', r)) : rf_Met l v yX12_back cX12_back 1 (some .int) (d + 1) [.ref (rf_h v)] σ σ' (some (.int (rI r))) := by
  refine Met.ofW (cc := cX12_back) (maxL := 1) (ret := (some .int)) (by decide +kernel) rfl ?_
  intro p e s m args below meth c s₁ B hml hv
  obtain ⟨rfl, hM, hK⟩ := hv
  have hts := atoms_spec (ws := Cond.code yX12_back cX12_back 1 (some .int) :: rf_bw) B.pre
  have hB : rf_B v p s m _ meth c cX12_back 1 (some .int) := ⟨B.exec, B.bytes, B.returns, hml, findClass_of_methodNamed B.named, fun w h => hts w (List.mem_cons_of_mem _ h), B.notSynchronized, hK, hD⟩
  have hl := lv_entry ([.ref (rf_h v)]) (n := 1) (Nat.le_of_ble_eq_true rfl)
  rw [lg_entry_eq]
  generalize (lg_sl ([.ref (rf_h v)]) ++ List.replicate (1 - (lg_sl ([.ref (rf_h v)])).length) Slot.unset).toArray = ls at hl ⊢
  exact ps_back_0 hR hB σ hf _ _ _ ⟨hM, rfl, fun _ _ => rfl, fun q h => by cases h⟩ (lv_sub hl [0] rfl)

