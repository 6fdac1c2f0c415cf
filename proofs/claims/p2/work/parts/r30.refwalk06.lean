set_option maxHeartbeats 4000000 in
set_option maxRecDepth 100000 in
theorem ps_tables_0 {v : rfE} {p : Program} {l : Launch} {e : Env} {s : State} {m : MethodId} {args : Array Value} {below : List Frame} {meth : Method} {c : Code} {d : Nat} {rec : Nat → RS → List Int → Option (RS × Int)} {σ' : RS} {r : Int} (hR : rf_Rec l v d rec) (B : rf_B v p s m args meth c cX12_tables 4 none) : ∀ (σ : RS), pf_tables_0 rec σ = some (σ', r) → ∀ (H : Heap) (locs : List Loc) (ls : Array Slot), rf_W v s σ H locs → lv_has ls 4 [(0, .ref (rf_h v))] → W p l e (rf_rm (d + 1)) s m args below meth c H locs 0 0 (MQ below (rf_Q v σ' none) args s 0 0 (rf_F v)) (F0 m 0 ls []) := by
  obtain ⟨hx, hb, hr, hml, hown, hts, hlk, hK, hD⟩ := id B
  intro σ hf H locs ls hw hl
  unfold pf_tables_0 at hf
  refine lv_aload_n hx hb dX12_tables_0 rfl (lv_at hl 0 rfl) ?_
  obtain ⟨z1, ez1, iz1, hf⟩ := rf_gi_s hw hf
  refine rf_geti B hw 27 (by decide) rfl lk_167 ez1 dX12_tables_1 ?_
  refine rn_if_le (a := z1) (tgt := 18) hx hb iz1 dX12_tables_4 (by decide) (fun c2 => ?_) (fun c2 => ?_)
  · replace hf := rf_if_t hf c2
    refine lv_aload_n hx hb dX12_tables_18 rfl (lv_at hl 0 rfl) ?_
    refine lv_aload_n hx hb dX12_tables_19 rfl (lv_at hl 0 rfl) ?_
    obtain ⟨z3, ez3, iz3, hf⟩ := rf_gi_s hw hf
    refine rf_geti B hw 80 (by decide) rfl lk_290 ez3 dX12_tables_20 ?_
    obtain ⟨σ4, z5, hσ4, hf⟩ := rf_cl_s hf
    obtain ⟨iz5, mσ4⟩ := hR 43 σ [z3] σ4 z5 hσ4
    have mσ4 : rf_Met l v yX12_sortOf cX12_sortOf 4 (some .int) d [.ref (rf_h v), .int (rI z3)] σ σ4 (some (.int (rI z5))) := mσ4 iz3
    refine rf_cv (n := 1) (rest := []) (As := [.int (rI z3)]) B mσ4 g_418_sortOf (by decide +kernel) (by decide) rfl hl.1 (Nat.le_of_ble_eq_true rfl) dX12_tables_23 rfl hw (fun H locs hw => ?_)
    refine lv_istore_n (lv' := [(1, .int (rI z5)), (0, .ref (rf_h v))]) hx hb dX12_tables_26 rfl hl (by decide) rfl (fun ls hl => ?_)
    refine lv_aload_n hx hb dX12_tables_27 rfl (lv_at hl 1 rfl) ?_
    obtain ⟨z6, ez6, iz6, hf⟩ := rf_gi_s hw hf
    refine rf_geti B hw 76 (by decide) rfl lk_278 ez6 dX12_tables_28 ?_
    refine rn_if_ne (a := z6) (tgt := 199) hx hb iz6 dX12_tables_31 (by decide) (fun c7 => ?_) (fun c7 => ?_)
    · replace hf := rf_if_t hf c7
      refine lv_iload_n hx hb dX12_tables_199 rfl (lv_at hl 0 rfl) ?_
      refine rn_if_ge (a := z5) (tgt := 217) hx hb iz5 dX12_tables_200 (by decide) (fun c8 => ?_) (fun c8 => ?_)
      · replace hf := rf_if_t hf c8
        exact ps_tables_217 hR B σ4 z5 iz5 hf _ _ _ hw (lv_sub hl [1, 0] rfl)
      · replace hf := rf_if_f hf c8
        refine lv_aload_n hx hb dX12_tables_203 rfl (lv_at hl 1 rfl) ?_
        refine lv_iconst (v := rI 3) hx hb dX12_tables_204 rfl ?_
        refine lv_aload_n hx hb dX12_tables_205 rfl (lv_at hl 1 rfl) ?_
        refine rf_get (val := .ref (rf_ad v 31)) B hw 31 (by decide) lk_79 rfl dX12_tables_206 ?_
        refine lv_aload_n hx hb dX12_tables_209 rfl (lv_at hl 1 rfl) ?_
        obtain ⟨z9, ez9, iz9, hf⟩ := rf_gi_s hw hf
        refine rf_geti B hw 80 (by decide) rfl lk_290 ez9 dX12_tables_210 ?_
        obtain ⟨z10, ez10, iz10, rz10, hf⟩ := rf_rd_s hw hf
        refine rf_ald B hw iz9 rz10 ez10 dX12_tables_213 ?_
        obtain ⟨σ11, z12, hσ11, hf⟩ := rf_cl_s hf
        obtain ⟨iz12, mσ11⟩ := hR 3 σ4 [3, z10] σ11 z12 hσ11
        have mσ11 : rf_Met l v yX12_wrong cX12_wrong 3 none d [.ref (rf_h v), .int (rI 3), .int (rI z10)] σ4 σ11 none := mσ11 ⟨by decide, by decide⟩ iz10
        refine rf_cv (n := 2) (rest := []) (As := [.int (rI 3), .int (rI z10)]) B mσ11 g_218_wrong (by decide +kernel) (by decide) rfl hl.1 (Nat.le_of_ble_eq_true rfl) dX12_tables_214 rfl hw (fun H locs hw => ?_)
        exact ps_tables_217 hR B σ11 z5 iz5 hf _ _ _ hw (lv_sub hl [1, 0] rfl)
    · replace hf := rf_if_f hf c7
      refine lv_iload_n hx hb dX12_tables_34 rfl (lv_at hl 0 rfl) ?_
      refine rn_if_lt (a := z5) (tgt := 55) hx hb iz5 dX12_tables_35 (by decide) (fun c13 => ?_) (fun c13 => ?_)
      · replace hf := rf_if_t hf c13
        refine lv_aload_n hx hb dX12_tables_55 rfl (lv_at hl 1 rfl) ?_
        obtain ⟨z14, ez14, iz14, hf⟩ := rf_gi_s hw hf
        refine rf_geti B hw 20 (by decide) rfl lk_160 ez14 dX12_tables_56 ?_
        refine lv_bipush (v := rI 8) hx hb dX12_tables_59 (by decide +kernel) ?_
        refine rn_icmp_ne (a := z14) (b := 8) (tgt := 78) hx hb iz14 ⟨by decide, by decide⟩ dX12_tables_61 (by decide) (fun c15 => ?_) (fun c15 => ?_)
        · replace hf := rf_if_t hf c15
          exact ps_tables_78 hR B σ4 hf _ _ _ hw (lv_sub hl [1] rfl)
        · replace hf := rf_if_f hf c15
          refine lv_aload_n hx hb dX12_tables_64 rfl (lv_at hl 1 rfl) ?_
          refine lv_iconst (v := rI 5) hx hb dX12_tables_65 rfl ?_
          refine lv_aload_n hx hb dX12_tables_66 rfl (lv_at hl 1 rfl) ?_
          refine rf_get (val := .ref (rf_ad v 31)) B hw 31 (by decide) lk_79 rfl dX12_tables_67 ?_
          refine lv_aload_n hx hb dX12_tables_70 rfl (lv_at hl 1 rfl) ?_
          obtain ⟨z16, ez16, iz16, hf⟩ := rf_gi_s hw hf
          refine rf_geti B hw 80 (by decide) rfl lk_290 ez16 dX12_tables_71 ?_
          obtain ⟨z17, ez17, iz17, rz17, hf⟩ := rf_rd_s hw hf
          refine rf_ald B hw iz16 rz17 ez17 dX12_tables_74 ?_
          obtain ⟨σ18, z19, hσ18, hf⟩ := rf_cl_s hf
          obtain ⟨iz19, mσ18⟩ := hR 3 σ4 [5, z17] σ18 z19 hσ18
          have mσ18 : rf_Met l v yX12_wrong cX12_wrong 3 none d [.ref (rf_h v), .int (rI 5), .int (rI z17)] σ4 σ18 none := mσ18 ⟨by decide, by decide⟩ iz17
          refine rf_cv (n := 2) (rest := []) (As := [.int (rI 5), .int (rI z17)]) B mσ18 g_218_wrong (by decide +kernel) (by decide) rfl hl.1 (Nat.le_of_ble_eq_true rfl) dX12_tables_75 rfl hw (fun H locs hw => ?_)
          exact ps_tables_78 hR B σ18 hf _ _ _ hw (lv_sub hl [1] rfl)
      · replace hf := rf_if_f hf c13
        refine lv_aload_n hx hb dX12_tables_38 rfl (lv_at hl 1 rfl) ?_
        refine lv_iconst (v := rI 4) hx hb dX12_tables_39 rfl ?_
        refine lv_aload_n hx hb dX12_tables_40 rfl (lv_at hl 1 rfl) ?_
        refine rf_get (val := .ref (rf_ad v 31)) B hw 31 (by decide) lk_79 rfl dX12_tables_41 ?_
        refine lv_aload_n hx hb dX12_tables_44 rfl (lv_at hl 1 rfl) ?_
        obtain ⟨z20, ez20, iz20, hf⟩ := rf_gi_s hw hf
        refine rf_geti B hw 80 (by decide) rfl lk_290 ez20 dX12_tables_45 ?_
        obtain ⟨z21, ez21, iz21, rz21, hf⟩ := rf_rd_s hw hf
        refine rf_ald B hw iz20 rz21 ez21 dX12_tables_48 ?_
        obtain ⟨σ22, z23, hσ22, hf⟩ := rf_cl_s hf
        obtain ⟨iz23, mσ22⟩ := hR 3 σ4 [4, z21] σ22 z23 hσ22
        have mσ22 : rf_Met l v yX12_wrong cX12_wrong 3 none d [.ref (rf_h v), .int (rI 4), .int (rI z21)] σ4 σ22 none := mσ22 ⟨by decide, by decide⟩ iz21
        refine rf_cv (n := 2) (rest := []) (As := [.int (rI 4), .int (rI z21)]) B mσ22 g_218_wrong (by decide +kernel) (by decide) rfl hl.1 (Nat.le_of_ble_eq_true rfl) dX12_tables_49 rfl hw (fun H locs hw => ?_)
        refine lv_goto (tgt := 78) hx hb dX12_tables_52 (by decide) ?_
        exact ps_tables_78 hR B σ22 hf _ _ _ hw (lv_sub hl [1] rfl)
  · replace hf := rf_if_f hf c2
    refine lv_aload_n hx hb dX12_tables_7 rfl (lv_at hl 0 rfl) ?_
    refine lv_bipush (v := rI 6) hx hb dX12_tables_8 (by decide +kernel) ?_
    refine lv_aload_n hx hb dX12_tables_10 rfl (lv_at hl 0 rfl) ?_
    obtain ⟨z24, ez24, iz24, hf⟩ := rf_gi_s hw hf
    refine rf_geti B hw 77 (by decide) rfl lk_275 ez24 dX12_tables_11 ?_
    obtain ⟨σ25, z26, hσ25, hf⟩ := rf_cl_s hf
    obtain ⟨iz26, mσ25⟩ := hR 3 σ [6, z24] σ25 z26 hσ25
    have mσ25 : rf_Met l v yX12_wrong cX12_wrong 3 none d [.ref (rf_h v), .int (rI 6), .int (rI z24)] σ σ25 none := mσ25 ⟨by decide, by decide⟩ iz24
    refine rf_cv (n := 2) (rest := []) (As := [.int (rI 6), .int (rI z24)]) B mσ25 g_218_wrong (by decide +kernel) (by decide) rfl hl.1 (Nat.le_of_ble_eq_true rfl) dX12_tables_14 rfl hw (fun H locs hw => ?_)
    exact rf_retv B hf hw dX12_tables_17

set_option maxHeartbeats 4000000 in
set_option maxRecDepth 100000 in
theorem pm_tables {v : rfE} (hD : rf_D v) {l : Launch} {d : Nat} {rec : Nat → RS → List Int → Option (RS × Int)} (hR : rf_Rec l v d rec) (σ σ' : RS) (r : Int) (hf : pf_tables_0 rec σ = some (σ', r)) : rf_Met l v yX12_tables cX12_tables 4 none (d + 1) [.ref (rf_h v)] σ σ' none := by
  refine Met.ofW (cc := cX12_tables) (maxL := 4) (ret := none) (by decide +kernel) rfl ?_
  intro p e s m args below meth c s₁ B hml hv
  obtain ⟨rfl, hM, hK⟩ := hv
  have hts := atoms_spec (ws := Cond.code yX12_tables cX12_tables 4 none :: rf_bw) B.pre
  have hB : rf_B v p s m _ meth c cX12_tables 4 none := ⟨B.exec, B.bytes, B.returns, hml, findClass_of_methodNamed B.named, fun w h => hts w (List.mem_cons_of_mem _ h), B.notSynchronized, hK, hD⟩
  have hl := lv_entry ([.ref (rf_h v)]) (n := 4) (Nat.le_of_ble_eq_true rfl)
  rw [lg_entry_eq]
  generalize (lg_sl ([.ref (rf_h v)]) ++ List.replicate (4 - (lg_sl ([.ref (rf_h v)])).length) Slot.unset).toArray = ls at hl ⊢
  exact ps_tables_0 hR hB σ hf _ _ _ ⟨hM, rfl, fun _ _ => rfl, fun q h => by cases h⟩ (lv_sub hl [0] rfl)

set_option maxHeartbeats 4000000 in
set_option maxRecDepth 100000 in
theorem ps_yes_37 {v : rfE} {p : Program} {l : Launch} {e : Env} {s : State} {m : MethodId} {args : Array Value} {below : List Frame} {meth : Method} {c : Code} {d : Nat} {rec : Nat → RS → List Int → Option (RS × Int)} {σ' : RS} {r : Int} (hR : rf_Rec l v d rec) (B : rf_B v p s m args meth c cX12_yes 2 none) : ∀ (σ : RS), pf_yes_37 rec σ = some (σ', r) → ∀ (H : Heap) (locs : List Loc) (ls : Array Slot), rf_W v s σ H locs → lv_has ls 2 [(0, .ref (rf_h v))] → W p l e (rf_rm (d + 1)) s m args below meth c H locs 0 0 (MQ below (rf_Q v σ' none) args s 0 0 (rf_F v)) (F0 m 37 ls []) := by
  obtain ⟨hx, hb, hr, hml, hown, hts, hlk, hK, hD⟩ := id B
  intro σ hf H locs ls hw hl
  unfold pf_yes_37 at hf
  refine lv_aload_n hx hb dX12_yes_37 rfl (lv_at hl 0 rfl) ?_
  refine lv_bipush (v := rI 10) hx hb dX12_yes_38 (by decide +kernel) ?_
  obtain ⟨σ1, z2, hσ1, hf⟩ := rf_cl_s hf
  obtain ⟨iz2, mσ1⟩ := hR 37 σ [10] σ1 z2 hσ1
  have mσ1 : rf_Met l v yX12_put cX12_put 2 none d [.ref (rf_h v), .int (rI 10)] σ σ1 none := mσ1 ⟨by decide, by decide⟩
  refine rf_cv (n := 1) (rest := []) (As := [.int (rI 10)]) B mσ1 g_384_put (by decide +kernel) (by decide) rfl hl.1 (Nat.le_of_ble_eq_true rfl) dX12_yes_40 rfl hw (fun H locs hw => ?_)
  exact rf_retv B hf hw dX12_yes_43

set_option maxHeartbeats 4000000 in
set_option maxRecDepth 100000 in
theorem ps_yes_0 {v : rfE} {p : Program} {l : Launch} {e : Env} {s : State} {m : MethodId} {args : Array Value} {below : List Frame} {meth : Method} {c : Code} {d : Nat} {rec : Nat → RS → List Int → Option (RS × Int)} {σ' : RS} {r : Int} (hR : rf_Rec l v d rec) (B : rf_B v p s m args meth c cX12_yes 2 none) : ∀ (σ : RS) (x1 : Int), inR x1 → pf_yes_0 rec σ x1 = some (σ', r) → ∀ (H : Heap) (locs : List Loc) (ls : Array Slot), rf_W v s σ H locs → lv_has ls 2 [(0, .ref (rf_h v)), (1, .int (rI x1))] → W p l e (rf_rm (d + 1)) s m args below meth c H locs 0 0 (MQ below (rf_Q v σ' none) args s 0 0 (rf_F v)) (F0 m 0 ls []) := by
  obtain ⟨hx, hb, hr, hml, hown, hts, hlk, hK, hD⟩ := id B
  intro σ x1 ix1 hf H locs ls hw hl
  unfold pf_yes_0 at hf
  refine lv_iload_n hx hb dX12_yes_0 rfl (lv_at hl 1 rfl) ?_
  refine rn_if_eq (a := x1) (tgt := 25) hx hb ix1 dX12_yes_1 (by decide) (fun c1 => ?_) (fun c1 => ?_)
  · replace hf := rf_if_t hf c1
    refine lv_aload_n hx hb dX12_yes_25 rfl (lv_at hl 0 rfl) ?_
    refine lv_bipush (v := rI 110) hx hb dX12_yes_26 (by decide +kernel) ?_
    obtain ⟨σ2, z3, hσ2, hf⟩ := rf_cl_s hf
    obtain ⟨iz3, mσ2⟩ := hR 37 σ [110] σ2 z3 hσ2
    have mσ2 : rf_Met l v yX12_put cX12_put 2 none d [.ref (rf_h v), .int (rI 110)] σ σ2 none := mσ2 ⟨by decide, by decide⟩
    refine rf_cv (n := 1) (rest := []) (As := [.int (rI 110)]) B mσ2 g_384_put (by decide +kernel) (by decide) rfl hl.1 (Nat.le_of_ble_eq_true rfl) dX12_yes_28 rfl hw (fun H locs hw => ?_)
    refine lv_aload_n hx hb dX12_yes_31 rfl (lv_at hl 0 rfl) ?_
    refine lv_bipush (v := rI 111) hx hb dX12_yes_32 (by decide +kernel) ?_
    obtain ⟨σ4, z5, hσ4, hf⟩ := rf_cl_s hf
    obtain ⟨iz5, mσ4⟩ := hR 37 σ2 [111] σ4 z5 hσ4
    have mσ4 : rf_Met l v yX12_put cX12_put 2 none d [.ref (rf_h v), .int (rI 111)] σ2 σ4 none := mσ4 ⟨by decide, by decide⟩
    refine rf_cv (n := 1) (rest := []) (As := [.int (rI 111)]) B mσ4 g_384_put (by decide +kernel) (by decide) rfl hl.1 (Nat.le_of_ble_eq_true rfl) dX12_yes_34 rfl hw (fun H locs hw => ?_)
    exact ps_yes_37 hR B σ4 hf _ _ _ hw (lv_sub hl [0] rfl)
  · replace hf := rf_if_f hf c1
    refine lv_aload_n hx hb dX12_yes_4 rfl (lv_at hl 0 rfl) ?_
    refine lv_bipush (v := rI 121) hx hb dX12_yes_5 (by decide +kernel) ?_
    obtain ⟨σ6, z7, hσ6, hf⟩ := rf_cl_s hf
    obtain ⟨iz7, mσ6⟩ := hR 37 σ [121] σ6 z7 hσ6
    have mσ6 : rf_Met l v yX12_put cX12_put 2 none d [.ref (rf_h v), .int (rI 121)] σ σ6 none := mσ6 ⟨by decide, by decide⟩
    refine rf_cv (n := 1) (rest := []) (As := [.int (rI 121)]) B mσ6 g_384_put (by decide +kernel) (by decide) rfl hl.1 (Nat.le_of_ble_eq_true rfl) dX12_yes_7 rfl hw (fun H locs hw => ?_)
    refine lv_aload_n hx hb dX12_yes_10 rfl (lv_at hl 0 rfl) ?_
    refine lv_bipush (v := rI 101) hx hb dX12_yes_11 (by decide +kernel) ?_
    obtain ⟨σ8, z9, hσ8, hf⟩ := rf_cl_s hf
    obtain ⟨iz9, mσ8⟩ := hR 37 σ6 [101] σ8 z9 hσ8
    have mσ8 : rf_Met l v yX12_put cX12_put 2 none d [.ref (rf_h v), .int (rI 101)] σ6 σ8 none := mσ8 ⟨by decide, by decide⟩
    refine rf_cv (n := 1) (rest := []) (As := [.int (rI 101)]) B mσ8 g_384_put (by decide +kernel) (by decide) rfl hl.1 (Nat.le_of_ble_eq_true rfl) dX12_yes_13 rfl hw (fun H locs hw => ?_)
    refine lv_aload_n hx hb dX12_yes_16 rfl (lv_at hl 0 rfl) ?_
    refine lv_bipush (v := rI 115) hx hb dX12_yes_17 (by decide +kernel) ?_
    obtain ⟨σ10, z11, hσ10, hf⟩ := rf_cl_s hf
    obtain ⟨iz11, mσ10⟩ := hR 37 σ8 [115] σ10 z11 hσ10
    have mσ10 : rf_Met l v yX12_put cX12_put 2 none d [.ref (rf_h v), .int (rI 115)] σ8 σ10 none := mσ10 ⟨by decide, by decide⟩
    refine rf_cv (n := 1) (rest := []) (As := [.int (rI 115)]) B mσ10 g_384_put (by decide +kernel) (by decide) rfl hl.1 (Nat.le_of_ble_eq_true rfl) dX12_yes_19 rfl hw (fun H locs hw => ?_)
    refine lv_goto (tgt := 37) hx hb dX12_yes_22 (by decide) ?_
    exact ps_yes_37 hR B σ10 hf _ _ _ hw (lv_sub hl [0] rfl)

set_option maxHeartbeats 4000000 in
set_option maxRecDepth 100000 in
theorem pm_yes {v : rfE} (hD : rf_D v) {l : Launch} {d : Nat} {rec : Nat → RS → List Int → Option (RS × Int)} (hR : rf_Rec l v d rec) (σ σ' : RS) (x1 r : Int) (ix1 : inR x1) (hf : pf_yes_0 rec σ x1 = some (σ', r)) : rf_Met l v yX12_yes cX12_yes 2 none (d + 1) [.ref (rf_h v), .int (rI x1)] σ σ' none := by
  refine Met.ofW (cc := cX12_yes) (maxL := 2) (ret := none) (by decide +kernel) rfl ?_
  intro p e s m args below meth c s₁ B hml hv
  obtain ⟨rfl, hM, hK⟩ := hv
  have hts := atoms_spec (ws := Cond.code yX12_yes cX12_yes 2 none :: rf_bw) B.pre
  have hB : rf_B v p s m _ meth c cX12_yes 2 none := ⟨B.exec, B.bytes, B.returns, hml, findClass_of_methodNamed B.named, fun w h => hts w (List.mem_cons_of_mem _ h), B.notSynchronized, hK, hD⟩
  have hl := lv_entry ([.ref (rf_h v), .int (rI x1)]) (n := 2) (Nat.le_of_ble_eq_true rfl)
  rw [lg_entry_eq]
  generalize (lg_sl ([.ref (rf_h v), .int (rI x1)]) ++ List.replicate (2 - (lg_sl ([.ref (rf_h v), .int (rI x1)])).length) Slot.unset).toArray = ls at hl ⊢
  exact ps_yes_0 hR hB σ x1 ix1 hf _ _ _ ⟨hM, rfl, fun _ _ => rfl, fun q h => by cases h⟩ (lv_sub hl [0, 1] rfl)

set_option maxHeartbeats 4000000 in
set_option maxRecDepth 100000 in
theorem ps_told_198 {v : rfE} {p : Program} {l : Launch} {e : Env} {s : State} {m : MethodId} {args : Array Value} {below : List Frame} {meth : Method} {c : Code} {d : Nat} {rec : Nat → RS → List Int → Option (RS × Int)} {σ' : RS} {r : Int} (hR : rf_Rec l v d rec) (B : rf_B v p s m args meth c cX12_told 4 none) : ∀ (n : Nat) (σ : RS) (x3 : Int), inR x3 → pf_told_198 rec n σ x3 = some (σ', r) → ∀ (H : Heap) (locs : List Loc) (ls : Array Slot), rf_W v s σ H locs → lv_has ls 4 [(0, .ref (rf_h v)), (3, .int (rI x3))] → W p l e (rf_rm (d + 1)) s m args below meth c H locs 0 0 (MQ below (rf_Q v σ' none) args s 0 0 (rf_F v)) (F0 m 198 ls []) := by
  obtain ⟨hx, hb, hr, hml, hown, hts, hlk, hK, hD⟩ := id B
  intro n
  induction n with
  | zero => intro σ x3 ix3 hf; cases hf
  | succ n ih =>
    intro σ x3 ix3 hf H locs ls hw hl
    unfold pf_told_198 at hf
    refine lv_iload_n hx hb dX12_told_198 rfl (lv_at hl 1 rfl) ?_
    refine lv_aload_n hx hb dX12_told_199 rfl (lv_at hl 0 rfl) ?_
    refine rf_get (val := .ref (rf_ad v 32)) B hw 32 (by decide) lk_82 rfl dX12_told_200 ?_
    refine lv_aload_n hx hb dX12_told_203 rfl (lv_at hl 0 rfl) ?_
    obtain ⟨z1, ez1, iz1, hf⟩ := rf_gi_s hw hf
    refine rf_geti B hw 80 (by decide) rfl lk_290 ez1 dX12_told_204 ?_
    obtain ⟨z2, ez2, iz2, rz2, hf⟩ := rf_rd_s hw hf
    refine rf_ald B hw iz1 rz2 ez2 dX12_told_207 ?_
    refine rn_icmp_ge (a := x3) (b := z2) (tgt := 247) hx hb ix3 iz2 dX12_told_208 (by decide) (fun c3 => ?_) (fun c3 => ?_)
    · replace hf := rf_if_t hf c3
      refine lv_aload_n hx hb dX12_told_247 rfl (lv_at hl 0 rfl) ?_
      refine rf_get (val := .ref (rf_ad v 22)) B hw 22 (by decide) lk_57 rfl dX12_told_248 ?_
      refine lv_aload_n hx hb dX12_told_251 rfl (lv_at hl 0 rfl) ?_
      obtain ⟨z4, ez4, iz4, hf⟩ := rf_gi_s hw hf
      refine rf_geti B hw 27 (by decide) rfl lk_167 ez4 dX12_told_252 ?_
      refine lv_aload_n hx hb dX12_told_255 rfl (lv_at hl 0 rfl) ?_
      refine rf_get (val := .ref (rf_ad v 32)) B hw 32 (by decide) lk_82 rfl dX12_told_256 ?_
      refine lv_aload_n hx hb dX12_told_259 rfl (lv_at hl 0 rfl) ?_
      obtain ⟨z5, ez5, iz5, hf⟩ := rf_gi_s hw hf
      refine rf_geti B hw 80 (by decide) rfl lk_290 ez5 dX12_told_260 ?_
      obtain ⟨z6, ez6, iz6, rz6, hf⟩ := rf_rd_s hw hf
      refine rf_ald B hw iz5 rz6 ez6 dX12_told_263 ?_
      obtain ⟨σ7, eσ7, rσ7, hf⟩ := rf_wr_s hf
      refine rf_ast B hw iz4 iz6 rσ7 eσ7 dX12_told_264 (fun H locs hw => ?_)
      refine lv_aload_n hx hb dX12_told_265 rfl (lv_at hl 0 rfl) ?_
      refine rf_get (val := .ref (rf_ad v 23)) B hw 23 (by decide) lk_60 rfl dX12_told_266 ?_
      refine lv_aload_n hx hb dX12_told_269 rfl (lv_at hl 0 rfl) ?_
      obtain ⟨z8, ez8, iz8, hf⟩ := rf_gi_s hw hf
      refine rf_geti B hw 27 (by decide) rfl lk_167 ez8 dX12_told_270 ?_
      refine lv_aload_n hx hb dX12_told_273 rfl (lv_at hl 0 rfl) ?_
      obtain ⟨z9, ez9, iz9, hf⟩ := rf_gi_s hw hf
      refine rf_geti B hw 60 (by decide) rfl lk_403 ez9 dX12_told_274 ?_
      obtain ⟨σ10, eσ10, rσ10, hf⟩ := rf_wr_s hf
      refine rf_ast B hw iz8 iz9 rσ10 eσ10 dX12_told_277 (fun H locs hw => ?_)
      refine lv_aload_n hx hb dX12_told_278 rfl (lv_at hl 0 rfl) ?_
      refine rf_get (val := .ref (rf_ad v 24)) B hw 24 (by decide) lk_63 rfl dX12_told_279 ?_
      refine lv_aload_n hx hb dX12_told_282 rfl (lv_at hl 0 rfl) ?_
      obtain ⟨z11, ez11, iz11, hf⟩ := rf_gi_s hw hf
      refine rf_geti B hw 27 (by decide) rfl lk_167 ez11 dX12_told_283 ?_
      refine lv_aload_n hx hb dX12_told_286 rfl (lv_at hl 0 rfl) ?_
      obtain ⟨z12, ez12, iz12, hf⟩ := rf_gi_s hw hf
      refine rf_geti B hw 61 (by decide) rfl lk_406 ez12 dX12_told_287 ?_
      obtain ⟨σ13, eσ13, rσ13, hf⟩ := rf_wr_s hf
      refine rf_ast B hw iz11 iz12 rσ13 eσ13 dX12_told_290 (fun H locs hw => ?_)
      refine lv_aload_n hx hb dX12_told_291 rfl (lv_at hl 0 rfl) ?_
      refine rf_get (val := .ref (rf_ad v 25)) B hw 25 (by decide) lk_66 rfl dX12_told_292 ?_
      refine lv_aload_n hx hb dX12_told_295 rfl (lv_at hl 0 rfl) ?_
      obtain ⟨z14, ez14, iz14, hf⟩ := rf_gi_s hw hf
      refine rf_geti B hw 27 (by decide) rfl lk_167 ez14 dX12_told_296 ?_
      refine lv_aload_n hx hb dX12_told_299 rfl (lv_at hl 0 rfl) ?_
      obtain ⟨z15, ez15, iz15, hf⟩ := rf_gi_s hw hf
      refine rf_geti B hw 78 (by decide) rfl lk_281 ez15 dX12_told_300 ?_
      obtain ⟨σ16, eσ16, rσ16, hf⟩ := rf_wr_s hf
      refine rf_ast B hw iz14 iz15 rσ16 eσ16 dX12_told_303 (fun H locs hw => ?_)
      refine lv_aload_n hx hb dX12_told_304 rfl (lv_at hl 0 rfl) ?_
      refine rf_get (val := .ref (rf_ad v 26)) B hw 26 (by decide) lk_69 rfl dX12_told_305 ?_
      refine lv_aload_n hx hb dX12_told_308 rfl (lv_at hl 0 rfl) ?_
      obtain ⟨z17, ez17, iz17, hf⟩ := rf_gi_s hw hf
      refine rf_geti B hw 27 (by decide) rfl lk_167 ez17 dX12_told_309 ?_
      refine lv_aload_n hx hb dX12_told_312 rfl (lv_at hl 0 rfl) ?_
      obtain ⟨z18, ez18, iz18, hf⟩ := rf_gi_s hw hf
      refine rf_geti B hw 39 (by decide) rfl lk_173 ez18 dX12_told_313 ?_
      obtain ⟨σ19, eσ19, rσ19, hf⟩ := rf_wr_s hf
      refine rf_ast B hw iz17 iz18 rσ19 eσ19 dX12_told_316 (fun H locs hw => ?_)
      refine lv_aload_n hx hb dX12_told_317 rfl (lv_at hl 0 rfl) ?_
      refine lv_dup hx hb dX12_told_318 rfl ?_
      obtain ⟨z20, ez20, iz20, hf⟩ := rf_gi_s hw hf
      refine rf_geti B hw 27 (by decide) rfl lk_167 ez20 dX12_told_319 ?_
      refine lv_iconst (v := rI 1) hx hb dX12_told_322 rfl ?_
      obtain ⟨z21, ez21, iz21, hf⟩ := rf_ck_s hf
      refine rn_add hx hb ez21 dX12_told_323 ?_
      obtain ⟨σ22, eσ22, hf⟩ := rf_pi_s hf
      refine rf_put B hw 27 (by decide) rfl rfl lk_167 iz21 eσ22 rfl rfl dX12_told_324 (fun H locs hw => ?_)
      refine lv_aload_n hx hb dX12_told_327 rfl (lv_at hl 0 rfl) ?_
      refine lv_aload_n hx hb dX12_told_328 rfl (lv_at hl 0 rfl) ?_
      obtain ⟨z23, ez23, iz23, hf⟩ := rf_gi_s hw hf
      refine rf_geti B hw 39 (by decide) rfl lk_173 ez23 dX12_told_329 ?_
      obtain ⟨σ24, eσ24, hf⟩ := rf_pi_s hf
      refine rf_put B hw 62 (by decide) rfl rfl lk_449 iz23 eσ24 rfl rfl dX12_told_332 (fun H locs hw => ?_)
      exact rf_retv B hf hw dX12_told_335
    · replace hf := rf_if_f hf c3
      refine lv_aload_n hx hb dX12_told_211 rfl (lv_at hl 0 rfl) ?_
      refine rf_get (val := .ref (rf_ad v 21)) B hw 21 (by decide) lk_54 rfl dX12_told_212 ?_
      refine lv_bipush (v := rI 12) hx hb dX12_told_215 (by decide +kernel) ?_
      refine lv_aload_n hx hb dX12_told_217 rfl (lv_at hl 0 rfl) ?_
      obtain ⟨z25, ez25, iz25, hf⟩ := rf_gi_s hw hf
      refine rf_geti B hw 27 (by decide) rfl lk_167 ez25 dX12_told_218 ?_
      obtain ⟨z26, ez26, iz26, hf⟩ := rf_ck_s hf
      refine rn_mul hx hb ez26 dX12_told_221 ?_
      refine lv_iload_n hx hb dX12_told_222 rfl (lv_at hl 1 rfl) ?_
      obtain ⟨z27, ez27, iz27, hf⟩ := rf_ck_s hf
      refine rn_add hx hb ez27 dX12_told_223 ?_
      refine lv_aload_n hx hb dX12_told_224 rfl (lv_at hl 0 rfl) ?_
      refine rf_get (val := .ref (rf_ad v 4)) B hw 4 (by decide) lk_37 rfl dX12_told_225 ?_
      refine lv_aload_n hx hb dX12_told_228 rfl (lv_at hl 0 rfl) ?_
      refine rf_get (val := .ref (rf_ad v 31)) B hw 31 (by decide) lk_79 rfl dX12_told_229 ?_
      refine lv_aload_n hx hb dX12_told_232 rfl (lv_at hl 0 rfl) ?_
      obtain ⟨z28, ez28, iz28, hf⟩ := rf_gi_s hw hf
      refine rf_geti B hw 80 (by decide) rfl lk_290 ez28 dX12_told_233 ?_
      obtain ⟨z29, ez29, iz29, rz29, hf⟩ := rf_rd_s hw hf
      refine rf_ald B hw iz28 rz29 ez29 dX12_told_236 ?_
      refine lv_iload_n hx hb dX12_told_237 rfl (lv_at hl 1 rfl) ?_
      obtain ⟨z30, ez30, iz30, hf⟩ := rf_ck_s hf
      refine rn_add hx hb ez30 dX12_told_238 ?_
      obtain ⟨z31, ez31, iz31, rz31, hf⟩ := rf_rd_s hw hf
      refine rf_ald B hw iz30 rz31 ez31 dX12_told_239 ?_
      obtain ⟨σ32, eσ32, rσ32, hf⟩ := rf_wr_s hf
      refine rf_ast B hw iz27 iz31 rσ32 eσ32 dX12_told_240 (fun H locs hw => ?_)
      obtain ⟨z33, ez33, iz33, hf⟩ := rf_ck_s hf
      refine lv_iinc (v := rI z33) (lv' := [(3, .int (rI z33)), (0, .ref (rf_h v))]) hx hb dX12_told_241 hl (k := 1) rfl (by rw [ez33]; exact rI_add _ _) (by decide) rfl (fun ls hl => ?_)
      refine lv_goto (tgt := 198) hx hb dX12_told_244 (by decide) ?_
      exact ih σ32 z33 iz33 hf _ _ _ hw (lv_sub hl [1, 0] rfl)

set_option maxHeartbeats 4000000 in
set_option maxRecDepth 100000 in
theorem ps_told_196 {v : rfE} {p : Program} {l : Launch} {e : Env} {s : State} {m : MethodId} {args : Array Value} {below : List Frame} {meth : Method} {c : Code} {d : Nat} {rec : Nat → RS → List Int → Option (RS × Int)} {σ' : RS} {r : Int} (hR : rf_Rec l v d rec) (B : rf_B v p s m args meth c cX12_told 4 none) : ∀ (σ : RS), pf_told_196 rec σ = some (σ', r) → ∀ (H : Heap) (locs : List Loc) (ls : Array Slot), rf_W v s σ H locs → lv_has ls 4 [(0, .ref (rf_h v))] → W p l e (rf_rm (d + 1)) s m args below meth c H locs 0 0 (MQ below (rf_Q v σ' none) args s 0 0 (rf_F v)) (F0 m 196 ls []) := by
  obtain ⟨hx, hb, hr, hml, hown, hts, hlk, hK, hD⟩ := id B
  intro σ hf H locs ls hw hl
  unfold pf_told_196 at hf
  refine lv_iconst (v := rI 0) hx hb dX12_told_196 rfl ?_
  refine lv_istore_n (lv' := [(3, .int (rI 0)), (0, .ref (rf_h v))]) hx hb dX12_told_197 rfl hl (by decide) rfl (fun ls hl => ?_)
  exact ps_told_198 hR B 200000 σ 0 ⟨by decide, by decide⟩ hf _ _ _ hw (lv_sub hl [1, 0] rfl)

set_option maxHeartbeats 4000000 in
set_option maxRecDepth 100000 in
theorem ps_told_175 {v : rfE} {p : Program} {l : Launch} {e : Env} {s : State} {m : MethodId} {args : Array Value} {below : List Frame} {meth : Method} {c : Code} {d : Nat} {rec : Nat → RS → List Int → Option (RS × Int)} {σ' : RS} {r : Int} (hR : rf_Rec l v d rec) (B : rf_B v p s m args meth c cX12_told 4 none) : ∀ (σ : RS) (x1 x2 : Int), inR x1 → inR x2 → pf_told_175 rec σ x1 x2 = some (σ', r) → ∀ (H : Heap) (locs : List Loc) (ls : Array Slot), rf_W v s σ H locs → lv_has ls 4 [(0, .ref (rf_h v)), (1, .int (rI x1)), (2, .int (rI x2))] → W p l e (rf_rm (d + 1)) s m args below meth c H locs 0 0 (MQ below (rf_Q v σ' none) args s 0 0 (rf_F v)) (F0 m 175 ls []) := by
  obtain ⟨hx, hb, hr, hml, hown, hts, hlk, hK, hD⟩ := id B
  intro σ x1 x2 ix1 ix2 hf H locs ls hw hl
  unfold pf_told_175 at hf
  refine lv_aload_n hx hb dX12_told_175 rfl (lv_at hl 0 rfl) ?_
  obtain ⟨z1, ez1, iz1, hf⟩ := rf_gi_s hw hf
  refine rf_geti B hw 72 (by decide) rfl lk_150 ez1 dX12_told_176 ?_
  refine rn_if_eq (a := z1) (tgt := 183) hx hb iz1 dX12_told_179 (by decide) (fun c2 => ?_) (fun c2 => ?_)
  · replace hf := rf_if_t hf c2
    refine lv_aload_n hx hb dX12_told_183 rfl (lv_at hl 0 rfl) ?_
    obtain ⟨z3, ez3, iz3, hf⟩ := rf_gi_s hw hf
    refine rf_geti B hw 79 (by decide) rfl lk_284 ez3 dX12_told_184 ?_
    refine rn_if_lt (a := z3) (tgt := 196) hx hb iz3 dX12_told_187 (by decide) (fun c4 => ?_) (fun c4 => ?_)
    · replace hf := rf_if_t hf c4
      exact ps_told_196 hR B σ hf _ _ _ hw (lv_sub hl [0] rfl)
    · replace hf := rf_if_f hf c4
      refine lv_aload_n hx hb dX12_told_190 rfl (lv_at hl 0 rfl) ?_
      refine lv_iload_n hx hb dX12_told_191 rfl (lv_at hl 2 rfl) ?_
      refine lv_iload_n hx hb dX12_told_192 rfl (lv_at hl 1 rfl) ?_
      obtain ⟨σ5, z6, hσ5, hf⟩ := rf_cl_s hf
      obtain ⟨iz6, mσ5⟩ := hR 45 σ [x2, x1] σ5 z6 hσ5
      have mσ5 : rf_Met l v yX12_becomes cX12_becomes 3 none d [.ref (rf_h v), .int (rI x2), .int (rI x1)] σ σ5 none := mσ5 ix2 ix1
      refine rf_cv (n := 2) (rest := []) (As := [.int (rI x2), .int (rI x1)]) B mσ5 g_412_becomes (by decide +kernel) (by decide) rfl hl.1 (Nat.le_of_ble_eq_true rfl) dX12_told_193 rfl hw (fun H locs hw => ?_)
      exact ps_told_196 hR B σ5 hf _ _ _ hw (lv_sub hl [0] rfl)
  · replace hf := rf_if_f hf c2
    exact rf_retv B hf hw dX12_told_182

set_option maxHeartbeats 4000000 in
set_option maxRecDepth 100000 in
theorem ps_told_108 {v : rfE} {p : Program} {l : Launch} {e : Env} {s : State} {m : MethodId} {args : Array Value} {below : List Frame} {meth : Method} {c : Code} {d : Nat} {rec : Nat → RS → List Int → Option (RS × Int)} {σ' : RS} {r : Int} (hR : rf_Rec l v d rec) (B : rf_B v p s m args meth c cX12_told 4 none) : ∀ (σ : RS) (x1 x2 : Int), inR x1 → inR x2 → pf_told_108 rec σ x1 x2 = some (σ', r) → ∀ (H : Heap) (locs : List Loc) (ls : Array Slot), rf_W v s σ H locs → lv_has ls 4 [(0, .ref (rf_h v)), (1, .int (rI x1)), (2, .int (rI x2))] → W p l e (rf_rm (d + 1)) s m args below meth c H locs 0 0 (MQ below (rf_Q v σ' none) args s 0 0 (rf_F v)) (F0 m 108 ls []) := by
  obtain ⟨hx, hb, hr, hml, hown, hts, hlk, hK, hD⟩ := id B
  intro σ x1 x2 ix1 ix2 hf H locs ls hw hl
  unfold pf_told_108 at hf
  refine lv_aload_n hx hb dX12_told_108 rfl (lv_at hl 0 rfl) ?_
  obtain ⟨z1, ez1, iz1, hf⟩ := rf_gi_s hw hf
  refine rf_geti B hw 72 (by decide) rfl lk_150 ez1 dX12_told_109 ?_
  refine rn_if_ne (a := z1) (tgt := 175) hx hb iz1 dX12_told_112 (by decide) (fun c2 => ?_) (fun c2 => ?_)
  · replace hf := rf_if_t hf c2
    exact ps_told_175 hR B σ x1 x2 ix1 ix2 hf _ _ _ hw (lv_sub hl [0, 1, 2] rfl)
  · replace hf := rf_if_f hf c2
    refine lv_aload_n hx hb dX12_told_115 rfl (lv_at hl 0 rfl) ?_
    obtain ⟨z3, ez3, iz3, hf⟩ := rf_gi_s hw hf
    refine rf_geti B hw 78 (by decide) rfl lk_281 ez3 dX12_told_116 ?_
    refine rn_if_lt (a := z3) (tgt := 175) hx hb iz3 dX12_told_119 (by decide) (fun c4 => ?_) (fun c4 => ?_)
    · replace hf := rf_if_t hf c4
      exact ps_told_175 hR B σ x1 x2 ix1 ix2 hf _ _ _ hw (lv_sub hl [0, 1, 2] rfl)
    · replace hf := rf_if_f hf c4
      refine lv_aload_n hx hb dX12_told_122 rfl (lv_at hl 0 rfl) ?_
      refine lv_aload_n hx hb dX12_told_123 rfl (lv_at hl 0 rfl) ?_
      obtain ⟨z5, ez5, iz5, hf⟩ := rf_gi_s hw hf
      refine rf_geti B hw 78 (by decide) rfl lk_281 ez5 dX12_told_124 ?_
      refine lv_iconst (v := rI 0) hx hb dX12_told_127 rfl ?_
      obtain ⟨σ6, z7, hσ6, hf⟩ := rf_cl_s hf
      obtain ⟨iz7, mσ6⟩ := hR 49 σ [z5, 0] σ6 z7 hσ6
      have mσ6 : rf_Met l v yX12_judge cX12_judge 3 none d [.ref (rf_h v), .int (rI z5), .int (rI 0)] σ σ6 none := mσ6 iz5 ⟨by decide, by decide⟩
      refine rf_cv (n := 2) (rest := []) (As := [.int (rI z5), .int (rI 0)]) B mσ6 g_421_judge (by decide +kernel) (by decide) rfl hl.1 (Nat.le_of_ble_eq_true rfl) dX12_told_128 rfl hw (fun H locs hw => ?_)
      refine lv_aload_n hx hb dX12_told_131 rfl (lv_at hl 0 rfl) ?_
      obtain ⟨z8, ez8, iz8, hf⟩ := rf_gi_s hw hf
      refine rf_geti B hw 72 (by decide) rfl lk_150 ez8 dX12_told_132 ?_
      refine rn_if_ne (a := z8) (tgt := 175) hx hb iz8 dX12_told_135 (by decide) (fun c9 => ?_) (fun c9 => ?_)
      · replace hf := rf_if_t hf c9
        exact ps_told_175 hR B σ6 x1 x2 ix1 ix2 hf _ _ _ hw (lv_sub hl [0, 1, 2] rfl)
      · replace hf := rf_if_f hf c9
        refine lv_aload_n hx hb dX12_told_138 rfl (lv_at hl 0 rfl) ?_
        obtain ⟨z10, ez10, iz10, hf⟩ := rf_gi_s hw hf
        refine rf_geti B hw 79 (by decide) rfl lk_284 ez10 dX12_told_139 ?_
        refine rn_if_lt (a := z10) (tgt := 175) hx hb iz10 dX12_told_142 (by decide) (fun c11 => ?_) (fun c11 => ?_)
        · replace hf := rf_if_t hf c11
          exact ps_told_175 hR B σ6 x1 x2 ix1 ix2 hf _ _ _ hw (lv_sub hl [0, 1, 2] rfl)
        · replace hf := rf_if_f hf c11
          refine lv_aload_n hx hb dX12_told_145 rfl (lv_at hl 0 rfl) ?_
          refine lv_iload_n hx hb dX12_told_146 rfl (lv_at hl 2 rfl) ?_
          refine lv_iconst (v := rI 0) hx hb dX12_told_147 rfl ?_
          refine lv_aload_n hx hb dX12_told_148 rfl (lv_at hl 0 rfl) ?_
          obtain ⟨z12, ez12, iz12, hf⟩ := rf_gi_s hw hf
          refine rf_geti B hw 60 (by decide) rfl lk_403 ez12 dX12_told_149 ?_
          refine lv_iconst (v := rI 0) hx hb dX12_told_152 rfl ?_
          refine lv_iconst (v := rI 0) hx hb dX12_told_153 rfl ?_
          obtain ⟨σ13, z14, hσ13, hf⟩ := rf_cl_s hf
          obtain ⟨iz14, mσ13⟩ := hR 35 σ6 [x2, 0, z12, 0, 0] σ13 z14 hσ13
          have mσ13 : rf_Met l v yX12_compare cX12_compare 13 (some .boolean) d [.ref (rf_h v), .int (rI x2), .int (rI 0), .int (rI z12), .int (rI 0), .int (rI 0)] σ6 σ13 (some (.int (rI z14))) := mσ13 ix2 ⟨by decide, by decide⟩ iz12 ⟨by decide, by decide⟩ ⟨by decide, by decide⟩
          refine rf_cv (n := 5) (rest := []) (As := [.int (rI x2), .int (rI 0), .int (rI z12), .int (rI 0), .int (rI 0)]) B mσ13 g_366_compare (by decide +kernel) (by decide) rfl hl.1 (Nat.le_of_ble_eq_true rfl) dX12_told_154 rfl hw (fun H locs hw => ?_)
          refine rn_if_ne (a := z14) (tgt := 175) hx hb iz14 dX12_told_157 (by decide) (fun c15 => ?_) (fun c15 => ?_)
          · replace hf := rf_if_t hf c15
            exact ps_told_175 hR B σ13 x1 x2 ix1 ix2 hf _ _ _ hw (lv_sub hl [0, 1, 2] rfl)
          · replace hf := rf_if_f hf c15
            refine lv_aload_n hx hb dX12_told_160 rfl (lv_at hl 0 rfl) ?_
            refine lv_bipush (v := rI 11) hx hb dX12_told_161 (by decide +kernel) ?_
            refine lv_aload_n hx hb dX12_told_163 rfl (lv_at hl 0 rfl) ?_
            refine rf_get (val := .ref (rf_ad v 34)) B hw 34 (by decide) lk_88 rfl dX12_told_164 ?_
            refine lv_aload_n hx hb dX12_told_167 rfl (lv_at hl 0 rfl) ?_
            obtain ⟨z16, ez16, iz16, hf⟩ := rf_gi_s hw hf
            refine rf_geti B hw 78 (by decide) rfl lk_281 ez16 dX12_told_168 ?_
            obtain ⟨z17, ez17, iz17, rz17, hf⟩ := rf_rd_s hw hf
            refine rf_ald B hw iz16 rz17 ez17 dX12_told_171 ?_
            obtain ⟨σ18, z19, hσ18, hf⟩ := rf_cl_s hf
            obtain ⟨iz19, mσ18⟩ := hR 3 σ13 [11, z17] σ18 z19 hσ18
            have mσ18 : rf_Met l v yX12_wrong cX12_wrong 3 none d [.ref (rf_h v), .int (rI 11), .int (rI z17)] σ13 σ18 none := mσ18 ⟨by decide, by decide⟩ iz17
            refine rf_cv (n := 2) (rest := []) (As := [.int (rI 11), .int (rI z17)]) B mσ18 g_218_wrong (by decide +kernel) (by decide) rfl hl.1 (Nat.le_of_ble_eq_true rfl) dX12_told_172 rfl hw (fun H locs hw => ?_)
            exact ps_told_175 hR B σ18 x1 x2 ix1 ix2 hf _ _ _ hw (lv_sub hl [0, 1, 2] rfl)

set_option maxHeartbeats 4000000 in
set_option maxRecDepth 100000 in
theorem ps_told_62 {v : rfE} {p : Program} {l : Launch} {e : Env} {s : State} {m : MethodId} {args : Array Value} {below : List Frame} {meth : Method} {c : Code} {d : Nat} {rec : Nat → RS → List Int → Option (RS × Int)} {σ' : RS} {r : Int} (hR : rf_Rec l v d rec) (B : rf_B v p s m args meth c cX12_told 4 none) : ∀ (σ : RS), pf_told_62 rec σ = some (σ', r) → ∀ (H : Heap) (locs : List Loc) (ls : Array Slot), rf_W v s σ H locs → lv_has ls 4 [(0, .ref (rf_h v))] → W p l e (rf_rm (d + 1)) s m args below meth c H locs 0 0 (MQ below (rf_Q v σ' none) args s 0 0 (rf_F v)) (F0 m 62 ls []) := by
  obtain ⟨hx, hb, hr, hml, hown, hts, hlk, hK, hD⟩ := id B
  intro σ hf H locs ls hw hl
  unfold pf_told_62 at hf
  refine lv_iconst (v := rI 0) hx hb dX12_told_62 rfl ?_
  refine lv_istore_n (lv' := [(1, .int (rI 0)), (0, .ref (rf_h v))]) hx hb dX12_told_63 rfl hl (by decide) rfl (fun ls hl => ?_)
  refine lv_iconst (v := rI 0) hx hb dX12_told_64 rfl ?_
  refine lv_istore_n (lv' := [(2, .int (rI 0)), (1, .int (rI 0)), (0, .ref (rf_h v))]) hx hb dX12_told_65 rfl hl (by decide) rfl (fun ls hl => ?_)
  refine lv_aload_n hx hb dX12_told_66 rfl (lv_at hl 2 rfl) ?_
  obtain ⟨z1, ez1, iz1, hf⟩ := rf_gi_s hw hf
  refine rf_geti B hw 72 (by decide) rfl lk_150 ez1 dX12_told_67 ?_
  refine rn_if_ne (a := z1) (tgt := 108) hx hb iz1 dX12_told_70 (by decide) (fun c2 => ?_) (fun c2 => ?_)
  · replace hf := rf_if_t hf c2
    exact ps_told_108 hR B σ 0 0 ⟨by decide, by decide⟩ ⟨by decide, by decide⟩ hf _ _ _ hw (lv_sub hl [2, 1, 0] rfl)
  · replace hf := rf_if_f hf c2
    refine lv_aload_n hx hb dX12_told_73 rfl (lv_at hl 2 rfl) ?_
    obtain ⟨z3, ez3, iz3, hf⟩ := rf_gi_s hw hf
    refine rf_geti B hw 79 (by decide) rfl lk_284 ez3 dX12_told_74 ?_
    refine rn_if_lt (a := z3) (tgt := 108) hx hb iz3 dX12_told_77 (by decide) (fun c4 => ?_) (fun c4 => ?_)
    · replace hf := rf_if_t hf c4
      exact ps_told_108 hR B σ 0 0 ⟨by decide, by decide⟩ ⟨by decide, by decide⟩ hf _ _ _ hw (lv_sub hl [2, 1, 0] rfl)
    · replace hf := rf_if_f hf c4
      refine lv_aload_n hx hb dX12_told_80 rfl (lv_at hl 2 rfl) ?_
      refine lv_aload_n hx hb dX12_told_81 rfl (lv_at hl 2 rfl) ?_
      obtain ⟨z5, ez5, iz5, hf⟩ := rf_gi_s hw hf
      refine rf_geti B hw 79 (by decide) rfl lk_284 ez5 dX12_told_82 ?_
      refine lv_iconst (v := rI 0) hx hb dX12_told_85 rfl ?_
      obtain ⟨σ6, z7, hσ6, hf⟩ := rf_cl_s hf
      obtain ⟨iz7, mσ6⟩ := hR 47 σ [z5, 0] σ6 z7 hσ6
      have mσ6 : rf_Met l v yX12_judgeSort cX12_judgeSort 4 (some .int) d [.ref (rf_h v), .int (rI z5), .int (rI 0)] σ σ6 (some (.int (rI z7))) := mσ6 iz5 ⟨by decide, by decide⟩
      refine rf_cv (n := 2) (rest := []) (As := [.int (rI z5), .int (rI 0)]) B mσ6 g_440_judgeSort (by decide +kernel) (by decide) rfl hl.1 (Nat.le_of_ble_eq_true rfl) dX12_told_86 rfl hw (fun H locs hw => ?_)
      refine lv_istore_n (lv' := [(1, .int (rI z7)), (2, .int (rI 0)), (0, .ref (rf_h v))]) hx hb dX12_told_89 rfl hl (by decide) rfl (fun ls hl => ?_)
      refine lv_aload_n hx hb dX12_told_90 rfl (lv_at hl 2 rfl) ?_
      obtain ⟨z8, ez8, iz8, hf⟩ := rf_gi_s hw hf
      refine rf_geti B hw 72 (by decide) rfl lk_150 ez8 dX12_told_91 ?_
      refine rn_if_ne (a := z8) (tgt := 108) hx hb iz8 dX12_told_94 (by decide) (fun c9 => ?_) (fun c9 => ?_)
      · replace hf := rf_if_t hf c9
        exact ps_told_108 hR B σ6 z7 0 iz7 ⟨by decide, by decide⟩ hf _ _ _ hw (lv_sub hl [2, 0, 1] rfl)
      · replace hf := rf_if_f hf c9
        refine lv_aload_n hx hb dX12_told_97 rfl (lv_at hl 2 rfl) ?_
        refine lv_aload_n hx hb dX12_told_98 rfl (lv_at hl 2 rfl) ?_
        obtain ⟨z10, ez10, iz10, hf⟩ := rf_gi_s hw hf
        refine rf_geti B hw 79 (by decide) rfl lk_284 ez10 dX12_told_99 ?_
        refine lv_iconst (v := rI 0) hx hb dX12_told_102 rfl ?_
        refine lv_iconst (v := rI 0) hx hb dX12_told_103 rfl ?_
        obtain ⟨σ11, z12, hσ11, hf⟩ := rf_cl_s hf
        obtain ⟨iz12, mσ11⟩ := hR 41 σ6 [z10, 0, 0] σ11 z12 hσ11
        have mσ11 : rf_Met l v yX12_normal cX12_normal 12 (some .int) d [.ref (rf_h v), .int (rI z10), .int (rI 0), .int (rI 0)] σ6 σ11 (some (.int (rI z12))) := mσ11 iz10 ⟨by decide, by decide⟩ ⟨by decide, by decide⟩
        refine rf_cv (n := 3) (rest := []) (As := [.int (rI z10), .int (rI 0), .int (rI 0)]) B mσ11 g_396_normal (by decide +kernel) (by decide) rfl hl.1 (Nat.le_of_ble_eq_true rfl) dX12_told_104 rfl hw (fun H locs hw => ?_)
        refine lv_istore_n (lv' := [(2, .int (rI z12)), (1, .int (rI z7)), (0, .ref (rf_h v))]) hx hb dX12_told_107 rfl hl (by decide) rfl (fun ls hl => ?_)
        exact ps_told_108 hR B σ11 z7 z12 iz7 iz12 hf _ _ _ hw (lv_sub hl [2, 1, 0] rfl)

set_option maxHeartbeats 4000000 in
set_option maxRecDepth 100000 in
theorem ps_told_22 {v : rfE} {p : Program} {l : Launch} {e : Env} {s : State} {m : MethodId} {args : Array Value} {below : List Frame} {meth : Method} {c : Code} {d : Nat} {rec : Nat → RS → List Int → Option (RS × Int)} {σ' : RS} {r : Int} (hR : rf_Rec l v d rec) (B : rf_B v p s m args meth c cX12_told 4 none) : ∀ (σ : RS), pf_told_22 rec σ = some (σ', r) → ∀ (H : Heap) (locs : List Loc) (ls : Array Slot), rf_W v s σ H locs → lv_has ls 4 [(0, .ref (rf_h v))] → W p l e (rf_rm (d + 1)) s m args below meth c H locs 0 0 (MQ below (rf_Q v σ' none) args s 0 0 (rf_F v)) (F0 m 22 ls []) := by
  obtain ⟨hx, hb, hr, hml, hown, hts, hlk, hK, hD⟩ := id B
  intro σ hf H locs ls hw hl
  unfold pf_told_22 at hf
  refine lv_aload_n hx hb dX12_told_22 rfl (lv_at hl 0 rfl) ?_
  refine lv_iconst (v := rI 4) hx hb dX12_told_23 rfl ?_
  refine lv_aload_n hx hb dX12_told_24 rfl (lv_at hl 0 rfl) ?_
  refine rf_get (val := .ref (rf_ad v 31)) B hw 31 (by decide) lk_79 rfl dX12_told_25 ?_
  refine lv_aload_n hx hb dX12_told_28 rfl (lv_at hl 0 rfl) ?_
  obtain ⟨z1, ez1, iz1, hf⟩ := rf_gi_s hw hf
  refine rf_geti B hw 80 (by decide) rfl lk_290 ez1 dX12_told_29 ?_
  obtain ⟨z2, ez2, iz2, rz2, hf⟩ := rf_rd_s hw hf
  refine rf_ald B hw iz1 rz2 ez2 dX12_told_32 ?_
  obtain ⟨σ3, z4, hσ3, hf⟩ := rf_cl_s hf
  obtain ⟨iz4, mσ3⟩ := hR 3 σ [4, z2] σ3 z4 hσ3
  have mσ3 : rf_Met l v yX12_wrong cX12_wrong 3 none d [.ref (rf_h v), .int (rI 4), .int (rI z2)] σ σ3 none := mσ3 ⟨by decide, by decide⟩ iz2
  refine rf_cv (n := 2) (rest := []) (As := [.int (rI 4), .int (rI z2)]) B mσ3 g_218_wrong (by decide +kernel) (by decide) rfl hl.1 (Nat.le_of_ble_eq_true rfl) dX12_told_33 rfl hw (fun H locs hw => ?_)
  refine lv_goto (tgt := 62) hx hb dX12_told_36 (by decide) ?_
  exact ps_told_62 hR B σ3 hf _ _ _ hw (lv_sub hl [0] rfl)

set_option maxHeartbeats 4000000 in
set_option maxRecDepth 100000 in
theorem ps_told_0 {v : rfE} {p : Program} {l : Launch} {e : Env} {s : State} {m : MethodId} {args : Array Value} {below : List Frame} {meth : Method} {c : Code} {d : Nat} {rec : Nat → RS → List Int → Option (RS × Int)} {σ' : RS} {r : Int} (hR : rf_Rec l v d rec) (B : rf_B v p s m args meth c cX12_told 4 none) : ∀ (σ : RS), pf_told_0 rec σ = some (σ', r) → ∀ (H : Heap) (locs : List Loc) (ls : Array Slot), rf_W v s σ H locs → lv_has ls 4 [(0, .ref (rf_h v))] → W p l e (rf_rm (d + 1)) s m args below meth c H locs 0 0 (MQ below (rf_Q v σ' none) args s 0 0 (rf_F v)) (F0 m 0 ls []) := by
  obtain ⟨hx, hb, hr, hml, hown, hts, hlk, hK, hD⟩ := id B
  intro σ hf H locs ls hw hl
  unfold pf_told_0 at hf
  refine lv_aload_n hx hb dX12_told_0 rfl (lv_at hl 0 rfl) ?_
  refine lv_aload_n hx hb dX12_told_1 rfl (lv_at hl 0 rfl) ?_
  obtain ⟨z1, ez1, iz1, hf⟩ := rf_gi_s hw hf
  refine rf_geti B hw 80 (by decide) rfl lk_290 ez1 dX12_told_2 ?_
  obtain ⟨σ2, z3, hσ2, hf⟩ := rf_cl_s hf
  obtain ⟨iz3, mσ2⟩ := hR 44 σ [z1] σ2 z3 hσ2
  have mσ2 : rf_Met l v yX12_knownOf cX12_knownOf 4 (some .int) d [.ref (rf_h v), .int (rI z1)] σ σ2 (some (.int (rI z3))) := mσ2 iz1
  refine rf_cv (n := 1) (rest := []) (As := [.int (rI z1)]) B mσ2 g_415_knownOf (by decide +kernel) (by decide) rfl hl.1 (Nat.le_of_ble_eq_true rfl) dX12_told_5 rfl hw (fun H locs hw => ?_)
  refine rn_if_ge (a := z3) (tgt := 22) hx hb iz3 dX12_told_8 (by decide) (fun c4 => ?_) (fun c4 => ?_)
  · replace hf := rf_if_t hf c4
    exact ps_told_22 hR B σ2 hf _ _ _ hw (lv_sub hl [0] rfl)
  · replace hf := rf_if_f hf c4
    refine lv_aload_n hx hb dX12_told_11 rfl (lv_at hl 0 rfl) ?_
    refine lv_aload_n hx hb dX12_told_12 rfl (lv_at hl 0 rfl) ?_
    obtain ⟨z5, ez5, iz5, hf⟩ := rf_gi_s hw hf
    refine rf_geti B hw 80 (by decide) rfl lk_290 ez5 dX12_told_13 ?_
    obtain ⟨σ6, z7, hσ6, hf⟩ := rf_cl_s hf
    obtain ⟨iz7, mσ6⟩ := hR 43 σ2 [z5] σ6 z7 hσ6
    have mσ6 : rf_Met l v yX12_sortOf cX12_sortOf 4 (some .int) d [.ref (rf_h v), .int (rI z5)] σ2 σ6 (some (.int (rI z7))) := mσ6 iz5
    refine rf_cv (n := 1) (rest := []) (As := [.int (rI z5)]) B mσ6 g_418_sortOf (by decide +kernel) (by decide) rfl hl.1 (Nat.le_of_ble_eq_true rfl) dX12_told_16 rfl hw (fun H locs hw => ?_)
    refine rn_if_lt (a := z7) (tgt := 39) hx hb iz7 dX12_told_19 (by decide) (fun c8 => ?_) (fun c8 => ?_)
    · replace hf := rf_if_t hf c8
      refine lv_aload_n hx hb dX12_told_39 rfl (lv_at hl 0 rfl) ?_
      obtain ⟨z9, ez9, iz9, hf⟩ := rf_gi_s hw hf
      refine rf_geti B hw 27 (by decide) rfl lk_167 ez9 dX12_told_40 ?_
      refine lv_bipush (v := rI 100) hx hb dX12_told_43 (by decide +kernel) ?_
      refine rn_icmp_ne (a := z9) (b := 100) (tgt := 62) hx hb iz9 ⟨by decide, by decide⟩ dX12_told_45 (by decide) (fun c10 => ?_) (fun c10 => ?_)
      · replace hf := rf_if_t hf c10
        exact ps_told_62 hR B σ6 hf _ _ _ hw (lv_sub hl [0] rfl)
      · replace hf := rf_if_f hf c10
        refine lv_aload_n hx hb dX12_told_48 rfl (lv_at hl 0 rfl) ?_
        refine lv_iconst (v := rI 5) hx hb dX12_told_49 rfl ?_
        refine lv_aload_n hx hb dX12_told_50 rfl (lv_at hl 0 rfl) ?_
        refine rf_get (val := .ref (rf_ad v 31)) B hw 31 (by decide) lk_79 rfl dX12_told_51 ?_
        refine lv_aload_n hx hb dX12_told_54 rfl (lv_at hl 0 rfl) ?_
        obtain ⟨z11, ez11, iz11, hf⟩ := rf_gi_s hw hf
        refine rf_geti B hw 80 (by decide) rfl lk_290 ez11 dX12_told_55 ?_
        obtain ⟨z12, ez12, iz12, rz12, hf⟩ := rf_rd_s hw hf
        refine rf_ald B hw iz11 rz12 ez12 dX12_told_58 ?_
        obtain ⟨σ13, z14, hσ13, hf⟩ := rf_cl_s hf
        obtain ⟨iz14, mσ13⟩ := hR 3 σ6 [5, z12] σ13 z14 hσ13
        have mσ13 : rf_Met l v yX12_wrong cX12_wrong 3 none d [.ref (rf_h v), .int (rI 5), .int (rI z12)] σ6 σ13 none := mσ13 ⟨by decide, by decide⟩ iz12
        refine rf_cv (n := 2) (rest := []) (As := [.int (rI 5), .int (rI z12)]) B mσ13 g_218_wrong (by decide +kernel) (by decide) rfl hl.1 (Nat.le_of_ble_eq_true rfl) dX12_told_59 rfl hw (fun H locs hw => ?_)
        exact ps_told_62 hR B σ13 hf _ _ _ hw (lv_sub hl [0] rfl)
    · replace hf := rf_if_f hf c8
      exact ps_told_22 hR B σ6 hf _ _ _ hw (lv_sub hl [0] rfl)

set_option maxHeartbeats 4000000 in
set_option maxRecDepth 100000 in
theorem pm_told {v : rfE} (hD : rf_D v) {l : Launch} {d : Nat} {rec : Nat → RS → List Int → Option (RS × Int)} (hR : rf_Rec l v d rec) (σ σ' : RS) (r : Int) (hf : pf_told_0 rec σ = some (σ', r)) : rf_Met l v yX12_told cX12_told 4 none (d + 1) [.ref (rf_h v)] σ σ' none := by
  refine Met.ofW (cc := cX12_told) (maxL := 4) (ret := none) (by decide +kernel) rfl ?_
  intro p e s m args below meth c s₁ B hml hv
  obtain ⟨rfl, hM, hK⟩ := hv
  have hts := atoms_spec (ws := Cond.code yX12_told cX12_told 4 none :: rf_bw) B.pre
  have hB : rf_B v p s m _ meth c cX12_told 4 none := ⟨B.exec, B.bytes, B.returns, hml, findClass_of_methodNamed B.named, fun w h => hts w (List.mem_cons_of_mem _ h), B.notSynchronized, hK, hD⟩
  have hl := lv_entry ([.ref (rf_h v)]) (n := 4) (Nat.le_of_ble_eq_true rfl)
  rw [lg_entry_eq]
  generalize (lg_sl ([.ref (rf_h v)]) ++ List.replicate (4 - (lg_sl ([.ref (rf_h v)])).length) Slot.unset).toArray = ls at hl ⊢
  exact ps_told_0 hR hB σ hf _ _ _ ⟨hM, rfl, fun _ _ => rfl, fun q h => by cases h⟩ (lv_sub hl [0] rfl)

set_option maxHeartbeats 4000000 in
set_option maxRecDepth 100000 in
theorem ps_doStatement_141 {v : rfE} {p : Program} {l : Launch} {e : Env} {s : State} {m : MethodId} {args : Array Value} {below : List Frame} {meth : Method} {c : Code} {d : Nat} {rec : Nat → RS → List Int → Option (RS × Int)} {σ' : RS} {r : Int} (hR : rf_Rec l v d rec) (B : rf_B v p s m args meth c cX12_doStatement 2 none) : ∀ (σ : RS), pf_doStatement_141 rec σ = some (σ', r) → ∀ (H : Heap) (locs : List Loc) (ls : Array Slot), rf_W v s σ H locs → lv_has ls 2 [(0, .ref (rf_h v))] → W p l e (rf_rm (d + 1)) s m args below meth c H locs 0 0 (MQ below (rf_Q v σ' none) args s 0 0 (rf_F v)) (F0 m 141 ls []) := by
  obtain ⟨hx, hb, hr, hml, hown, hts, hlk, hK, hD⟩ := id B
  intro σ hf H locs ls hw hl
  unfold pf_doStatement_141 at hf
  refine lv_aload_n hx hb dX12_doStatement_141 rfl (lv_at hl 0 rfl) ?_
  obtain ⟨z1, ez1, iz1, hf⟩ := rf_gi_s hw hf
  refine rf_geti B hw 72 (by decide) rfl lk_150 ez1 dX12_doStatement_142 ?_
  refine rn_if_ne (a := z1) (tgt := 153) hx hb iz1 dX12_doStatement_145 (by decide) (fun c2 => ?_) (fun c2 => ?_)
  · replace hf := rf_if_t hf c2
    refine lv_goto (tgt := 272) hx hb dX12_doStatement_153 (by decide) ?_
    exact rf_retv B hf hw dX12_doStatement_272
  · replace hf := rf_if_f hf c2
    refine lv_aload_n hx hb dX12_doStatement_148 rfl (lv_at hl 0 rfl) ?_
    refine lv_iconst (v := rI 1) hx hb dX12_doStatement_149 rfl ?_
    obtain ⟨σ3, z4, hσ3, hf⟩ := rf_cl_s hf
    obtain ⟨iz4, mσ3⟩ := hR 57 σ [1] σ3 z4 hσ3
    have mσ3 : rf_Met l v yX12_yes cX12_yes 2 none d [.ref (rf_h v), .int (rI 1)] σ σ3 none := mσ3 ⟨by decide, by decide⟩
    refine rf_cv (n := 1) (rest := []) (As := [.int (rI 1)]) B mσ3 g_455_yes (by decide +kernel) (by decide) rfl hl.1 (Nat.le_of_ble_eq_true rfl) dX12_doStatement_150 rfl hw (fun H locs hw => ?_)
    refine lv_goto (tgt := 272) hx hb dX12_doStatement_153 (by decide) ?_
    exact rf_retv B hf hw dX12_doStatement_272

set_option maxHeartbeats 4000000 in
set_option maxRecDepth 100000 in
theorem ps_doStatement_94 {v : rfE} {p : Program} {l : Launch} {e : Env} {s : State} {m : MethodId} {args : Array Value} {below : List Frame} {meth : Method} {c : Code} {d : Nat} {rec : Nat → RS → List Int → Option (RS × Int)} {σ' : RS} {r : Int} (hR : rf_Rec l v d rec) (B : rf_B v p s m args meth c cX12_doStatement 2 none) : ∀ (σ : RS) (t0 : Int), inR t0 → pf_doStatement_94 rec σ t0 = some (σ', r) → ∀ (H : Heap) (locs : List Loc) (ls : Array Slot), rf_W v s σ H locs → lv_has ls 2 [(0, .ref (rf_h v))] → W p l e (rf_rm (d + 1)) s m args below meth c H locs 0 0 (MQ below (rf_Q v σ' none) args s 0 0 (rf_F v)) (F0 m 94 ls [.int (rI t0)]) := by
  obtain ⟨hx, hb, hr, hml, hown, hts, hlk, hK, hD⟩ := id B
  intro σ t0 it0 hf H locs ls hw hl
  unfold pf_doStatement_94 at hf
  refine lv_istore_n (lv' := [(1, .int (rI t0)), (0, .ref (rf_h v))]) hx hb dX12_doStatement_94 rfl hl (by decide) rfl (fun ls hl => ?_)
  refine lv_aload_n hx hb dX12_doStatement_95 rfl (lv_at hl 1 rfl) ?_
  refine lv_aload_n hx hb dX12_doStatement_96 rfl (lv_at hl 1 rfl) ?_
  obtain ⟨z1, ez1, iz1, hf⟩ := rf_gi_s hw hf
  refine rf_geti B hw 78 (by decide) rfl lk_281 ez1 dX12_doStatement_97 ?_
  refine lv_iconst (v := rI 0) hx hb dX12_doStatement_100 rfl ?_
  obtain ⟨σ2, z3, hσ2, hf⟩ := rf_cl_s hf
  obtain ⟨iz3, mσ2⟩ := hR 49 σ [z1, 0] σ2 z3 hσ2
  have mσ2 : rf_Met l v yX12_judge cX12_judge 3 none d [.ref (rf_h v), .int (rI z1), .int (rI 0)] σ σ2 none := mσ2 iz1 ⟨by decide, by decide⟩
  refine rf_cv (n := 2) (rest := []) (As := [.int (rI z1), .int (rI 0)]) B mσ2 g_421_judge (by decide +kernel) (by decide) rfl hl.1 (Nat.le_of_ble_eq_true rfl) dX12_doStatement_101 rfl hw (fun H locs hw => ?_)
  refine lv_aload_n hx hb dX12_doStatement_104 rfl (lv_at hl 1 rfl) ?_
  obtain ⟨z4, ez4, iz4, hf⟩ := rf_gi_s hw hf
  refine rf_geti B hw 72 (by decide) rfl lk_150 ez4 dX12_doStatement_105 ?_
  refine rn_if_ne (a := z4) (tgt := 141) hx hb iz4 dX12_doStatement_108 (by decide) (fun c5 => ?_) (fun c5 => ?_)
  · replace hf := rf_if_t hf c5
    exact ps_doStatement_141 hR B σ2 hf _ _ _ hw (lv_sub hl [1] rfl)
  · replace hf := rf_if_f hf c5
    refine lv_aload_n hx hb dX12_doStatement_111 rfl (lv_at hl 1 rfl) ?_
    refine lv_iload_n hx hb dX12_doStatement_112 rfl (lv_at hl 0 rfl) ?_
    refine lv_iconst (v := rI 0) hx hb dX12_doStatement_113 rfl ?_
    refine lv_aload_n hx hb dX12_doStatement_114 rfl (lv_at hl 1 rfl) ?_
    obtain ⟨z6, ez6, iz6, hf⟩ := rf_gi_s hw hf
    refine rf_geti B hw 60 (by decide) rfl lk_403 ez6 dX12_doStatement_115 ?_
    refine lv_iconst (v := rI 0) hx hb dX12_doStatement_118 rfl ?_
    refine lv_iconst (v := rI 0) hx hb dX12_doStatement_119 rfl ?_
    obtain ⟨σ7, z8, hσ7, hf⟩ := rf_cl_s hf
    obtain ⟨iz8, mσ7⟩ := hR 35 σ2 [t0, 0, z6, 0, 0] σ7 z8 hσ7
    have mσ7 : rf_Met l v yX12_compare cX12_compare 13 (some .boolean) d [.ref (rf_h v), .int (rI t0), .int (rI 0), .int (rI z6), .int (rI 0), .int (rI 0)] σ2 σ7 (some (.int (rI z8))) := mσ7 it0 ⟨by decide, by decide⟩ iz6 ⟨by decide, by decide⟩ ⟨by decide, by decide⟩
    refine rf_cv (n := 5) (rest := []) (As := [.int (rI t0), .int (rI 0), .int (rI z6), .int (rI 0), .int (rI 0)]) B mσ7 g_366_compare (by decide +kernel) (by decide) rfl hl.1 (Nat.le_of_ble_eq_true rfl) dX12_doStatement_120 rfl hw (fun H locs hw => ?_)
    refine rn_if_ne (a := z8) (tgt := 141) hx hb iz8 dX12_doStatement_123 (by decide) (fun c9 => ?_) (fun c9 => ?_)
    · replace hf := rf_if_t hf c9
      exact ps_doStatement_141 hR B σ7 hf _ _ _ hw (lv_sub hl [1] rfl)
    · replace hf := rf_if_f hf c9
      refine lv_aload_n hx hb dX12_doStatement_126 rfl (lv_at hl 1 rfl) ?_
      refine lv_bipush (v := rI 11) hx hb dX12_doStatement_127 (by decide +kernel) ?_
      refine lv_aload_n hx hb dX12_doStatement_129 rfl (lv_at hl 1 rfl) ?_
      refine rf_get (val := .ref (rf_ad v 34)) B hw 34 (by decide) lk_88 rfl dX12_doStatement_130 ?_
      refine lv_aload_n hx hb dX12_doStatement_133 rfl (lv_at hl 1 rfl) ?_
      obtain ⟨z10, ez10, iz10, hf⟩ := rf_gi_s hw hf
      refine rf_geti B hw 78 (by decide) rfl lk_281 ez10 dX12_doStatement_134 ?_
      obtain ⟨z11, ez11, iz11, rz11, hf⟩ := rf_rd_s hw hf
      refine rf_ald B hw iz10 rz11 ez11 dX12_doStatement_137 ?_
      obtain ⟨σ12, z13, hσ12, hf⟩ := rf_cl_s hf
      obtain ⟨iz13, mσ12⟩ := hR 3 σ7 [11, z11] σ12 z13 hσ12
      have mσ12 : rf_Met l v yX12_wrong cX12_wrong 3 none d [.ref (rf_h v), .int (rI 11), .int (rI z11)] σ7 σ12 none := mσ12 ⟨by decide, by decide⟩ iz11
      refine rf_cv (n := 2) (rest := []) (As := [.int (rI 11), .int (rI z11)]) B mσ12 g_218_wrong (by decide +kernel) (by decide) rfl hl.1 (Nat.le_of_ble_eq_true rfl) dX12_doStatement_138 rfl hw (fun H locs hw => ?_)
      exact ps_doStatement_141 hR B σ12 hf _ _ _ hw (lv_sub hl [1] rfl)

set_option maxHeartbeats 4000000 in
set_option maxRecDepth 100000 in
theorem ps_doStatement_20 {v : rfE} {p : Program} {l : Launch} {e : Env} {s : State} {m : MethodId} {args : Array Value} {below : List Frame} {meth : Method} {c : Code} {d : Nat} {rec : Nat → RS → List Int → Option (RS × Int)} {σ' : RS} {r : Int} (hR : rf_Rec l v d rec) (B : rf_B v p s m args meth c cX12_doStatement 2 none) : ∀ (σ : RS), pf_doStatement_20 rec σ = some (σ', r) → ∀ (H : Heap) (locs : List Loc) (ls : Array Slot), rf_W v s σ H locs → lv_has ls 2 [(0, .ref (rf_h v))] → W p l e (rf_rm (d + 1)) s m args below meth c H locs 0 0 (MQ below (rf_Q v σ' none) args s 0 0 (rf_F v)) (F0 m 20 ls []) := by
  obtain ⟨hx, hb, hr, hml, hown, hts, hlk, hK, hD⟩ := id B
  intro σ hf H locs ls hw hl
  unfold pf_doStatement_20 at hf
  refine lv_aload_n hx hb dX12_doStatement_20 rfl (lv_at hl 0 rfl) ?_
  obtain ⟨z1, ez1, iz1, hf⟩ := rf_gi_s hw hf
  refine rf_geti B hw 76 (by decide) rfl lk_278 ez1 dX12_doStatement_21 ?_
  by_cases c2 : z1 = 3
  · replace hf := rf_if_t hf c2
    refine rn_tab (n := 3) (tgt := 56) hx hb iz1 c2 dX12_doStatement_24 (by decide) (by decide) rfl (by decide) ?_
    refine lv_aload_n hx hb dX12_doStatement_56 rfl (lv_at hl 0 rfl) ?_
    obtain ⟨z3, ez3, iz3, hf⟩ := rf_gi_s hw hf
    refine rf_geti B hw 79 (by decide) rfl lk_284 ez3 dX12_doStatement_57 ?_
    refine rn_if_lt (a := z3) (tgt := 156) hx hb iz3 dX12_doStatement_60 (by decide) (fun c4 => ?_) (fun c4 => ?_)
    · replace hf := rf_if_t hf c4
      refine lv_aload_n hx hb dX12_doStatement_156 rfl (lv_at hl 0 rfl) ?_
      refine lv_aload_n hx hb dX12_doStatement_157 rfl (lv_at hl 0 rfl) ?_
      obtain ⟨z5, ez5, iz5, hf⟩ := rf_gi_s hw hf
      refine rf_geti B hw 78 (by decide) rfl lk_281 ez5 dX12_doStatement_158 ?_
      refine lv_iconst (v := rI 0) hx hb dX12_doStatement_161 rfl ?_
      obtain ⟨σ6, z7, hσ6, hf⟩ := rf_cl_s hf
      obtain ⟨iz7, mσ6⟩ := hR 49 σ [z5, 0] σ6 z7 hσ6
      have mσ6 : rf_Met l v yX12_judge cX12_judge 3 none d [.ref (rf_h v), .int (rI z5), .int (rI 0)] σ σ6 none := mσ6 iz5 ⟨by decide, by decide⟩
      refine rf_cv (n := 2) (rest := []) (As := [.int (rI z5), .int (rI 0)]) B mσ6 g_421_judge (by decide +kernel) (by decide) rfl hl.1 (Nat.le_of_ble_eq_true rfl) dX12_doStatement_162 rfl hw (fun H locs hw => ?_)
      refine lv_aload_n hx hb dX12_doStatement_165 rfl (lv_at hl 0 rfl) ?_
      refine lv_aload_n hx hb dX12_doStatement_166 rfl (lv_at hl 0 rfl) ?_
      obtain ⟨z8, ez8, iz8, hf⟩ := rf_gi_s hw hf
      refine rf_geti B hw 60 (by decide) rfl lk_403 ez8 dX12_doStatement_167 ?_
      obtain ⟨σ9, z10, hσ9, hf⟩ := rf_cl_s hf
      obtain ⟨iz10, mσ9⟩ := hR 60 σ6 [z8] σ9 z10 hσ9
      have mσ9 : rf_Met l v yX12_tellLine cX12_tellLine 2 none d [.ref (rf_h v), .int (rI z8)] σ6 σ9 none := mσ9 iz8
      refine rf_cv (n := 1) (rest := []) (As := [.int (rI z8)]) B mσ9 g_459_tellLine (by decide +kernel) (by decide) rfl hl.1 (Nat.le_of_ble_eq_true rfl) dX12_doStatement_170 rfl hw (fun H locs hw => ?_)
      refine lv_goto (tgt := 272) hx hb dX12_doStatement_173 (by decide) ?_
      exact rf_retv B hf hw dX12_doStatement_272
    · replace hf := rf_if_f hf c4
      refine lv_aload_n hx hb dX12_doStatement_63 rfl (lv_at hl 0 rfl) ?_
      refine lv_aload_n hx hb dX12_doStatement_64 rfl (lv_at hl 0 rfl) ?_
      obtain ⟨z11, ez11, iz11, hf⟩ := rf_gi_s hw hf
      refine rf_geti B hw 79 (by decide) rfl lk_284 ez11 dX12_doStatement_65 ?_
      refine lv_iconst (v := rI 0) hx hb dX12_doStatement_68 rfl ?_
      obtain ⟨σ12, z13, hσ12, hf⟩ := rf_cl_s hf
      obtain ⟨iz13, mσ12⟩ := hR 47 σ [z11, 0] σ12 z13 hσ12
      have mσ12 : rf_Met l v yX12_judgeSort cX12_judgeSort 4 (some .int) d [.ref (rf_h v), .int (rI z11), .int (rI 0)] σ σ12 (some (.int (rI z13))) := mσ12 iz11 ⟨by decide, by decide⟩
      refine rf_cv (n := 2) (rest := []) (As := [.int (rI z11), .int (rI 0)]) B mσ12 g_440_judgeSort (by decide +kernel) (by decide) rfl hl.1 (Nat.le_of_ble_eq_true rfl) dX12_doStatement_69 rfl hw (fun H locs hw => ?_)
      refine lv_pop hx hb dX12_doStatement_72 rfl ?_
      refine lv_aload_n hx hb dX12_doStatement_73 rfl (lv_at hl 0 rfl) ?_
      obtain ⟨z14, ez14, iz14, hf⟩ := rf_gi_s hw hf
      refine rf_geti B hw 72 (by decide) rfl lk_150 ez14 dX12_doStatement_74 ?_
      refine rn_if_ne (a := z14) (tgt := 93) hx hb iz14 dX12_doStatement_77 (by decide) (fun c15 => ?_) (fun c15 => ?_)
      · replace hf := rf_if_t hf c15
        refine lv_iconst (v := rI 0) hx hb dX12_doStatement_93 rfl ?_
        exact ps_doStatement_94 hR B σ12 0 ⟨by decide, by decide⟩ hf _ _ _ hw (lv_sub hl [0] rfl)
      · replace hf := rf_if_f hf c15
        refine lv_aload_n hx hb dX12_doStatement_80 rfl (lv_at hl 0 rfl) ?_
        refine lv_aload_n hx hb dX12_doStatement_81 rfl (lv_at hl 0 rfl) ?_
        obtain ⟨z16, ez16, iz16, hf⟩ := rf_gi_s hw hf
        refine rf_geti B hw 79 (by decide) rfl lk_284 ez16 dX12_doStatement_82 ?_
        refine lv_iconst (v := rI 0) hx hb dX12_doStatement_85 rfl ?_
        refine lv_iconst (v := rI 0) hx hb dX12_doStatement_86 rfl ?_
        obtain ⟨σ17, z18, hσ17, hf⟩ := rf_cl_s hf
        obtain ⟨iz18, mσ17⟩ := hR 41 σ12 [z16, 0, 0] σ17 z18 hσ17
        have mσ17 : rf_Met l v yX12_normal cX12_normal 12 (some .int) d [.ref (rf_h v), .int (rI z16), .int (rI 0), .int (rI 0)] σ12 σ17 (some (.int (rI z18))) := mσ17 iz16 ⟨by decide, by decide⟩ ⟨by decide, by decide⟩
        refine rf_cv (n := 3) (rest := []) (As := [.int (rI z16), .int (rI 0), .int (rI 0)]) B mσ17 g_396_normal (by decide +kernel) (by decide) rfl hl.1 (Nat.le_of_ble_eq_true rfl) dX12_doStatement_87 rfl hw (fun H locs hw => ?_)
        refine lv_goto (tgt := 94) hx hb dX12_doStatement_90 (by decide) ?_
        exact ps_doStatement_94 hR B σ17 z18 iz18 hf _ _ _ hw (lv_sub hl [0] rfl)
  · replace hf := rf_if_f hf c2
    by_cases c19 : z1 = 4
    · replace hf := rf_if_t hf c19
      refine rn_tab (n := 4) (tgt := 176) hx hb iz1 c19 dX12_doStatement_24 (by decide) (by decide) rfl (by decide) ?_
      refine lv_aload_n hx hb dX12_doStatement_176 rfl (lv_at hl 0 rfl) ?_
      refine lv_aload_n hx hb dX12_doStatement_177 rfl (lv_at hl 0 rfl) ?_
      obtain ⟨z20, ez20, iz20, hf⟩ := rf_gi_s hw hf
      refine rf_geti B hw 78 (by decide) rfl lk_281 ez20 dX12_doStatement_178 ?_
      refine lv_iconst (v := rI 0) hx hb dX12_doStatement_181 rfl ?_
      obtain ⟨σ21, z22, hσ21, hf⟩ := rf_cl_s hf
      obtain ⟨iz22, mσ21⟩ := hR 49 σ [z20, 0] σ21 z22 hσ21
      have mσ21 : rf_Met l v yX12_judge cX12_judge 3 none d [.ref (rf_h v), .int (rI z20), .int (rI 0)] σ σ21 none := mσ21 iz20 ⟨by decide, by decide⟩
      refine rf_cv (n := 2) (rest := []) (As := [.int (rI z20), .int (rI 0)]) B mσ21 g_421_judge (by decide +kernel) (by decide) rfl hl.1 (Nat.le_of_ble_eq_true rfl) dX12_doStatement_182 rfl hw (fun H locs hw => ?_)
      refine lv_aload_n hx hb dX12_doStatement_185 rfl (lv_at hl 0 rfl) ?_
      refine lv_aload_n hx hb dX12_doStatement_186 rfl (lv_at hl 0 rfl) ?_
      obtain ⟨z23, ez23, iz23, hf⟩ := rf_gi_s hw hf
      refine rf_geti B hw 78 (by decide) rfl lk_281 ez23 dX12_doStatement_187 ?_
      obtain ⟨σ24, z25, hσ24, hf⟩ := rf_cl_s hf
      obtain ⟨iz25, mσ24⟩ := hR 60 σ21 [z23] σ24 z25 hσ24
      have mσ24 : rf_Met l v yX12_tellLine cX12_tellLine 2 none d [.ref (rf_h v), .int (rI z23)] σ21 σ24 none := mσ24 iz23
      refine rf_cv (n := 1) (rest := []) (As := [.int (rI z23)]) B mσ24 g_459_tellLine (by decide +kernel) (by decide) rfl hl.1 (Nat.le_of_ble_eq_true rfl) dX12_doStatement_190 rfl hw (fun H locs hw => ?_)
      refine lv_goto (tgt := 272) hx hb dX12_doStatement_193 (by decide) ?_
      exact rf_retv B hf hw dX12_doStatement_272
    · replace hf := rf_if_f hf c19
      by_cases c26 : z1 = 5
      · replace hf := rf_if_t hf c26
        refine rn_tab (n := 5) (tgt := 212) hx hb iz1 c26 dX12_doStatement_24 (by decide) (by decide) rfl (by decide) ?_
        refine lv_aload_n hx hb dX12_doStatement_212 rfl (lv_at hl 0 rfl) ?_
        refine lv_aload_n hx hb dX12_doStatement_213 rfl (lv_at hl 0 rfl) ?_
        obtain ⟨z27, ez27, iz27, hf⟩ := rf_gi_s hw hf
        refine rf_geti B hw 78 (by decide) rfl lk_281 ez27 dX12_doStatement_214 ?_
        refine lv_iconst (v := rI 0) hx hb dX12_doStatement_217 rfl ?_
        obtain ⟨σ28, z29, hσ28, hf⟩ := rf_cl_s hf
        obtain ⟨iz29, mσ28⟩ := hR 49 σ [z27, 0] σ28 z29 hσ28
        have mσ28 : rf_Met l v yX12_judge cX12_judge 3 none d [.ref (rf_h v), .int (rI z27), .int (rI 0)] σ σ28 none := mσ28 iz27 ⟨by decide, by decide⟩
        refine rf_cv (n := 2) (rest := []) (As := [.int (rI z27), .int (rI 0)]) B mσ28 g_421_judge (by decide +kernel) (by decide) rfl hl.1 (Nat.le_of_ble_eq_true rfl) dX12_doStatement_218 rfl hw (fun H locs hw => ?_)
        refine lv_aload_n hx hb dX12_doStatement_221 rfl (lv_at hl 0 rfl) ?_
        refine lv_aload_n hx hb dX12_doStatement_222 rfl (lv_at hl 0 rfl) ?_
        obtain ⟨z30, ez30, iz30, hf⟩ := rf_gi_s hw hf
        refine rf_geti B hw 79 (by decide) rfl lk_284 ez30 dX12_doStatement_223 ?_
        refine lv_iconst (v := rI 0) hx hb dX12_doStatement_226 rfl ?_
        obtain ⟨σ31, z32, hσ31, hf⟩ := rf_cl_s hf
        obtain ⟨iz32, mσ31⟩ := hR 49 σ28 [z30, 0] σ31 z32 hσ31
        have mσ31 : rf_Met l v yX12_judge cX12_judge 3 none d [.ref (rf_h v), .int (rI z30), .int (rI 0)] σ28 σ31 none := mσ31 iz30 ⟨by decide, by decide⟩
        refine rf_cv (n := 2) (rest := []) (As := [.int (rI z30), .int (rI 0)]) B mσ31 g_421_judge (by decide +kernel) (by decide) rfl hl.1 (Nat.le_of_ble_eq_true rfl) dX12_doStatement_227 rfl hw (fun H locs hw => ?_)
        refine lv_aload_n hx hb dX12_doStatement_230 rfl (lv_at hl 0 rfl) ?_
        obtain ⟨z33, ez33, iz33, hf⟩ := rf_gi_s hw hf
        refine rf_geti B hw 72 (by decide) rfl lk_150 ez33 dX12_doStatement_231 ?_
        refine rn_if_ne (a := z33) (tgt := 272) hx hb iz33 dX12_doStatement_234 (by decide) (fun c34 => ?_) (fun c34 => ?_)
        · replace hf := rf_if_t hf c34
          exact rf_retv B hf hw dX12_doStatement_272
        · replace hf := rf_if_f hf c34
          refine lv_aload_n hx hb dX12_doStatement_237 rfl (lv_at hl 0 rfl) ?_
          refine lv_aload_n hx hb dX12_doStatement_238 rfl (lv_at hl 0 rfl) ?_
          obtain ⟨z35, ez35, iz35, hf⟩ := rf_gi_s hw hf
          refine rf_geti B hw 78 (by decide) rfl lk_281 ez35 dX12_doStatement_239 ?_
          refine lv_iconst (v := rI 0) hx hb dX12_doStatement_242 rfl ?_
          refine lv_aload_n hx hb dX12_doStatement_243 rfl (lv_at hl 0 rfl) ?_
          obtain ⟨z36, ez36, iz36, hf⟩ := rf_gi_s hw hf
          refine rf_geti B hw 79 (by decide) rfl lk_284 ez36 dX12_doStatement_244 ?_
          refine lv_iconst (v := rI 0) hx hb dX12_doStatement_247 rfl ?_
          refine lv_iconst (v := rI 0) hx hb dX12_doStatement_248 rfl ?_
          obtain ⟨σ37, z38, hσ37, hf⟩ := rf_cl_s hf
          obtain ⟨iz38, mσ37⟩ := hR 35 σ31 [z35, 0, z36, 0, 0] σ37 z38 hσ37
          have mσ37 : rf_Met l v yX12_compare cX12_compare 13 (some .boolean) d [.ref (rf_h v), .int (rI z35), .int (rI 0), .int (rI z36), .int (rI 0), .int (rI 0)] σ31 σ37 (some (.int (rI z38))) := mσ37 iz35 ⟨by decide, by decide⟩ iz36 ⟨by decide, by decide⟩ ⟨by decide, by decide⟩
          refine rf_cv (n := 5) (rest := []) (As := [.int (rI z35), .int (rI 0), .int (rI z36), .int (rI 0), .int (rI 0)]) B mσ37 g_366_compare (by decide +kernel) (by decide) rfl hl.1 (Nat.le_of_ble_eq_true rfl) dX12_doStatement_249 rfl hw (fun H locs hw => ?_)
          refine lv_istore_n (lv' := [(1, .int (rI z38)), (0, .ref (rf_h v))]) hx hb dX12_doStatement_252 rfl hl (by decide) rfl (fun ls hl => ?_)
          refine lv_aload_n hx hb dX12_doStatement_253 rfl (lv_at hl 1 rfl) ?_
          obtain ⟨z39, ez39, iz39, hf⟩ := rf_gi_s hw hf
          refine rf_geti B hw 72 (by decide) rfl lk_150 ez39 dX12_doStatement_254 ?_
          refine rn_if_ne (a := z39) (tgt := 265) hx hb iz39 dX12_doStatement_257 (by decide) (fun c40 => ?_) (fun c40 => ?_)
          · replace hf := rf_if_t hf c40
            refine lv_goto (tgt := 272) hx hb dX12_doStatement_265 (by decide) ?_
            exact rf_retv B hf hw dX12_doStatement_272
          · replace hf := rf_if_f hf c40
            refine lv_aload_n hx hb dX12_doStatement_260 rfl (lv_at hl 1 rfl) ?_
            refine lv_iload_n hx hb dX12_doStatement_261 rfl (lv_at hl 0 rfl) ?_
            obtain ⟨σ41, z42, hσ41, hf⟩ := rf_cl_s hf
            obtain ⟨iz42, mσ41⟩ := hR 57 σ37 [z38] σ41 z42 hσ41
            have mσ41 : rf_Met l v yX12_yes cX12_yes 2 none d [.ref (rf_h v), .int (rI z38)] σ37 σ41 none := mσ41 iz38
            refine rf_cv (n := 1) (rest := []) (As := [.int (rI z38)]) B mσ41 g_455_yes (by decide +kernel) (by decide) rfl hl.1 (Nat.le_of_ble_eq_true rfl) dX12_doStatement_262 rfl hw (fun H locs hw => ?_)
            refine lv_goto (tgt := 272) hx hb dX12_doStatement_265 (by decide) ?_
            exact rf_retv B hf hw dX12_doStatement_272
      · replace hf := rf_if_f hf c26
        by_cases c43 : z1 = 6
        · replace hf := rf_if_t hf c43
          refine rn_tab (n := 6) (tgt := 196) hx hb iz1 c43 dX12_doStatement_24 (by decide) (by decide) rfl (by decide) ?_
          refine lv_aload_n hx hb dX12_doStatement_196 rfl (lv_at hl 0 rfl) ?_
          refine lv_aload_n hx hb dX12_doStatement_197 rfl (lv_at hl 0 rfl) ?_
          obtain ⟨z44, ez44, iz44, hf⟩ := rf_gi_s hw hf
          refine rf_geti B hw 78 (by decide) rfl lk_281 ez44 dX12_doStatement_198 ?_
          refine lv_iconst (v := rI 0) hx hb dX12_doStatement_201 rfl ?_
          obtain ⟨σ45, z46, hσ45, hf⟩ := rf_cl_s hf
          obtain ⟨iz46, mσ45⟩ := hR 49 σ [z44, 0] σ45 z46 hσ45
          have mσ45 : rf_Met l v yX12_judge cX12_judge 3 none d [.ref (rf_h v), .int (rI z44), .int (rI 0)] σ σ45 none := mσ45 iz44 ⟨by decide, by decide⟩
          refine rf_cv (n := 2) (rest := []) (As := [.int (rI z44), .int (rI 0)]) B mσ45 g_421_judge (by decide +kernel) (by decide) rfl hl.1 (Nat.le_of_ble_eq_true rfl) dX12_doStatement_202 rfl hw (fun H locs hw => ?_)
          refine lv_aload_n hx hb dX12_doStatement_205 rfl (lv_at hl 0 rfl) ?_
          obtain ⟨σ47, z48, hσ47, hf⟩ := rf_cl_s hf
          obtain ⟨iz48, mσ47⟩ := hR 61 σ45 [] σ47 z48 hσ47
          have mσ47 : rf_Met l v yX12_tellHead cX12_tellHead 2 none d [.ref (rf_h v)] σ45 σ47 none := mσ47
          refine rf_cv (n := 0) (rest := []) (As := []) B mσ47 g_462_tellHead (by decide +kernel) (by decide) rfl hl.1 (Nat.le_of_ble_eq_true rfl) dX12_doStatement_206 rfl hw (fun H locs hw => ?_)
          refine lv_goto (tgt := 272) hx hb dX12_doStatement_209 (by decide) ?_
          exact rf_retv B hf hw dX12_doStatement_272
        · replace hf := rf_if_f hf c43
          refine rn_tabO (tgt := 268) hx hb iz1 dX12_doStatement_24 (by omega) (by decide) ?_
          refine lv_aload_n hx hb dX12_doStatement_268 rfl (lv_at hl 0 rfl) ?_
          obtain ⟨σ49, z50, hσ49, hf⟩ := rf_cl_s hf
          obtain ⟨iz50, mσ49⟩ := hR 58 σ [] σ49 z50 hσ49
          have mσ49 : rf_Met l v yX12_told cX12_told 4 none d [.ref (rf_h v)] σ σ49 none := mσ49
          refine rf_cv (n := 0) (rest := []) (As := []) B mσ49 g_465_told (by decide +kernel) (by decide) rfl hl.1 (Nat.le_of_ble_eq_true rfl) dX12_doStatement_269 rfl hw (fun H locs hw => ?_)
          exact rf_retv B hf hw dX12_doStatement_272

set_option maxHeartbeats 4000000 in
set_option maxRecDepth 100000 in
theorem ps_doStatement_0 {v : rfE} {p : Program} {l : Launch} {e : Env} {s : State} {m : MethodId} {args : Array Value} {below : List Frame} {meth : Method} {c : Code} {d : Nat} {rec : Nat → RS → List Int → Option (RS × Int)} {σ' : RS} {r : Int} (hR : rf_Rec l v d rec) (B : rf_B v p s m args meth c cX12_doStatement 2 none) : ∀ (σ : RS), pf_doStatement_0 rec σ = some (σ', r) → ∀ (H : Heap) (locs : List Loc) (ls : Array Slot), rf_W v s σ H locs → lv_has ls 2 [(0, .ref (rf_h v))] → W p l e (rf_rm (d + 1)) s m args below meth c H locs 0 0 (MQ below (rf_Q v σ' none) args s 0 0 (rf_F v)) (F0 m 0 ls []) := by
  obtain ⟨hx, hb, hr, hml, hown, hts, hlk, hK, hD⟩ := id B
  intro σ hf H locs ls hw hl
  unfold pf_doStatement_0 at hf
  refine lv_aload_n hx hb dX12_doStatement_0 rfl (lv_at hl 0 rfl) ?_
  obtain ⟨z1, ez1, iz1, hf⟩ := rf_gi_s hw hf
  refine rf_geti B hw 76 (by decide) rfl lk_278 ez1 dX12_doStatement_1 ?_
  refine rn_if_lt (a := z1) (tgt := 20) hx hb iz1 dX12_doStatement_4 (by decide) (fun c2 => ?_) (fun c2 => ?_)
  · replace hf := rf_if_t hf c2
    exact ps_doStatement_20 hR B σ hf _ _ _ hw (lv_sub hl [0] rfl)
  · replace hf := rf_if_f hf c2
    refine lv_aload_n hx hb dX12_doStatement_7 rfl (lv_at hl 0 rfl) ?_
    obtain ⟨z3, ez3, iz3, hf⟩ := rf_gi_s hw hf
    refine rf_geti B hw 76 (by decide) rfl lk_278 ez3 dX12_doStatement_8 ?_
    refine lv_iconst (v := rI 2) hx hb dX12_doStatement_11 rfl ?_
    refine rn_icmp_gt (a := z3) (b := 2) (tgt := 20) hx hb iz3 ⟨by decide, by decide⟩ dX12_doStatement_12 (by decide) (fun c4 => ?_) (fun c4 => ?_)
    · replace hf := rf_if_t hf c4
      exact ps_doStatement_20 hR B σ hf _ _ _ hw (lv_sub hl [0] rfl)
    · replace hf := rf_if_f hf c4
      refine lv_aload_n hx hb dX12_doStatement_15 rfl (lv_at hl 0 rfl) ?_
      obtain ⟨σ5, z6, hσ5, hf⟩ := rf_cl_s hf
      obtain ⟨iz6, mσ5⟩ := hR 56 σ [] σ5 z6 hσ5
      have mσ5 : rf_Met l v yX12_tables cX12_tables 4 none d [.ref (rf_h v)] σ σ5 none := mσ5
      refine rf_cv (n := 0) (rest := []) (As := []) B mσ5 g_452_tables (by decide +kernel) (by decide) rfl hl.1 (Nat.le_of_ble_eq_true rfl) dX12_doStatement_16 rfl hw (fun H locs hw => ?_)
      exact rf_retv B hf hw dX12_doStatement_19

set_option maxHeartbeats 4000000 in
set_option maxRecDepth 100000 in
theorem pm_doStatement {v : rfE} (hD : rf_D v) {l : Launch} {d : Nat} {rec : Nat → RS → List Int → Option (RS × Int)} (hR : rf_Rec l v d rec) (σ σ' : RS) (r : Int) (hf : pf_doStatement_0 rec σ = some (σ', r)) : rf_Met l v yX12_doStatement cX12_doStatement 2 none (d + 1) [.ref (rf_h v)] σ σ' none := by
  refine Met.ofW (cc := cX12_doStatement) (maxL := 2) (ret := none) (by decide +kernel) rfl ?_
  intro p e s m args below meth c s₁ B hml hv
  obtain ⟨rfl, hM, hK⟩ := hv
  have hts := atoms_spec (ws := Cond.code yX12_doStatement cX12_doStatement 2 none :: rf_bw) B.pre
  have hB : rf_B v p s m _ meth c cX12_doStatement 2 none := ⟨B.exec, B.bytes, B.returns, hml, findClass_of_methodNamed B.named, fun w h => hts w (List.mem_cons_of_mem _ h), B.notSynchronized, hK, hD⟩
  have hl := lv_entry ([.ref (rf_h v)]) (n := 2) (Nat.le_of_ble_eq_true rfl)
  rw [lg_entry_eq]
  generalize (lg_sl ([.ref (rf_h v)]) ++ List.replicate (2 - (lg_sl ([.ref (rf_h v)])).length) Slot.unset).toArray = ls at hl ⊢
  exact ps_doStatement_0 hR hB σ hf _ _ _ ⟨hM, rfl, fun _ _ => rfl, fun q h => by cases h⟩ (lv_sub hl [0] rfl)

set_option maxHeartbeats 4000000 in
set_option maxRecDepth 100000 in
theorem ps_tellLine_0 {v : rfE} {p : Program} {l : Launch} {e : Env} {s : State} {m : MethodId} {args : Array Value} {below : List Frame} {meth : Method} {c : Code} {d : Nat} {rec : Nat → RS → List Int → Option (RS × Int)} {σ' : RS} {r : Int} (hR : rf_Rec l v d rec) (B : rf_B v p s m args meth c cX12_tellLine 2 none) : ∀ (σ : RS) (x1 : Int), inR x1 → pf_tellLine_0 rec σ x1 = some (σ', r) → ∀ (H : Heap) (locs : List Loc) (ls : Array Slot), rf_W v s σ H locs → lv_has ls 2 [(0, .ref (rf_h v)), (1, .int (rI x1))] → W p l e (rf_rm (d + 1)) s m args below meth c H locs 0 0 (MQ below (rf_Q v σ' none) args s 0 0 (rf_F v)) (F0 m 0 ls []) := by
  obtain ⟨hx, hb, hr, hml, hown, hts, hlk, hK, hD⟩ := id B
  intro σ x1 ix1 hf H locs ls hw hl
  unfold pf_tellLine_0 at hf
  refine lv_aload_n hx hb dX12_tellLine_0 rfl (lv_at hl 0 rfl) ?_
  obtain ⟨z1, ez1, iz1, hf⟩ := rf_gi_s hw hf
  refine rf_geti B hw 72 (by decide) rfl lk_150 ez1 dX12_tellLine_1 ?_
  refine rn_if_eq (a := z1) (tgt := 8) hx hb iz1 dX12_tellLine_4 (by decide) (fun c2 => ?_) (fun c2 => ?_)
  · replace hf := rf_if_t hf c2
    refine lv_aload_n hx hb dX12_tellLine_8 rfl (lv_at hl 0 rfl) ?_
    refine lv_iload_n hx hb dX12_tellLine_9 rfl (lv_at hl 1 rfl) ?_
    refine lv_iconst (v := rI 0) hx hb dX12_tellLine_10 rfl ?_
    refine lv_iconst (v := rI 0) hx hb dX12_tellLine_11 rfl ?_
    refine lv_iconst (v := rI 0) hx hb dX12_tellLine_12 rfl ?_
    refine lv_iconst (v := rI 0) hx hb dX12_tellLine_13 rfl ?_
    obtain ⟨σ3, z4, hσ3, hf⟩ := rf_cl_s hf
    obtain ⟨iz4, mσ3⟩ := hR 40 σ [x1, 0, 0, 0, 0] σ3 z4 hσ3
    have mσ3 : rf_Met l v yX12_tell cX12_tell 14 none d [.ref (rf_h v), .int (rI x1), .int (rI 0), .int (rI 0), .int (rI 0), .int (rI 0)] σ σ3 none := mσ3 ix1 ⟨by decide, by decide⟩ ⟨by decide, by decide⟩ ⟨by decide, by decide⟩ ⟨by decide, by decide⟩
    refine rf_cv (n := 5) (rest := []) (As := [.int (rI x1), .int (rI 0), .int (rI 0), .int (rI 0), .int (rI 0)]) B mσ3 g_387_tell (by decide +kernel) (by decide) rfl hl.1 (Nat.le_of_ble_eq_true rfl) dX12_tellLine_14 rfl hw (fun H locs hw => ?_)
    refine lv_aload_n hx hb dX12_tellLine_17 rfl (lv_at hl 0 rfl) ?_
    obtain ⟨z5, ez5, iz5, hf⟩ := rf_gi_s hw hf
    refine rf_geti B hw 72 (by decide) rfl lk_150 ez5 dX12_tellLine_18 ?_
    refine rn_if_ne (a := z5) (tgt := 30) hx hb iz5 dX12_tellLine_21 (by decide) (fun c6 => ?_) (fun c6 => ?_)
    · replace hf := rf_if_t hf c6
      exact rf_retv B hf hw dX12_tellLine_30
    · replace hf := rf_if_f hf c6
      refine lv_aload_n hx hb dX12_tellLine_24 rfl (lv_at hl 0 rfl) ?_
      refine lv_bipush (v := rI 10) hx hb dX12_tellLine_25 (by decide +kernel) ?_
      obtain ⟨σ7, z8, hσ7, hf⟩ := rf_cl_s hf
      obtain ⟨iz8, mσ7⟩ := hR 37 σ3 [10] σ7 z8 hσ7
      have mσ7 : rf_Met l v yX12_put cX12_put 2 none d [.ref (rf_h v), .int (rI 10)] σ3 σ7 none := mσ7 ⟨by decide, by decide⟩
      refine rf_cv (n := 1) (rest := []) (As := [.int (rI 10)]) B mσ7 g_384_put (by decide +kernel) (by decide) rfl hl.1 (Nat.le_of_ble_eq_true rfl) dX12_tellLine_27 rfl hw (fun H locs hw => ?_)
      exact rf_retv B hf hw dX12_tellLine_30
  · replace hf := rf_if_f hf c2
    exact rf_retv B hf hw dX12_tellLine_7

set_option maxHeartbeats 4000000 in
set_option maxRecDepth 100000 in
theorem pm_tellLine {v : rfE} (hD : rf_D v) {l : Launch} {d : Nat} {rec : Nat → RS → List Int → Option (RS × Int)} (hR : rf_Rec l v d rec) (σ σ' : RS) (x1 r : Int) (ix1 : inR x1) (hf : pf_tellLine_0 rec σ x1 = some (σ', r)) : rf_Met l v yX12_tellLine cX12_tellLine 2 none (d + 1) [.ref (rf_h v), .int (rI x1)] σ σ' none := by
  refine Met.ofW (cc := cX12_tellLine) (maxL := 2) (ret := none) (by decide +kernel) rfl ?_
  intro p e s m args below meth c s₁ B hml hv
  obtain ⟨rfl, hM, hK⟩ := hv
  have hts := atoms_spec (ws := Cond.code yX12_tellLine cX12_tellLine 2 none :: rf_bw) B.pre
  have hB : rf_B v p s m _ meth c cX12_tellLine 2 none := ⟨B.exec, B.bytes, B.returns, hml, findClass_of_methodNamed B.named, fun w h => hts w (List.mem_cons_of_mem _ h), B.notSynchronized, hK, hD⟩
  have hl := lv_entry ([.ref (rf_h v), .int (rI x1)]) (n := 2) (Nat.le_of_ble_eq_true rfl)
  rw [lg_entry_eq]
  generalize (lg_sl ([.ref (rf_h v), .int (rI x1)]) ++ List.replicate (2 - (lg_sl ([.ref (rf_h v), .int (rI x1)])).length) Slot.unset).toArray = ls at hl ⊢
  exact ps_tellLine_0 hR hB σ x1 ix1 hf _ _ _ ⟨hM, rfl, fun _ _ => rfl, fun q h => by cases h⟩ (lv_sub hl [0, 1] rfl)

set_option maxHeartbeats 4000000 in
set_option maxRecDepth 100000 in
theorem ps_tellHead_130 {v : rfE} {p : Program} {l : Launch} {e : Env} {s : State} {m : MethodId} {args : Array Value} {below : List Frame} {meth : Method} {c : Code} {d : Nat} {rec : Nat → RS → List Int → Option (RS × Int)} {σ' : RS} {r : Int} (hR : rf_Rec l v d rec) (B : rf_B v p s m args meth c cX12_tellHead 2 none) : ∀ (σ : RS), pf_tellHead_130 rec σ = some (σ', r) → ∀ (H : Heap) (locs : List Loc) (ls : Array Slot), rf_W v s σ H locs → lv_has ls 2 [(0, .ref (rf_h v))] → W p l e (rf_rm (d + 1)) s m args below meth c H locs 0 0 (MQ below (rf_Q v σ' none) args s 0 0 (rf_F v)) (F0 m 130 ls []) := by
  obtain ⟨hx, hb, hr, hml, hown, hts, hlk, hK, hD⟩ := id B
  intro σ hf H locs ls hw hl
  unfold pf_tellHead_130 at hf
  refine lv_aload_n hx hb dX12_tellHead_130 rfl (lv_at hl 0 rfl) ?_
  refine lv_bipush (v := rI 32) hx hb dX12_tellHead_131 (by decide +kernel) ?_
  obtain ⟨σ1, z2, hσ1, hf⟩ := rf_cl_s hf
  obtain ⟨iz2, mσ1⟩ := hR 37 σ [32] σ1 z2 hσ1
  have mσ1 : rf_Met l v yX12_put cX12_put 2 none d [.ref (rf_h v), .int (rI 32)] σ σ1 none := mσ1 ⟨by decide, by decide⟩
  refine rf_cv (n := 1) (rest := []) (As := [.int (rI 32)]) B mσ1 g_384_put (by decide +kernel) (by decide) rfl hl.1 (Nat.le_of_ble_eq_true rfl) dX12_tellHead_133 rfl hw (fun H locs hw => ?_)
  refine lv_aload_n hx hb dX12_tellHead_136 rfl (lv_at hl 0 rfl) ?_
  refine lv_aload_n hx hb dX12_tellHead_137 rfl (lv_at hl 0 rfl) ?_
  obtain ⟨z3, ez3, iz3, hf⟩ := rf_gi_s hw hf
  refine rf_geti B hw 51 (by decide) rfl lk_324 ez3 dX12_tellHead_138 ?_
  obtain ⟨σ4, z5, hσ4, hf⟩ := rf_cl_s hf
  obtain ⟨iz5, mσ4⟩ := hR 38 σ1 [z3] σ4 z5 hσ4
  have mσ4 : rf_Met l v yX12_number cX12_number 2 none d [.ref (rf_h v), .int (rI z3)] σ1 σ4 none := mσ4 iz3
  refine rf_cv (n := 1) (rest := []) (As := [.int (rI z3)]) B mσ4 g_381_number (by decide +kernel) (by decide) rfl hl.1 (Nat.le_of_ble_eq_true rfl) dX12_tellHead_141 rfl hw (fun H locs hw => ?_)
  refine lv_aload_n hx hb dX12_tellHead_144 rfl (lv_at hl 0 rfl) ?_
  refine lv_bipush (v := rI 10) hx hb dX12_tellHead_145 (by decide +kernel) ?_
  obtain ⟨σ6, z7, hσ6, hf⟩ := rf_cl_s hf
  obtain ⟨iz7, mσ6⟩ := hR 37 σ4 [10] σ6 z7 hσ6
  have mσ6 : rf_Met l v yX12_put cX12_put 2 none d [.ref (rf_h v), .int (rI 10)] σ4 σ6 none := mσ6 ⟨by decide, by decide⟩
  refine rf_cv (n := 1) (rest := []) (As := [.int (rI 10)]) B mσ6 g_384_put (by decide +kernel) (by decide) rfl hl.1 (Nat.le_of_ble_eq_true rfl) dX12_tellHead_147 rfl hw (fun H locs hw => ?_)
  exact rf_retv B hf hw dX12_tellHead_150

set_option maxHeartbeats 4000000 in
set_option maxRecDepth 100000 in
theorem ps_tellHead_0 {v : rfE} {p : Program} {l : Launch} {e : Env} {s : State} {m : MethodId} {args : Array Value} {below : List Frame} {meth : Method} {c : Code} {d : Nat} {rec : Nat → RS → List Int → Option (RS × Int)} {σ' : RS} {r : Int} (hR : rf_Rec l v d rec) (B : rf_B v p s m args meth c cX12_tellHead 2 none) : ∀ (σ : RS), pf_tellHead_0 rec σ = some (σ', r) → ∀ (H : Heap) (locs : List Loc) (ls : Array Slot), rf_W v s σ H locs → lv_has ls 2 [(0, .ref (rf_h v))] → W p l e (rf_rm (d + 1)) s m args below meth c H locs 0 0 (MQ below (rf_Q v σ' none) args s 0 0 (rf_F v)) (F0 m 0 ls []) := by
  obtain ⟨hx, hb, hr, hml, hown, hts, hlk, hK, hD⟩ := id B
  intro σ hf H locs ls hw hl
  unfold pf_tellHead_0 at hf
  refine lv_aload_n hx hb dX12_tellHead_0 rfl (lv_at hl 0 rfl) ?_
  refine lv_aload_n hx hb dX12_tellHead_1 rfl (lv_at hl 0 rfl) ?_
  obtain ⟨z1, ez1, iz1, hf⟩ := rf_gi_s hw hf
  refine rf_geti B hw 78 (by decide) rfl lk_281 ez1 dX12_tellHead_2 ?_
  refine lv_iconst (v := rI 0) hx hb dX12_tellHead_5 rfl ?_
  obtain ⟨σ2, z3, hσ2, hf⟩ := rf_cl_s hf
  obtain ⟨iz3, mσ2⟩ := hR 32 σ [z1, 0] σ2 z3 hσ2
  have mσ2 : rf_Met l v yX12_head cX12_head 8 none d [.ref (rf_h v), .int (rI z1), .int (rI 0)] σ σ2 none := mσ2 iz1 ⟨by decide, by decide⟩
  refine rf_cv (n := 2) (rest := []) (As := [.int (rI z1), .int (rI 0)]) B mσ2 g_357_head (by decide +kernel) (by decide) rfl hl.1 (Nat.le_of_ble_eq_true rfl) dX12_tellHead_6 rfl hw (fun H locs hw => ?_)
  refine lv_aload_n hx hb dX12_tellHead_9 rfl (lv_at hl 0 rfl) ?_
  obtain ⟨z4, ez4, iz4, hf⟩ := rf_gi_s hw hf
  refine rf_geti B hw 72 (by decide) rfl lk_150 ez4 dX12_tellHead_10 ?_
  refine rn_if_eq (a := z4) (tgt := 17) hx hb iz4 dX12_tellHead_13 (by decide) (fun c5 => ?_) (fun c5 => ?_)
  · replace hf := rf_if_t hf c5
    refine lv_aload_n hx hb dX12_tellHead_17 rfl (lv_at hl 0 rfl) ?_
    refine lv_aload_n hx hb dX12_tellHead_18 rfl (lv_at hl 0 rfl) ?_
    obtain ⟨z6, ez6, iz6, hf⟩ := rf_gi_s hw hf
    refine rf_geti B hw 52 (by decide) rfl lk_348 ez6 dX12_tellHead_19 ?_
    obtain ⟨σ7, z8, hσ7, hf⟩ := rf_cl_s hf
    obtain ⟨iz8, mσ7⟩ := hR 33 σ2 [z6] σ7 z8 hσ7
    have mσ7 : rf_Met l v yX12_kindOf cX12_kindOf 2 (some .int) d [.ref (rf_h v), .int (rI z6)] σ2 σ7 (some (.int (rI z8))) := mσ7 iz6
    refine rf_cv (n := 1) (rest := []) (As := [.int (rI z6)]) B mσ7 g_363_kindOf (by decide +kernel) (by decide) rfl hl.1 (Nat.le_of_ble_eq_true rfl) dX12_tellHead_22 rfl hw (fun H locs hw => ?_)
    refine lv_istore_n (lv' := [(1, .int (rI z8)), (0, .ref (rf_h v))]) hx hb dX12_tellHead_25 rfl hl (by decide) rfl (fun ls hl => ?_)
    refine lv_iload_n hx hb dX12_tellHead_26 rfl (lv_at hl 0 rfl) ?_
    refine lv_iconst (v := rI 4) hx hb dX12_tellHead_27 rfl ?_
    refine rn_icmp_ne (a := z8) (b := 4) (tgt := 40) hx hb iz8 ⟨by decide, by decide⟩ dX12_tellHead_28 (by decide) (fun c9 => ?_) (fun c9 => ?_)
    · replace hf := rf_if_t hf c9
      refine lv_iload_n hx hb dX12_tellHead_40 rfl (lv_at hl 0 rfl) ?_
      refine lv_iconst (v := rI 5) hx hb dX12_tellHead_41 rfl ?_
      refine rn_icmp_ne (a := z8) (b := 5) (tgt := 54) hx hb iz8 ⟨by decide, by decide⟩ dX12_tellHead_42 (by decide) (fun c10 => ?_) (fun c10 => ?_)
      · replace hf := rf_if_t hf c10
        refine lv_iload_n hx hb dX12_tellHead_54 rfl (lv_at hl 0 rfl) ?_
        refine lv_iconst (v := rI 3) hx hb dX12_tellHead_55 rfl ?_
        refine rn_icmp_ne (a := z8) (b := 3) (tgt := 96) hx hb iz8 ⟨by decide, by decide⟩ dX12_tellHead_56 (by decide) (fun c11 => ?_) (fun c11 => ?_)
        · replace hf := rf_if_t hf c11
          refine lv_aload_n hx hb dX12_tellHead_96 rfl (lv_at hl 1 rfl) ?_
          refine lv_bipush (v := rI 12) hx hb dX12_tellHead_97 (by decide +kernel) ?_
          refine lv_aload_n hx hb dX12_tellHead_99 rfl (lv_at hl 1 rfl) ?_
          refine rf_get (val := .ref (rf_ad v 31)) B hw 31 (by decide) lk_79 rfl dX12_tellHead_100 ?_
          refine lv_aload_n hx hb dX12_tellHead_103 rfl (lv_at hl 1 rfl) ?_
          obtain ⟨z12, ez12, iz12, hf⟩ := rf_gi_s hw hf
          refine rf_geti B hw 52 (by decide) rfl lk_348 ez12 dX12_tellHead_104 ?_
          obtain ⟨z13, ez13, iz13, rz13, hf⟩ := rf_rd_s hw hf
          refine rf_ald B hw iz12 rz13 ez13 dX12_tellHead_107 ?_
          obtain ⟨z14, ez14, iz14, hf⟩ := rf_ck_s hf
          refine rn_mul hx hb ez14 dX12_tellHead_108 ?_
          refine lv_aload_n hx hb dX12_tellHead_109 rfl (lv_at hl 1 rfl) ?_
          refine rf_get (val := .ref (rf_ad v 21)) B hw 21 (by decide) lk_54 rfl dX12_tellHead_110 ?_
          refine lv_aload_n hx hb dX12_tellHead_113 rfl (lv_at hl 1 rfl) ?_
          refine rf_get (val := .ref (rf_ad v 22)) B hw 22 (by decide) lk_57 rfl dX12_tellHead_114 ?_
          refine lv_aload_n hx hb dX12_tellHead_117 rfl (lv_at hl 1 rfl) ?_
          refine rf_get (val := .ref (rf_ad v 31)) B hw 31 (by decide) lk_79 rfl dX12_tellHead_118 ?_
          refine lv_aload_n hx hb dX12_tellHead_121 rfl (lv_at hl 1 rfl) ?_
          obtain ⟨z15, ez15, iz15, hf⟩ := rf_gi_s hw hf
          refine rf_geti B hw 52 (by decide) rfl lk_348 ez15 dX12_tellHead_122 ?_
          obtain ⟨z16, ez16, iz16, rz16, hf⟩ := rf_rd_s hw hf
          refine rf_ald B hw iz15 rz16 ez16 dX12_tellHead_125 ?_
          obtain ⟨z17, ez17, iz17, rz17, hf⟩ := rf_rd_s hw hf
          refine rf_ald B hw iz16 rz17 ez17 dX12_tellHead_126 ?_
          obtain ⟨σ18, z19, hσ18, hf⟩ := rf_cl_s hf
          obtain ⟨iz19, mσ18⟩ := hR 39 σ7 [z14, 21, z17] σ18 z19 hσ18
          have mσ18 : rf_Met l v yX12_putWord cX12_putWord 5 none d [.ref (rf_h v), .int (rI z14), .ref (rf_ad v 21), .int (rI z17)] σ7 σ18 none := mσ18 iz14 iz17
          refine rf_cv (n := 3) (rest := []) (As := [.int (rI z14), .ref (rf_ad v 21), .int (rI z17)]) B mσ18 g_392_putWord (by decide +kernel) (by decide) rfl hl.1 (Nat.le_of_ble_eq_true rfl) dX12_tellHead_127 rfl hw (fun H locs hw => ?_)
          exact ps_tellHead_130 hR B σ18 hf _ _ _ hw (lv_sub hl [1] rfl)
        · replace hf := rf_if_f hf c11
          refine lv_aload_n hx hb dX12_tellHead_59 rfl (lv_at hl 1 rfl) ?_
          refine lv_bipush (v := rI 12) hx hb dX12_tellHead_60 (by decide +kernel) ?_
          refine lv_aload_n hx hb dX12_tellHead_62 rfl (lv_at hl 1 rfl) ?_
          refine rf_get (val := .ref (rf_ad v 31)) B hw 31 (by decide) lk_79 rfl dX12_tellHead_63 ?_
          refine lv_aload_n hx hb dX12_tellHead_66 rfl (lv_at hl 1 rfl) ?_
          obtain ⟨z20, ez20, iz20, hf⟩ := rf_gi_s hw hf
          refine rf_geti B hw 52 (by decide) rfl lk_348 ez20 dX12_tellHead_67 ?_
          obtain ⟨z21, ez21, iz21, rz21, hf⟩ := rf_rd_s hw hf
          refine rf_ald B hw iz20 rz21 ez21 dX12_tellHead_70 ?_
          obtain ⟨z22, ez22, iz22, hf⟩ := rf_ck_s hf
          refine rn_mul hx hb ez22 dX12_tellHead_71 ?_
          refine lv_aload_n hx hb dX12_tellHead_72 rfl (lv_at hl 1 rfl) ?_
          refine rf_get (val := .ref (rf_ad v 16)) B hw 16 (by decide) lk_44 rfl dX12_tellHead_73 ?_
          refine lv_aload_n hx hb dX12_tellHead_76 rfl (lv_at hl 1 rfl) ?_
          refine rf_get (val := .ref (rf_ad v 17)) B hw 17 (by decide) lk_47 rfl dX12_tellHead_77 ?_
          refine lv_aload_n hx hb dX12_tellHead_80 rfl (lv_at hl 1 rfl) ?_
          refine rf_get (val := .ref (rf_ad v 31)) B hw 31 (by decide) lk_79 rfl dX12_tellHead_81 ?_
          refine lv_aload_n hx hb dX12_tellHead_84 rfl (lv_at hl 1 rfl) ?_
          obtain ⟨z23, ez23, iz23, hf⟩ := rf_gi_s hw hf
          refine rf_geti B hw 52 (by decide) rfl lk_348 ez23 dX12_tellHead_85 ?_
          obtain ⟨z24, ez24, iz24, rz24, hf⟩ := rf_rd_s hw hf
          refine rf_ald B hw iz23 rz24 ez24 dX12_tellHead_88 ?_
          obtain ⟨z25, ez25, iz25, rz25, hf⟩ := rf_rd_s hw hf
          refine rf_ald B hw iz24 rz25 ez25 dX12_tellHead_89 ?_
          obtain ⟨σ26, z27, hσ26, hf⟩ := rf_cl_s hf
          obtain ⟨iz27, mσ26⟩ := hR 39 σ7 [z22, 16, z25] σ26 z27 hσ26
          have mσ26 : rf_Met l v yX12_putWord cX12_putWord 5 none d [.ref (rf_h v), .int (rI z22), .ref (rf_ad v 16), .int (rI z25)] σ7 σ26 none := mσ26 iz22 iz25
          refine rf_cv (n := 3) (rest := []) (As := [.int (rI z22), .ref (rf_ad v 16), .int (rI z25)]) B mσ26 g_392_putWord (by decide +kernel) (by decide) rfl hl.1 (Nat.le_of_ble_eq_true rfl) dX12_tellHead_90 rfl hw (fun H locs hw => ?_)
          refine lv_goto (tgt := 130) hx hb dX12_tellHead_93 (by decide) ?_
          exact ps_tellHead_130 hR B σ26 hf _ _ _ hw (lv_sub hl [1] rfl)
      · replace hf := rf_if_f hf c10
        refine lv_aload_n hx hb dX12_tellHead_45 rfl (lv_at hl 1 rfl) ?_
        refine lv_bipush (v := rI 33) hx hb dX12_tellHead_46 (by decide +kernel) ?_
        obtain ⟨σ28, z29, hσ28, hf⟩ := rf_cl_s hf
        obtain ⟨iz29, mσ28⟩ := hR 37 σ7 [33] σ28 z29 hσ28
        have mσ28 : rf_Met l v yX12_put cX12_put 2 none d [.ref (rf_h v), .int (rI 33)] σ7 σ28 none := mσ28 ⟨by decide, by decide⟩
        refine rf_cv (n := 1) (rest := []) (As := [.int (rI 33)]) B mσ28 g_384_put (by decide +kernel) (by decide) rfl hl.1 (Nat.le_of_ble_eq_true rfl) dX12_tellHead_48 rfl hw (fun H locs hw => ?_)
        refine lv_goto (tgt := 130) hx hb dX12_tellHead_51 (by decide) ?_
        exact ps_tellHead_130 hR B σ28 hf _ _ _ hw (lv_sub hl [1] rfl)
    · replace hf := rf_if_f hf c9
      refine lv_aload_n hx hb dX12_tellHead_31 rfl (lv_at hl 1 rfl) ?_
      refine lv_bipush (v := rI 92) hx hb dX12_tellHead_32 (by decide +kernel) ?_
      obtain ⟨σ30, z31, hσ30, hf⟩ := rf_cl_s hf
      obtain ⟨iz31, mσ30⟩ := hR 37 σ7 [92] σ30 z31 hσ30
      have mσ30 : rf_Met l v yX12_put cX12_put 2 none d [.ref (rf_h v), .int (rI 92)] σ7 σ30 none := mσ30 ⟨by decide, by decide⟩
      refine rf_cv (n := 1) (rest := []) (As := [.int (rI 92)]) B mσ30 g_384_put (by decide +kernel) (by decide) rfl hl.1 (Nat.le_of_ble_eq_true rfl) dX12_tellHead_34 rfl hw (fun H locs hw => ?_)
      refine lv_goto (tgt := 130) hx hb dX12_tellHead_37 (by decide) ?_
      exact ps_tellHead_130 hR B σ30 hf _ _ _ hw (lv_sub hl [1] rfl)
  · replace hf := rf_if_f hf c5
    exact rf_retv B hf hw dX12_tellHead_16

set_option maxHeartbeats 4000000 in
set_option maxRecDepth 100000 in
theorem pm_tellHead {v : rfE} (hD : rf_D v) {l : Launch} {d : Nat} {rec : Nat → RS → List Int → Option (RS × Int)} (hR : rf_Rec l v d rec) (σ σ' : RS) (r : Int) (hf : pf_tellHead_0 rec σ = some (σ', r)) : rf_Met l v yX12_tellHead cX12_tellHead 2 none (d + 1) [.ref (rf_h v)] σ σ' none := by
  refine Met.ofW (cc := cX12_tellHead) (maxL := 2) (ret := none) (by decide +kernel) rfl ?_
  intro p e s m args below meth c s₁ B hml hv
  obtain ⟨rfl, hM, hK⟩ := hv
  have hts := atoms_spec (ws := Cond.code yX12_tellHead cX12_tellHead 2 none :: rf_bw) B.pre
  have hB : rf_B v p s m _ meth c cX12_tellHead 2 none := ⟨B.exec, B.bytes, B.returns, hml, findClass_of_methodNamed B.named, fun w h => hts w (List.mem_cons_of_mem _ h), B.notSynchronized, hK, hD⟩
  have hl := lv_entry ([.ref (rf_h v)]) (n := 2) (Nat.le_of_ble_eq_true rfl)
  rw [lg_entry_eq]
  generalize (lg_sl ([.ref (rf_h v)]) ++ List.replicate (2 - (lg_sl ([.ref (rf_h v)])).length) Slot.unset).toArray = ls at hl ⊢
  exact ps_tellHead_0 hR hB σ hf _ _ _ ⟨hM, rfl, fun _ _ => rfl, fun q h => by cases h⟩ (lv_sub hl [0] rfl)

set_option maxHeartbeats 4000000 in
set_option maxRecDepth 100000 in
theorem ps_text_17 {v : rfE} {p : Program} {l : Launch} {e : Env} {s : State} {m : MethodId} {args : Array Value} {below : List Frame} {meth : Method} {c : Code} {d : Nat} {rec : Nat → RS → List Int → Option (RS × Int)} {σ' : RS} {r : Int} (hR : rf_Rec l v d rec) (B : rf_B v p s m args meth c cX12_text 3 (some .int)) : ∀ (σ : RS), pf_text_17 rec σ = some (σ', r) → ∀ (H : Heap) (locs : List Loc) (ls : Array Slot), rf_W v s σ H locs → lv_has ls 3 [(0, .ref (rf_h v))] → W p l e (rf_rm (d + 1)) s m args below meth c H locs 0 0 (MQ below (rf_Q v σ' (some (.int (rI r)))) args s 0 0 (rf_F v)) (F0 m 17 ls []) := by
  obtain ⟨hx, hb, hr, hml, hown, hts, hlk, hK, hD⟩ := id B
  intro σ hf H locs ls hw hl
  unfold pf_text_17 at hf
  refine lv_aload_n hx hb dX12_text_17 rfl (lv_at hl 0 rfl) ?_
  refine lv_iconst (v := rI 1) hx hb dX12_text_18 rfl ?_
  obtain ⟨σ1, z2, hσ1, hf⟩ := rf_cl_s hf
  obtain ⟨iz2, mσ1⟩ := hR 2 σ [1] σ1 z2 hσ1
  have mσ1 : rf_Met l v yX12_fail cX12_fail 2 (some .int) d [.ref (rf_h v), .int (rI 1)] σ σ1 (some (.int (rI z2))) := mσ1 ⟨by decide, by decide⟩
  refine rf_cv (n := 1) (rest := []) (As := [.int (rI 1)]) B mσ1 g_468_fail (by decide +kernel) (by decide) rfl hl.1 (Nat.le_of_ble_eq_true rfl) dX12_text_19 rfl hw (fun H locs hw => ?_)
  exact rf_reti B hf hw dX12_text_22

set_option maxHeartbeats 4000000 in
set_option maxRecDepth 100000 in
theorem ps_text_183 {v : rfE} {p : Program} {l : Launch} {e : Env} {s : State} {m : MethodId} {args : Array Value} {below : List Frame} {meth : Method} {c : Code} {d : Nat} {rec : Nat → RS → List Int → Option (RS × Int)} {σ' : RS} {r : Int} (hR : rf_Rec l v d rec) (B : rf_B v p s m args meth c cX12_text 3 (some .int)) : ∀ (σ : RS) (t0 : Int), inR t0 → pf_text_183 rec σ t0 = some (σ', r) → ∀ (H : Heap) (locs : List Loc) (ls : Array Slot), rf_W v s σ H locs → lv_has ls 3 [(0, .ref (rf_h v))] → W p l e (rf_rm (d + 1)) s m args below meth c H locs 0 0 (MQ below (rf_Q v σ' (some (.int (rI r)))) args s 0 0 (rf_F v)) (F0 m 183 ls [.int (rI t0), .ref (rf_h v)]) := by
  obtain ⟨hx, hb, hr, hml, hown, hts, hlk, hK, hD⟩ := id B
  intro σ t0 it0 hf H locs ls hw hl
  unfold pf_text_183 at hf
  obtain ⟨σ1, eσ1, hf⟩ := rf_pi_s hf
  refine rf_put B hw 13 (by decide) rfl rfl lk_40 it0 eσ1 rfl rfl dX12_text_183 (fun H locs hw => ?_)
  refine lv_aload_n hx hb dX12_text_186 rfl (lv_at hl 0 rfl) ?_
  refine lv_iconst (v := rI 0) hx hb dX12_text_187 rfl ?_
  obtain ⟨σ2, eσ2, hf⟩ := rf_pi_s hf
  refine rf_put B hw 72 (by decide) rfl rfl lk_150 ⟨by decide, by decide⟩ eσ2 rfl rfl dX12_text_188 (fun H locs hw => ?_)
  refine lv_aload_n hx hb dX12_text_191 rfl (lv_at hl 0 rfl) ?_
  obtain ⟨z3, ez3, iz3, hf⟩ := rf_gi_s hw hf
  refine rf_geti B hw 12 (by decide) rfl lk_486 ez3 dX12_text_192 ?_
  exact rf_reti B hf hw dX12_text_195

set_option maxHeartbeats 4000000 in
set_option maxRecDepth 100000 in
theorem ps_text_159 {v : rfE} {p : Program} {l : Launch} {e : Env} {s : State} {m : MethodId} {args : Array Value} {below : List Frame} {meth : Method} {c : Code} {d : Nat} {rec : Nat → RS → List Int → Option (RS × Int)} {σ' : RS} {r : Int} (hR : rf_Rec l v d rec) (B : rf_B v p s m args meth c cX12_text 3 (some .int)) : ∀ (σ : RS), pf_text_159 rec σ = some (σ', r) → ∀ (H : Heap) (locs : List Loc) (ls : Array Slot), rf_W v s σ H locs → lv_has ls 3 [(0, .ref (rf_h v))] → W p l e (rf_rm (d + 1)) s m args below meth c H locs 0 0 (MQ below (rf_Q v σ' (some (.int (rI r)))) args s 0 0 (rf_F v)) (F0 m 159 ls []) := by
  obtain ⟨hx, hb, hr, hml, hown, hts, hlk, hK, hD⟩ := id B
  intro σ hf H locs ls hw hl
  unfold pf_text_159 at hf
  refine lv_aload_n hx hb dX12_text_159 rfl (lv_at hl 0 rfl) ?_
  refine lv_aload_n hx hb dX12_text_160 rfl (lv_at hl 0 rfl) ?_
  obtain ⟨z1, ez1, iz1, hf⟩ := rf_gi_s hw hf
  refine rf_geti B hw 72 (by decide) rfl lk_150 ez1 dX12_text_161 ?_
  obtain ⟨σ2, eσ2, hf⟩ := rf_pi_s hf
  refine rf_put B hw 12 (by decide) rfl rfl lk_486 iz1 eσ2 rfl rfl dX12_text_164 (fun H locs hw => ?_)
  refine lv_aload_n hx hb dX12_text_167 rfl (lv_at hl 0 rfl) ?_
  refine lv_aload_n hx hb dX12_text_168 rfl (lv_at hl 0 rfl) ?_
  obtain ⟨z3, ez3, iz3, hf⟩ := rf_gi_s hw hf
  refine rf_geti B hw 72 (by decide) rfl lk_150 ez3 dX12_text_169 ?_
  refine rn_if_ne (a := z3) (tgt := 179) hx hb iz3 dX12_text_172 (by decide) (fun c4 => ?_) (fun c4 => ?_)
  · replace hf := rf_if_t hf c4
    refine lv_aload_n hx hb dX12_text_179 rfl (lv_at hl 0 rfl) ?_
    obtain ⟨z5, ez5, iz5, hf⟩ := rf_gi_s hw hf
    refine rf_geti B hw 73 (by decide) rfl lk_153 ez5 dX12_text_180 ?_
    exact ps_text_183 hR B σ2 z5 iz5 hf _ _ _ hw (lv_sub hl [0] rfl)
  · replace hf := rf_if_f hf c4
    refine lv_iconst (v := rI (-1)) hx hb dX12_text_175 rfl ?_
    refine lv_goto (tgt := 183) hx hb dX12_text_176 (by decide) ?_
    exact ps_text_183 hR B σ2 (-1) ⟨by decide, by decide⟩ hf _ _ _ hw (lv_sub hl [0] rfl)

set_option maxHeartbeats 4000000 in
set_option maxRecDepth 100000 in
theorem ps_text_154 {v : rfE} {p : Program} {l : Launch} {e : Env} {s : State} {m : MethodId} {args : Array Value} {below : List Frame} {meth : Method} {c : Code} {d : Nat} {rec : Nat → RS → List Int → Option (RS × Int)} {σ' : RS} {r : Int} (hR : rf_Rec l v d rec) (B : rf_B v p s m args meth c cX12_text 3 (some .int)) : ∀ (σ : RS), pf_text_154 rec σ = some (σ', r) → ∀ (H : Heap) (locs : List Loc) (ls : Array Slot), rf_W v s σ H locs → lv_has ls 3 [(0, .ref (rf_h v))] → W p l e (rf_rm (d + 1)) s m args below meth c H locs 0 0 (MQ below (rf_Q v σ' (some (.int (rI r)))) args s 0 0 (rf_F v)) (F0 m 154 ls []) := by
  obtain ⟨hx, hb, hr, hml, hown, hts, hlk, hK, hD⟩ := id B
  intro σ hf H locs ls hw hl
  unfold pf_text_154 at hf
  refine lv_aload_n hx hb dX12_text_154 rfl (lv_at hl 0 rfl) ?_
  refine lv_iconst (v := rI 0) hx hb dX12_text_155 rfl ?_
  obtain ⟨b012, hf⟩ := rf_bo_s hf
  obtain ⟨σ1, eσ1, hf⟩ := rf_pi_s hf
  refine rf_put B hw 15 (by decide) rfl rfl lk_237 ⟨by decide, by decide⟩ eσ1 (rf_narZ b012) (rf_fitZ b012) dX12_text_156 (fun H locs hw => ?_)
  exact ps_text_159 hR B σ1 hf _ _ _ hw (lv_sub hl [0] rfl)

set_option maxHeartbeats 4000000 in
set_option maxRecDepth 100000 in
theorem ps_text_98 {v : rfE} {p : Program} {l : Launch} {e : Env} {s : State} {m : MethodId} {args : Array Value} {below : List Frame} {meth : Method} {c : Code} {d : Nat} {rec : Nat → RS → List Int → Option (RS × Int)} {σ' : RS} {r : Int} (hR : rf_Rec l v d rec) (B : rf_B v p s m args meth c cX12_text 3 (some .int)) : ∀ (n : Nat) (σ : RS), pf_text_98 rec n σ = some (σ', r) → ∀ (H : Heap) (locs : List Loc) (ls : Array Slot), rf_W v s σ H locs → lv_has ls 3 [(0, .ref (rf_h v))] → W p l e (rf_rm (d + 1)) s m args below meth c H locs 0 0 (MQ below (rf_Q v σ' (some (.int (rI r)))) args s 0 0 (rf_F v)) (F0 m 98 ls []) := by
  obtain ⟨hx, hb, hr, hml, hown, hts, hlk, hK, hD⟩ := id B
  intro n
  induction n with
  | zero => intro σ hf; cases hf
  | succ n ih =>
    intro σ hf H locs ls hw hl
    unfold pf_text_98 at hf
    refine lv_aload_n hx hb dX12_text_98 rfl (lv_at hl 0 rfl) ?_
    obtain ⟨z1, ez1, iz1, hf⟩ := rf_gi_s hw hf
    refine rf_geti B hw 72 (by decide) rfl lk_150 ez1 dX12_text_99 ?_
    refine rn_if_ne (a := z1) (tgt := 154) hx hb iz1 dX12_text_102 (by decide) (fun c2 => ?_) (fun c2 => ?_)
    · replace hf := rf_if_t hf c2
      exact ps_text_154 hR B σ hf _ _ _ hw (lv_sub hl [0] rfl)
    · replace hf := rf_if_f hf c2
      refine lv_aload_n hx hb dX12_text_105 rfl (lv_at hl 0 rfl) ?_
      obtain ⟨z3, ez3, iz3, hf⟩ := rf_gi_s hw hf
      refine rf_geti B hw 7 (by decide) rfl lk_203 ez3 dX12_text_106 ?_
      refine rn_if_eq (a := z3) (tgt := 154) hx hb iz3 dX12_text_109 (by decide) (fun c4 => ?_) (fun c4 => ?_)
      · replace hf := rf_if_t hf c4
        exact ps_text_154 hR B σ hf _ _ _ hw (lv_sub hl [0] rfl)
      · replace hf := rf_if_f hf c4
        refine lv_aload_n hx hb dX12_text_112 rfl (lv_at hl 0 rfl) ?_
        obtain ⟨σ5, z6, hσ5, hf⟩ := rf_cl_s hf
        obtain ⟨iz6, mσ5⟩ := hR 54 σ [] σ5 z6 hσ5
        have mσ5 : rf_Met l v yX12_begin cX12_begin 1 none d [.ref (rf_h v)] σ σ5 none := mσ5
        refine rf_cv (n := 0) (rest := []) (As := []) B mσ5 g_477_begin (by decide +kernel) (by decide) rfl hl.1 (Nat.le_of_ble_eq_true rfl) dX12_text_113 rfl hw (fun H locs hw => ?_)
        refine lv_aload_n hx hb dX12_text_116 rfl (lv_at hl 0 rfl) ?_
        obtain ⟨σ7, z8, hσ7, hf⟩ := rf_cl_s hf
        obtain ⟨iz8, mσ7⟩ := hR 25 σ5 [] σ7 z8 hσ7
        have mσ7 : rf_Met l v yX12_readStatement cX12_readStatement 1 none d [.ref (rf_h v)] σ5 σ7 none := mσ7
        refine rf_cv (n := 0) (rest := []) (As := []) B mσ7 g_299_readStatement (by decide +kernel) (by decide) rfl hl.1 (Nat.le_of_ble_eq_true rfl) dX12_text_117 rfl hw (fun H locs hw => ?_)
        refine lv_aload_n hx hb dX12_text_120 rfl (lv_at hl 0 rfl) ?_
        obtain ⟨σ9, z10, hσ9, hf⟩ := rf_cl_s hf
        obtain ⟨iz10, mσ9⟩ := hR 59 σ7 [] σ9 z10 hσ9
        have mσ9 : rf_Met l v yX12_doStatement cX12_doStatement 2 none d [.ref (rf_h v)] σ7 σ9 none := mσ9
        refine rf_cv (n := 0) (rest := []) (As := []) B mσ9 g_480_doStatement (by decide +kernel) (by decide) rfl hl.1 (Nat.le_of_ble_eq_true rfl) dX12_text_121 rfl hw (fun H locs hw => ?_)
        refine lv_aload_n hx hb dX12_text_124 rfl (lv_at hl 0 rfl) ?_
        obtain ⟨σ11, z12, hσ11, hf⟩ := rf_cl_s hf
        obtain ⟨iz12, mσ11⟩ := hR 55 σ9 [] σ11 z12 hσ11
        have mσ11 : rf_Met l v yX12_drop cX12_drop 1 none d [.ref (rf_h v)] σ9 σ11 none := mσ11
        refine rf_cv (n := 0) (rest := []) (As := []) B mσ11 g_483_drop (by decide +kernel) (by decide) rfl hl.1 (Nat.le_of_ble_eq_true rfl) dX12_text_125 rfl hw (fun H locs hw => ?_)
        refine lv_aload_n hx hb dX12_text_128 rfl (lv_at hl 0 rfl) ?_
        obtain ⟨z13, ez13, iz13, hf⟩ := rf_gi_s hw hf
        refine rf_geti B hw 72 (by decide) rfl lk_150 ez13 dX12_text_129 ?_
        refine rn_if_ne (a := z13) (tgt := 98) hx hb iz13 dX12_text_132 (by decide) (fun c14 => ?_) (fun c14 => ?_)
        · replace hf := rf_if_t hf c14
          exact ih σ11 hf _ _ _ hw (lv_sub hl [0] rfl)
        · replace hf := rf_if_f hf c14
          refine lv_aload_n hx hb dX12_text_135 rfl (lv_at hl 0 rfl) ?_
          refine lv_dup hx hb dX12_text_136 rfl ?_
          obtain ⟨z15, ez15, iz15, hf⟩ := rf_gi_s hw hf
          refine rf_geti B hw 14 (by decide) rfl lk_471 ez15 dX12_text_137 ?_
          refine lv_iconst (v := rI 1) hx hb dX12_text_140 rfl ?_
          obtain ⟨z16, ez16, iz16, hf⟩ := rf_ck_s hf
          refine rn_add hx hb ez16 dX12_text_141 ?_
          obtain ⟨σ17, eσ17, hf⟩ := rf_pi_s hf
          refine rf_put B hw 14 (by decide) rfl rfl lk_471 iz16 eσ17 rfl rfl dX12_text_142 (fun H locs hw => ?_)
          refine lv_aload_n hx hb dX12_text_145 rfl (lv_at hl 0 rfl) ?_
          refine lv_bipush (v := rI 59) hx hb dX12_text_146 (by decide +kernel) ?_
          obtain ⟨σ18, z19, hσ18, hf⟩ := rf_cl_s hf
          obtain ⟨iz19, mσ18⟩ := hR 16 σ17 [59] σ18 z19 hσ18
          have mσ18 : rf_Met l v yX12_need cX12_need 2 none d [.ref (rf_h v), .int (rI 59)] σ17 σ18 none := mσ18 ⟨by decide, by decide⟩
          refine rf_cv (n := 1) (rest := []) (As := [.int (rI 59)]) B mσ18 g_252_need (by decide +kernel) (by decide) rfl hl.1 (Nat.le_of_ble_eq_true rfl) dX12_text_148 rfl hw (fun H locs hw => ?_)
          refine lv_goto (tgt := 98) hx hb dX12_text_151 (by decide) ?_
          exact ih σ18 hf _ _ _ hw (lv_sub hl [0] rfl)

set_option maxHeartbeats 4000000 in
set_option maxRecDepth 100000 in
theorem ps_text_25 {v : rfE} {p : Program} {l : Launch} {e : Env} {s : State} {m : MethodId} {args : Array Value} {below : List Frame} {meth : Method} {c : Code} {d : Nat} {rec : Nat → RS → List Int → Option (RS × Int)} {σ' : RS} {r : Int} (hR : rf_Rec l v d rec) (B : rf_B v p s m args meth c cX12_text 3 (some .int)) : ∀ (n : Nat) (σ : RS) (x1 x2 : Int), inR x1 → inR x2 → pf_text_25 rec n σ x1 x2 = some (σ', r) → ∀ (H : Heap) (locs : List Loc) (ls : Array Slot), rf_W v s σ H locs → lv_has ls 3 [(0, .ref (rf_h v)), (1, .int (rI x1)), (2, .int (rI x2))] → W p l e (rf_rm (d + 1)) s m args below meth c H locs 0 0 (MQ below (rf_Q v σ' (some (.int (rI r)))) args s 0 0 (rf_F v)) (F0 m 25 ls []) := by
  obtain ⟨hx, hb, hr, hml, hown, hts, hlk, hK, hD⟩ := id B
  intro n
  induction n with
  | zero => intro σ x1 x2 ix1 ix2 hf; cases hf
  | succ n ih =>
    intro σ x1 x2 ix1 ix2 hf H locs ls hw hl
    unfold pf_text_25 at hf
    refine lv_iload_n hx hb dX12_text_25 rfl (lv_at hl 2 rfl) ?_
    refine lv_iload_n hx hb dX12_text_26 rfl (lv_at hl 1 rfl) ?_
    refine rn_icmp_ge (a := x2) (b := x1) (tgt := 48) hx hb ix2 ix1 dX12_text_27 (by decide) (fun c1 => ?_) (fun c1 => ?_)
    · replace hf := rf_if_t hf c1
      refine lv_aload_n hx hb dX12_text_48 rfl (lv_at hl 0 rfl) ?_
      refine lv_iload_n hx hb dX12_text_49 rfl (lv_at hl 1 rfl) ?_
      obtain ⟨σ2, eσ2, hf⟩ := rf_pi_s hf
      refine rf_put B hw 5 (by decide) rfl rfl lk_186 ix1 eσ2 rfl rfl dX12_text_50 (fun H locs hw => ?_)
      refine lv_aload_n hx hb dX12_text_53 rfl (lv_at hl 0 rfl) ?_
      refine lv_iconst (v := rI 0) hx hb dX12_text_54 rfl ?_
      obtain ⟨σ3, eσ3, hf⟩ := rf_pi_s hf
      refine rf_put B hw 3 (by decide) rfl rfl lk_183 ⟨by decide, by decide⟩ eσ3 rfl rfl dX12_text_55 (fun H locs hw => ?_)
      refine lv_aload_n hx hb dX12_text_58 rfl (lv_at hl 0 rfl) ?_
      refine lv_iconst (v := rI 0) hx hb dX12_text_59 rfl ?_
      obtain ⟨σ4, eσ4, hf⟩ := rf_pi_s hf
      refine rf_put B hw 75 (by decide) rfl rfl lk_378 ⟨by decide, by decide⟩ eσ4 rfl rfl dX12_text_60 (fun H locs hw => ?_)
      refine lv_aload_n hx hb dX12_text_63 rfl (lv_at hl 0 rfl) ?_
      refine lv_iconst (v := rI 0) hx hb dX12_text_64 rfl ?_
      obtain ⟨σ5, eσ5, hf⟩ := rf_pi_s hf
      refine rf_put B hw 72 (by decide) rfl rfl lk_150 ⟨by decide, by decide⟩ eσ5 rfl rfl dX12_text_65 (fun H locs hw => ?_)
      refine lv_aload_n hx hb dX12_text_68 rfl (lv_at hl 0 rfl) ?_
      refine lv_iconst (v := rI 0) hx hb dX12_text_69 rfl ?_
      obtain ⟨σ6, eσ6, hf⟩ := rf_pi_s hf
      refine rf_put B hw 14 (by decide) rfl rfl lk_471 ⟨by decide, by decide⟩ eσ6 rfl rfl dX12_text_70 (fun H locs hw => ?_)
      refine lv_aload_n hx hb dX12_text_73 rfl (lv_at hl 0 rfl) ?_
      obtain ⟨σ7, z8, hσ7, hf⟩ := rf_cl_s hf
      obtain ⟨iz8, mσ7⟩ := hR 27 σ6 [] σ7 z8 hσ7
      have mσ7 : rf_Met l v yX12_readAll cX12_readAll 1 none d [.ref (rf_h v)] σ6 σ7 none := mσ7
      refine rf_cv (n := 0) (rest := []) (As := []) B mσ7 g_474_readAll (by decide +kernel) (by decide) rfl hl.1 (Nat.le_of_ble_eq_true rfl) dX12_text_74 rfl hw (fun H locs hw => ?_)
      refine lv_aload_n hx hb dX12_text_77 rfl (lv_at hl 0 rfl) ?_
      obtain ⟨z9, ez9, iz9, hf⟩ := rf_gi_s hw hf
      refine rf_geti B hw 72 (by decide) rfl lk_150 ez9 dX12_text_78 ?_
      refine rn_if_ne (a := z9) (tgt := 159) hx hb iz9 dX12_text_81 (by decide) (fun c10 => ?_) (fun c10 => ?_)
      · replace hf := rf_if_t hf c10
        exact ps_text_159 hR B σ7 hf _ _ _ hw (lv_sub hl [0] rfl)
      · replace hf := rf_if_f hf c10
        refine lv_aload_n hx hb dX12_text_84 rfl (lv_at hl 0 rfl) ?_
        refine lv_iconst (v := rI 1) hx hb dX12_text_85 rfl ?_
        obtain ⟨b0112, hf⟩ := rf_bo_s hf
        obtain ⟨σ11, eσ11, hf⟩ := rf_pi_s hf
        refine rf_put B hw 15 (by decide) rfl rfl lk_237 ⟨by decide, by decide⟩ eσ11 (rf_narZ b0112) (rf_fitZ b0112) dX12_text_86 (fun H locs hw => ?_)
        refine lv_aload_n hx hb dX12_text_89 rfl (lv_at hl 0 rfl) ?_
        refine lv_iconst (v := rI 0) hx hb dX12_text_90 rfl ?_
        obtain ⟨σ13, eσ13, hf⟩ := rf_pi_s hf
        refine rf_put B hw 6 (by decide) rfl rfl lk_193 ⟨by decide, by decide⟩ eσ13 rfl rfl dX12_text_91 (fun H locs hw => ?_)
        refine lv_aload_n hx hb dX12_text_94 rfl (lv_at hl 0 rfl) ?_
        obtain ⟨σ14, z15, hσ14, hf⟩ := rf_cl_s hf
        obtain ⟨iz15, mσ14⟩ := hR 10 σ13 [] σ14 z15 hσ14
        have mσ14 : rf_Met l v yX12_next cX12_next 4 none d [.ref (rf_h v)] σ13 σ14 none := mσ14
        refine rf_cv (n := 0) (rest := []) (As := []) B mσ14 g_231_next (by decide +kernel) (by decide) rfl hl.1 (Nat.le_of_ble_eq_true rfl) dX12_text_95 rfl hw (fun H locs hw => ?_)
        exact ps_text_98 hR B 200000 σ14 hf _ _ _ hw (lv_sub hl [0] rfl)
    · replace hf := rf_if_f hf c1
      refine lv_aload_n hx hb dX12_text_30 rfl (lv_at hl 0 rfl) ?_
      refine rf_get (val := .ref (rf_ad v 4)) B hw 4 (by decide) lk_37 rfl dX12_text_31 ?_
      refine lv_iload_n hx hb dX12_text_34 rfl (lv_at hl 2 rfl) ?_
      refine lv_aload_n hx hb dX12_text_35 rfl (lv_at hl 0 rfl) ?_
      refine rf_get (val := .ref (rf_ad v 2)) B hw 2 (by decide) lk_33 rfl dX12_text_36 ?_
      refine lv_iload_n hx hb dX12_text_39 rfl (lv_at hl 2 rfl) ?_
      obtain ⟨z16, ez16, iz16, rz16, hf⟩ := rf_rd_s hw hf
      refine rf_ald B hw ix2 rz16 ez16 dX12_text_40 ?_
      obtain ⟨σ17, eσ17, rσ17, hf⟩ := rf_wr_s hf
      refine rf_ast B hw ix2 iz16 rσ17 eσ17 dX12_text_41 (fun H locs hw => ?_)
      obtain ⟨z18, ez18, iz18, hf⟩ := rf_ck_s hf
      refine lv_iinc (v := rI z18) (lv' := [(2, .int (rI z18)), (0, .ref (rf_h v)), (1, .int (rI x1))]) hx hb dX12_text_42 hl (k := 2) rfl (by rw [ez18]; exact rI_add _ _) (by decide) rfl (fun ls hl => ?_)
      refine lv_goto (tgt := 25) hx hb dX12_text_45 (by decide) ?_
      exact ih σ17 x1 z18 ix1 iz18 hf _ _ _ hw (lv_sub hl [1, 2, 0] rfl)

