set_option maxHeartbeats 4000000 in
set_option maxRecDepth 100000 in
theorem pm_judge {v : rfE} (hD : rf_D v) {l : Launch} {d : Nat} {rec : Nat → RS → List Int → Option (RS × Int)} (hR : rf_Rec l v d rec) (σ σ' : RS) (x1 x2 r : Int) (ix1 : inR x1) (ix2 : inR x2) (hf : pf_judge_0 rec σ x1 x2 = some (σ', r)) : rf_Met l v yX12_judge cX12_judge 3 none (d + 1) [.ref (rf_h v), .int (rI x1), .int (rI x2)] σ σ' none := by
  refine Met.ofW (cc := cX12_judge) (maxL := 3) (ret := none) (by decide +kernel) rfl ?_
  intro p e s m args below meth c s₁ B hml hv
  obtain ⟨rfl, hM, hK⟩ := hv
  have hts := atoms_spec (ws := Cond.code yX12_judge cX12_judge 3 none :: rf_bw) B.pre
  have hB : rf_B v p s m _ meth c cX12_judge 3 none := ⟨B.exec, B.bytes, B.returns, hml, findClass_of_methodNamed B.named, fun w h => hts w (List.mem_cons_of_mem _ h), B.notSynchronized, hK, hD⟩
  have hl := lv_entry ([.ref (rf_h v), .int (rI x1), .int (rI x2)]) (n := 3) (Nat.le_of_ble_eq_true rfl)
  rw [lg_entry_eq]
  generalize (lg_sl ([.ref (rf_h v), .int (rI x1), .int (rI x2)]) ++ List.replicate (3 - (lg_sl ([.ref (rf_h v), .int (rI x1), .int (rI x2)])).length) Slot.unset).toArray = ls at hl ⊢
  exact ps_judge_0 hR hB σ x1 x2 ix1 ix2 hf _ _ _ ⟨hM, rfl, fun _ _ => rfl, fun q h => by cases h⟩ (lv_sub hl [0, 1, 2] rfl)

set_option maxHeartbeats 4000000 in
set_option maxRecDepth 100000 in
theorem ps_judgeProduct_102 {v : rfE} {p : Program} {l : Launch} {e : Env} {s : State} {m : MethodId} {args : Array Value} {below : List Frame} {meth : Method} {c : Code} {d : Nat} {rec : Nat → RS → List Int → Option (RS × Int)} {σ' : RS} {r : Int} (hR : rf_Rec l v d rec) (B : rf_B v p s m args meth c cX12_judgeProduct 8 none) : ∀ (σ : RS) (x1 x3 x6 : Int), inR x1 → inR x3 → inR x6 → pf_judgeProduct_102 rec σ x1 x3 x6 = some (σ', r) → ∀ (H : Heap) (locs : List Loc) (ls : Array Slot), rf_W v s σ H locs → lv_has ls 8 [(0, .ref (rf_h v)), (1, .int (rI x1)), (3, .int (rI x3)), (6, .int (rI x6))] → W p l e (rf_rm (d + 1)) s m args below meth c H locs 0 0 (MQ below (rf_Q v σ' none) args s 0 0 (rf_F v)) (F0 m 102 ls []) := by
  obtain ⟨hx, hb, hr, hml, hown, hts, hlk, hK, hD⟩ := id B
  intro σ x1 x3 x6 ix1 ix3 ix6 hf H locs ls hw hl
  unfold pf_judgeProduct_102 at hf
  refine lv_aload_n hx hb dX12_judgeProduct_102 rfl (lv_at hl 0 rfl) ?_
  obtain ⟨z1, ez1, iz1, hf⟩ := rf_gi_s hw hf
  refine rf_geti B hw 72 (by decide) rfl lk_150 ez1 dX12_judgeProduct_103 ?_
  refine rn_if_eq (a := z1) (tgt := 110) hx hb iz1 dX12_judgeProduct_106 (by decide) (fun c2 => ?_) (fun c2 => ?_)
  · replace hf := rf_if_t hf c2
    refine lv_aload_n hx hb dX12_judgeProduct_110 rfl (lv_at hl 0 rfl) ?_
    refine rf_get (val := .ref (rf_ad v 19)) B hw 19 (by decide) lk_52 rfl dX12_judgeProduct_111 ?_
    refine lv_bipush (v := rI 8) hx hb dX12_judgeProduct_114 (by decide +kernel) ?_
    refine lv_iload_n hx hb dX12_judgeProduct_116 rfl (lv_at hl 2 rfl) ?_
    obtain ⟨z3, ez3, iz3, hf⟩ := rf_ck_s hf
    refine rn_mul hx hb ez3 dX12_judgeProduct_117 ?_
    refine lv_iload hx hb dX12_judgeProduct_118 (lv_at hl 3 rfl) ?_
    obtain ⟨z4, ez4, iz4, hf⟩ := rf_ck_s hf
    refine rn_add hx hb ez4 dX12_judgeProduct_120 ?_
    obtain ⟨z5, ez5, iz5, rz5, hf⟩ := rf_rd_s hw hf
    refine rf_ald B hw iz4 rz5 ez5 dX12_judgeProduct_121 ?_
    refine lv_istore (lv' := [(7, .int (rI z5)), (0, .ref (rf_h v)), (1, .int (rI x1)), (3, .int (rI x3)), (6, .int (rI x6))]) hx hb dX12_judgeProduct_122 hl (by decide) rfl (fun ls hl => ?_)
    refine lv_iload hx hb dX12_judgeProduct_124 (lv_at hl 0 rfl) ?_
    refine rn_if_ge (a := z5) (tgt := 142) hx hb iz5 dX12_judgeProduct_126 (by decide) (fun c6 => ?_) (fun c6 => ?_)
    · replace hf := rf_if_t hf c6
      refine lv_aload_n hx hb dX12_judgeProduct_142 rfl (lv_at hl 1 rfl) ?_
      refine rf_get (val := .ref (rf_ad v 36)) B hw 36 (by decide) lk_94 rfl dX12_judgeProduct_143 ?_
      refine lv_iload_n hx hb dX12_judgeProduct_146 rfl (lv_at hl 2 rfl) ?_
      refine lv_iload_n hx hb dX12_judgeProduct_147 rfl (lv_at hl 3 rfl) ?_
      obtain ⟨σ7, eσ7, rσ7, hf⟩ := rf_wr_s hf
      refine rf_ast B hw ix1 ix3 rσ7 eσ7 dX12_judgeProduct_148 (fun H locs hw => ?_)
      refine lv_aload_n hx hb dX12_judgeProduct_149 rfl (lv_at hl 1 rfl) ?_
      refine rf_get (val := .ref (rf_ad v 37)) B hw 37 (by decide) lk_97 rfl dX12_judgeProduct_150 ?_
      refine lv_iload_n hx hb dX12_judgeProduct_153 rfl (lv_at hl 2 rfl) ?_
      refine lv_iload hx hb dX12_judgeProduct_154 (lv_at hl 4 rfl) ?_
      obtain ⟨σ8, eσ8, rσ8, hf⟩ := rf_wr_s hf
      refine rf_ast B hw ix1 ix6 rσ8 eσ8 dX12_judgeProduct_156 (fun H locs hw => ?_)
      refine lv_aload_n hx hb dX12_judgeProduct_157 rfl (lv_at hl 1 rfl) ?_
      refine lv_iload hx hb dX12_judgeProduct_158 (lv_at hl 0 rfl) ?_
      refine lv_aload_n hx hb dX12_judgeProduct_160 rfl (lv_at hl 1 rfl) ?_
      refine rf_get (val := .ref (rf_ad v 18)) B hw 18 (by decide) lk_50 rfl dX12_judgeProduct_161 ?_
      refine lv_iload hx hb dX12_judgeProduct_164 (lv_at hl 0 rfl) ?_
      obtain ⟨z9, ez9, iz9, rz9, hf⟩ := rf_rd_s hw hf
      refine rf_ald B hw iz5 rz9 ez9 dX12_judgeProduct_166 ?_
      obtain ⟨σ10, z11, hσ10, hf⟩ := rf_cl_s hf
      obtain ⟨iz11, mσ10⟩ := hR 45 σ8 [z5, z9] σ10 z11 hσ10
      have mσ10 : rf_Met l v yX12_becomes cX12_becomes 3 none d [.ref (rf_h v), .int (rI z5), .int (rI z9)] σ8 σ10 none := mσ10 iz5 iz9
      refine rf_cv (n := 2) (rest := []) (As := [.int (rI z5), .int (rI z9)]) B mσ10 g_412_becomes (by decide +kernel) (by decide) rfl hl.1 (Nat.le_of_ble_eq_true rfl) dX12_judgeProduct_167 rfl hw (fun H locs hw => ?_)
      exact rf_retv B hf hw dX12_judgeProduct_170
    · replace hf := rf_if_f hf c6
      refine lv_aload_n hx hb dX12_judgeProduct_129 rfl (lv_at hl 1 rfl) ?_
      refine lv_bipush (v := rI 9) hx hb dX12_judgeProduct_130 (by decide +kernel) ?_
      refine lv_aload_n hx hb dX12_judgeProduct_132 rfl (lv_at hl 1 rfl) ?_
      refine rf_get (val := .ref (rf_ad v 35)) B hw 35 (by decide) lk_91 rfl dX12_judgeProduct_133 ?_
      refine lv_iload_n hx hb dX12_judgeProduct_136 rfl (lv_at hl 2 rfl) ?_
      obtain ⟨z12, ez12, iz12, rz12, hf⟩ := rf_rd_s hw hf
      refine rf_ald B hw ix1 rz12 ez12 dX12_judgeProduct_137 ?_
      obtain ⟨σ13, z14, hσ13, hf⟩ := rf_cl_s hf
      obtain ⟨iz14, mσ13⟩ := hR 3 σ [9, z12] σ13 z14 hσ13
      have mσ13 : rf_Met l v yX12_wrong cX12_wrong 3 none d [.ref (rf_h v), .int (rI 9), .int (rI z12)] σ σ13 none := mσ13 ⟨by decide, by decide⟩ iz12
      refine rf_cv (n := 2) (rest := []) (As := [.int (rI 9), .int (rI z12)]) B mσ13 g_218_wrong (by decide +kernel) (by decide) rfl hl.1 (Nat.le_of_ble_eq_true rfl) dX12_judgeProduct_138 rfl hw (fun H locs hw => ?_)
      exact rf_retv B hf hw dX12_judgeProduct_141
  · replace hf := rf_if_f hf c2
    exact rf_retv B hf hw dX12_judgeProduct_109

set_option maxHeartbeats 4000000 in
set_option maxRecDepth 100000 in
theorem ps_judgeProduct_74 {v : rfE} {p : Program} {l : Launch} {e : Env} {s : State} {m : MethodId} {args : Array Value} {below : List Frame} {meth : Method} {c : Code} {d : Nat} {rec : Nat → RS → List Int → Option (RS × Int)} {σ' : RS} {r : Int} (hR : rf_Rec l v d rec) (B : rf_B v p s m args meth c cX12_judgeProduct 8 none) : ∀ (σ : RS) (x1 x2 x3 x5 : Int), inR x1 → inR x2 → inR x3 → inR x5 → pf_judgeProduct_74 rec σ x1 x2 x3 x5 = some (σ', r) → ∀ (H : Heap) (locs : List Loc) (ls : Array Slot), rf_W v s σ H locs → lv_has ls 8 [(0, .ref (rf_h v)), (1, .int (rI x1)), (2, .int (rI x2)), (3, .int (rI x3)), (5, .int (rI x5))] → W p l e (rf_rm (d + 1)) s m args below meth c H locs 0 0 (MQ below (rf_Q v σ' none) args s 0 0 (rf_F v)) (F0 m 74 ls []) := by
  obtain ⟨hx, hb, hr, hml, hown, hts, hlk, hK, hD⟩ := id B
  intro σ x1 x2 x3 x5 ix1 ix2 ix3 ix5 hf H locs ls hw hl
  unfold pf_judgeProduct_74 at hf
  refine lv_aload_n hx hb dX12_judgeProduct_74 rfl (lv_at hl 0 rfl) ?_
  refine lv_aload_n hx hb dX12_judgeProduct_75 rfl (lv_at hl 0 rfl) ?_
  refine rf_get (val := .ref (rf_ad v 33)) B hw 33 (by decide) lk_85 rfl dX12_judgeProduct_76 ?_
  refine lv_iload_n hx hb dX12_judgeProduct_79 rfl (lv_at hl 1 rfl) ?_
  obtain ⟨z1, ez1, iz1, rz1, hf⟩ := rf_rd_s hw hf
  refine rf_ald B hw ix1 rz1 ez1 dX12_judgeProduct_80 ?_
  refine lv_iload_n hx hb dX12_judgeProduct_81 rfl (lv_at hl 2 rfl) ?_
  obtain ⟨σ2, z3, hσ2, hf⟩ := rf_cl_s hf
  obtain ⟨iz3, mσ2⟩ := hR 47 σ [z1, x2] σ2 z3 hσ2
  have mσ2 : rf_Met l v yX12_judgeSort cX12_judgeSort 4 (some .int) d [.ref (rf_h v), .int (rI z1), .int (rI x2)] σ σ2 (some (.int (rI z3))) := mσ2 iz1 ix2
  refine rf_cv (n := 2) (rest := []) (As := [.int (rI z1), .int (rI x2)]) B mσ2 g_440_judgeSort (by decide +kernel) (by decide) rfl hl.1 (Nat.le_of_ble_eq_true rfl) dX12_judgeProduct_82 rfl hw (fun H locs hw => ?_)
  refine lv_istore (lv' := [(6, .int (rI z3)), (0, .ref (rf_h v)), (1, .int (rI x1)), (2, .int (rI x2)), (3, .int (rI x3)), (5, .int (rI x5))]) hx hb dX12_judgeProduct_85 hl (by decide) rfl (fun ls hl => ?_)
  refine lv_iload hx hb dX12_judgeProduct_87 (lv_at hl 5 rfl) ?_
  refine rn_if_eq (a := x5) (tgt := 102) hx hb ix5 dX12_judgeProduct_89 (by decide) (fun c4 => ?_) (fun c4 => ?_)
  · replace hf := rf_if_t hf c4
    exact ps_judgeProduct_102 hR B σ2 x1 x3 z3 ix1 ix3 iz3 hf _ _ _ hw (lv_sub hl [1, 2, 4, 0] rfl)
  · replace hf := rf_if_f hf c4
    refine lv_aload_n hx hb dX12_judgeProduct_92 rfl (lv_at hl 1 rfl) ?_
    refine lv_dup hx hb dX12_judgeProduct_93 rfl ?_
    obtain ⟨z5, ez5, iz5, hf⟩ := rf_gi_s hw hf
    refine rf_geti B hw 43 (by decide) rfl lk_409 ez5 dX12_judgeProduct_94 ?_
    refine lv_iconst (v := rI 1) hx hb dX12_judgeProduct_97 rfl ?_
    obtain ⟨z6, ez6, iz6, hf⟩ := rf_ck_s hf
    refine rn_sub hx hb ez6 dX12_judgeProduct_98 ?_
    obtain ⟨σ7, eσ7, hf⟩ := rf_pi_s hf
    refine rf_put B hw 43 (by decide) rfl rfl lk_409 iz6 eσ7 rfl rfl dX12_judgeProduct_99 (fun H locs hw => ?_)
    exact ps_judgeProduct_102 hR B σ7 x1 x3 z3 ix1 ix3 iz3 hf _ _ _ hw (lv_sub hl [1, 2, 4, 0] rfl)

set_option maxHeartbeats 4000000 in
set_option maxRecDepth 100000 in
theorem ps_judgeProduct_59 {v : rfE} {p : Program} {l : Launch} {e : Env} {s : State} {m : MethodId} {args : Array Value} {below : List Frame} {meth : Method} {c : Code} {d : Nat} {rec : Nat → RS → List Int → Option (RS × Int)} {σ' : RS} {r : Int} (hR : rf_Rec l v d rec) (B : rf_B v p s m args meth c cX12_judgeProduct 8 none) : ∀ (σ : RS) (x1 x2 x3 x4 t0 : Int), inR x1 → inR x2 → inR x3 → inR x4 → inR t0 → pf_judgeProduct_59 rec σ x1 x2 x3 x4 t0 = some (σ', r) → ∀ (H : Heap) (locs : List Loc) (ls : Array Slot), rf_W v s σ H locs → lv_has ls 8 [(0, .ref (rf_h v)), (1, .int (rI x1)), (2, .int (rI x2)), (3, .int (rI x3)), (4, .int (rI x4))] → W p l e (rf_rm (d + 1)) s m args below meth c H locs 0 0 (MQ below (rf_Q v σ' none) args s 0 0 (rf_F v)) (F0 m 59 ls [.int (rI t0)]) := by
  obtain ⟨hx, hb, hr, hml, hown, hts, hlk, hK, hD⟩ := id B
  intro σ x1 x2 x3 x4 t0 ix1 ix2 ix3 ix4 it0 hf H locs ls hw hl
  unfold pf_judgeProduct_59 at hf
  refine lv_istore (lv' := [(5, .int (rI t0)), (0, .ref (rf_h v)), (1, .int (rI x1)), (2, .int (rI x2)), (3, .int (rI x3)), (4, .int (rI x4))]) hx hb dX12_judgeProduct_59 hl (by decide) rfl (fun ls hl => ?_)
  refine lv_iload hx hb dX12_judgeProduct_61 (lv_at hl 0 rfl) ?_
  refine rn_if_eq (a := t0) (tgt := 74) hx hb it0 dX12_judgeProduct_63 (by decide) (fun c1 => ?_) (fun c1 => ?_)
  · replace hf := rf_if_t hf c1
    exact ps_judgeProduct_74 hR B σ x1 x2 x3 t0 ix1 ix2 ix3 it0 hf _ _ _ hw (lv_sub hl [1, 2, 3, 4, 0] rfl)
  · replace hf := rf_if_f hf c1
    refine lv_aload_n hx hb dX12_judgeProduct_66 rfl (lv_at hl 1 rfl) ?_
    refine lv_iload_n hx hb dX12_judgeProduct_67 rfl (lv_at hl 2 rfl) ?_
    refine lv_iload hx hb dX12_judgeProduct_68 (lv_at hl 5 rfl) ?_
    refine lv_iload_n hx hb dX12_judgeProduct_70 rfl (lv_at hl 4 rfl) ?_
    obtain ⟨σ2, z3, hσ2, hf⟩ := rf_cl_s hf
    obtain ⟨iz3, mσ2⟩ := hR 48 σ [x1, x4, x3] σ2 z3 hσ2
    have mσ2 : rf_Met l v yX12_bind cX12_bind 4 none d [.ref (rf_h v), .int (rI x1), .int (rI x4), .int (rI x3)] σ σ2 none := mσ2 ix1 ix4 ix3
    refine rf_cv (n := 3) (rest := []) (As := [.int (rI x1), .int (rI x4), .int (rI x3)]) B mσ2 g_430_bind (by decide +kernel) (by decide) rfl hl.1 (Nat.le_of_ble_eq_true rfl) dX12_judgeProduct_71 rfl hw (fun H locs hw => ?_)
    exact ps_judgeProduct_74 hR B σ2 x1 x2 x3 t0 ix1 ix2 ix3 it0 hf _ _ _ hw (lv_sub hl [1, 2, 3, 4, 0] rfl)

set_option maxHeartbeats 4000000 in
set_option maxRecDepth 100000 in
theorem ps_judgeProduct_35 {v : rfE} {p : Program} {l : Launch} {e : Env} {s : State} {m : MethodId} {args : Array Value} {below : List Frame} {meth : Method} {c : Code} {d : Nat} {rec : Nat → RS → List Int → Option (RS × Int)} {σ' : RS} {r : Int} (hR : rf_Rec l v d rec) (B : rf_B v p s m args meth c cX12_judgeProduct 8 none) : ∀ (σ : RS) (x1 x2 x3 t0 : Int), inR x1 → inR x2 → inR x3 → inR t0 → pf_judgeProduct_35 rec σ x1 x2 x3 t0 = some (σ', r) → ∀ (H : Heap) (locs : List Loc) (ls : Array Slot), rf_W v s σ H locs → lv_has ls 8 [(0, .ref (rf_h v)), (1, .int (rI x1)), (2, .int (rI x2)), (3, .int (rI x3))] → W p l e (rf_rm (d + 1)) s m args below meth c H locs 0 0 (MQ below (rf_Q v σ' none) args s 0 0 (rf_F v)) (F0 m 35 ls [.int (rI t0)]) := by
  obtain ⟨hx, hb, hr, hml, hown, hts, hlk, hK, hD⟩ := id B
  intro σ x1 x2 x3 t0 ix1 ix2 ix3 it0 hf H locs ls hw hl
  unfold pf_judgeProduct_35 at hf
  refine lv_istore (lv' := [(4, .int (rI t0)), (0, .ref (rf_h v)), (1, .int (rI x1)), (2, .int (rI x2)), (3, .int (rI x3))]) hx hb dX12_judgeProduct_35 hl (by decide) rfl (fun ls hl => ?_)
  refine lv_aload_n hx hb dX12_judgeProduct_37 rfl (lv_at hl 1 rfl) ?_
  obtain ⟨z1, ez1, iz1, hf⟩ := rf_gi_s hw hf
  refine rf_geti B hw 72 (by decide) rfl lk_150 ez1 dX12_judgeProduct_38 ?_
  refine rn_if_eq (a := z1) (tgt := 45) hx hb iz1 dX12_judgeProduct_41 (by decide) (fun c2 => ?_) (fun c2 => ?_)
  · replace hf := rf_if_t hf c2
    refine lv_aload_n hx hb dX12_judgeProduct_45 rfl (lv_at hl 1 rfl) ?_
    refine rf_get (val := .ref (rf_ad v 31)) B hw 31 (by decide) lk_79 rfl dX12_judgeProduct_46 ?_
    refine lv_iload_n hx hb dX12_judgeProduct_49 rfl (lv_at hl 2 rfl) ?_
    obtain ⟨z3, ez3, iz3, rz3, hf⟩ := rf_rd_s hw hf
    refine rf_ald B hw ix1 rz3 ez3 dX12_judgeProduct_50 ?_
    refine rn_if_lt (a := z3) (tgt := 58) hx hb iz3 dX12_judgeProduct_51 (by decide) (fun c4 => ?_) (fun c4 => ?_)
    · replace hf := rf_if_t hf c4
      refine lv_iconst (v := rI 0) hx hb dX12_judgeProduct_58 rfl ?_
      exact ps_judgeProduct_59 hR B σ x1 x2 x3 t0 0 ix1 ix2 ix3 it0 ⟨by decide, by decide⟩ hf _ _ _ hw (lv_sub hl [1, 2, 3, 4, 0] rfl)
    · replace hf := rf_if_f hf c4
      refine lv_iconst (v := rI 1) hx hb dX12_judgeProduct_54 rfl ?_
      refine lv_goto (tgt := 59) hx hb dX12_judgeProduct_55 (by decide) ?_
      exact ps_judgeProduct_59 hR B σ x1 x2 x3 t0 1 ix1 ix2 ix3 it0 ⟨by decide, by decide⟩ hf _ _ _ hw (lv_sub hl [1, 2, 3, 4, 0] rfl)
  · replace hf := rf_if_f hf c2
    exact rf_retv B hf hw dX12_judgeProduct_44

set_option maxHeartbeats 4000000 in
set_option maxRecDepth 100000 in
theorem ps_judgeProduct_0 {v : rfE} {p : Program} {l : Launch} {e : Env} {s : State} {m : MethodId} {args : Array Value} {below : List Frame} {meth : Method} {c : Code} {d : Nat} {rec : Nat → RS → List Int → Option (RS × Int)} {σ' : RS} {r : Int} (hR : rf_Rec l v d rec) (B : rf_B v p s m args meth c cX12_judgeProduct 8 none) : ∀ (σ : RS) (x1 x2 : Int), inR x1 → inR x2 → pf_judgeProduct_0 rec σ x1 x2 = some (σ', r) → ∀ (H : Heap) (locs : List Loc) (ls : Array Slot), rf_W v s σ H locs → lv_has ls 8 [(0, .ref (rf_h v)), (1, .int (rI x1)), (2, .int (rI x2))] → W p l e (rf_rm (d + 1)) s m args below meth c H locs 0 0 (MQ below (rf_Q v σ' none) args s 0 0 (rf_F v)) (F0 m 0 ls []) := by
  obtain ⟨hx, hb, hr, hml, hown, hts, hlk, hK, hD⟩ := id B
  intro σ x1 x2 ix1 ix2 hf H locs ls hw hl
  unfold pf_judgeProduct_0 at hf
  refine lv_aload_n hx hb dX12_judgeProduct_0 rfl (lv_at hl 0 rfl) ?_
  refine lv_aload_n hx hb dX12_judgeProduct_1 rfl (lv_at hl 0 rfl) ?_
  refine rf_get (val := .ref (rf_ad v 32)) B hw 32 (by decide) lk_82 rfl dX12_judgeProduct_2 ?_
  refine lv_iload_n hx hb dX12_judgeProduct_5 rfl (lv_at hl 1 rfl) ?_
  obtain ⟨z1, ez1, iz1, rz1, hf⟩ := rf_rd_s hw hf
  refine rf_ald B hw ix1 rz1 ez1 dX12_judgeProduct_6 ?_
  refine lv_iload_n hx hb dX12_judgeProduct_7 rfl (lv_at hl 2 rfl) ?_
  obtain ⟨σ2, z3, hσ2, hf⟩ := rf_cl_s hf
  obtain ⟨iz3, mσ2⟩ := hR 47 σ [z1, x2] σ2 z3 hσ2
  have mσ2 : rf_Met l v yX12_judgeSort cX12_judgeSort 4 (some .int) d [.ref (rf_h v), .int (rI z1), .int (rI x2)] σ σ2 (some (.int (rI z3))) := mσ2 iz1 ix2
  refine rf_cv (n := 2) (rest := []) (As := [.int (rI z1), .int (rI x2)]) B mσ2 g_440_judgeSort (by decide +kernel) (by decide) rfl hl.1 (Nat.le_of_ble_eq_true rfl) dX12_judgeProduct_8 rfl hw (fun H locs hw => ?_)
  refine lv_istore_n (lv' := [(3, .int (rI z3)), (0, .ref (rf_h v)), (1, .int (rI x1)), (2, .int (rI x2))]) hx hb dX12_judgeProduct_11 rfl hl (by decide) rfl (fun ls hl => ?_)
  refine lv_aload_n hx hb dX12_judgeProduct_12 rfl (lv_at hl 1 rfl) ?_
  obtain ⟨z4, ez4, iz4, hf⟩ := rf_gi_s hw hf
  refine rf_geti B hw 72 (by decide) rfl lk_150 ez4 dX12_judgeProduct_13 ?_
  refine rn_if_ne (a := z4) (tgt := 34) hx hb iz4 dX12_judgeProduct_16 (by decide) (fun c5 => ?_) (fun c5 => ?_)
  · replace hf := rf_if_t hf c5
    refine lv_iconst (v := rI 0) hx hb dX12_judgeProduct_34 rfl ?_
    exact ps_judgeProduct_35 hR B σ2 x1 x2 z3 0 ix1 ix2 iz3 ⟨by decide, by decide⟩ hf _ _ _ hw (lv_sub hl [1, 2, 3, 0] rfl)
  · replace hf := rf_if_f hf c5
    refine lv_aload_n hx hb dX12_judgeProduct_19 rfl (lv_at hl 1 rfl) ?_
    refine lv_aload_n hx hb dX12_judgeProduct_20 rfl (lv_at hl 1 rfl) ?_
    refine rf_get (val := .ref (rf_ad v 32)) B hw 32 (by decide) lk_82 rfl dX12_judgeProduct_21 ?_
    refine lv_iload_n hx hb dX12_judgeProduct_24 rfl (lv_at hl 2 rfl) ?_
    obtain ⟨z6, ez6, iz6, rz6, hf⟩ := rf_rd_s hw hf
    refine rf_ald B hw ix1 rz6 ez6 dX12_judgeProduct_25 ?_
    refine lv_iload_n hx hb dX12_judgeProduct_26 rfl (lv_at hl 3 rfl) ?_
    refine lv_iconst (v := rI 0) hx hb dX12_judgeProduct_27 rfl ?_
    obtain ⟨σ7, z8, hσ7, hf⟩ := rf_cl_s hf
    obtain ⟨iz8, mσ7⟩ := hR 41 σ2 [z6, x2, 0] σ7 z8 hσ7
    have mσ7 : rf_Met l v yX12_normal cX12_normal 12 (some .int) d [.ref (rf_h v), .int (rI z6), .int (rI x2), .int (rI 0)] σ2 σ7 (some (.int (rI z8))) := mσ7 iz6 ix2 ⟨by decide, by decide⟩
    refine rf_cv (n := 3) (rest := []) (As := [.int (rI z6), .int (rI x2), .int (rI 0)]) B mσ7 g_396_normal (by decide +kernel) (by decide) rfl hl.1 (Nat.le_of_ble_eq_true rfl) dX12_judgeProduct_28 rfl hw (fun H locs hw => ?_)
    refine lv_goto (tgt := 35) hx hb dX12_judgeProduct_31 (by decide) ?_
    exact ps_judgeProduct_35 hR B σ7 x1 x2 z3 z8 ix1 ix2 iz3 iz8 hf _ _ _ hw (lv_sub hl [1, 2, 3, 0] rfl)

set_option maxHeartbeats 4000000 in
set_option maxRecDepth 100000 in
theorem pm_judgeProduct {v : rfE} (hD : rf_D v) {l : Launch} {d : Nat} {rec : Nat → RS → List Int → Option (RS × Int)} (hR : rf_Rec l v d rec) (σ σ' : RS) (x1 x2 r : Int) (ix1 : inR x1) (ix2 : inR x2) (hf : pf_judgeProduct_0 rec σ x1 x2 = some (σ', r)) : rf_Met l v yX12_judgeProduct cX12_judgeProduct 8 none (d + 1) [.ref (rf_h v), .int (rI x1), .int (rI x2)] σ σ' none := by
  refine Met.ofW (cc := cX12_judgeProduct) (maxL := 8) (ret := none) (by decide +kernel) rfl ?_
  intro p e s m args below meth c s₁ B hml hv
  obtain ⟨rfl, hM, hK⟩ := hv
  have hts := atoms_spec (ws := Cond.code yX12_judgeProduct cX12_judgeProduct 8 none :: rf_bw) B.pre
  have hB : rf_B v p s m _ meth c cX12_judgeProduct 8 none := ⟨B.exec, B.bytes, B.returns, hml, findClass_of_methodNamed B.named, fun w h => hts w (List.mem_cons_of_mem _ h), B.notSynchronized, hK, hD⟩
  have hl := lv_entry ([.ref (rf_h v), .int (rI x1), .int (rI x2)]) (n := 8) (Nat.le_of_ble_eq_true rfl)
  rw [lg_entry_eq]
  generalize (lg_sl ([.ref (rf_h v), .int (rI x1), .int (rI x2)]) ++ List.replicate (8 - (lg_sl ([.ref (rf_h v), .int (rI x1), .int (rI x2)])).length) Slot.unset).toArray = ls at hl ⊢
  exact ps_judgeProduct_0 hR hB σ x1 x2 ix1 ix2 hf _ _ _ ⟨hM, rfl, fun _ _ => rfl, fun q h => by cases h⟩ (lv_sub hl [0, 1, 2] rfl)

set_option maxHeartbeats 4000000 in
set_option maxRecDepth 100000 in
theorem ps_judgeLambda_129 {v : rfE} {p : Program} {l : Launch} {e : Env} {s : State} {m : MethodId} {args : Array Value} {below : List Frame} {meth : Method} {c : Code} {d : Nat} {rec : Nat → RS → List Int → Option (RS × Int)} {σ' : RS} {r : Int} (hR : rf_Rec l v d rec) (B : rf_B v p s m args meth c cX12_judgeLambda 8 none) : ∀ (σ : RS) (x1 t0 : Int), inR x1 → inR t0 → pf_judgeLambda_129 rec σ x1 t0 = some (σ', r) → ∀ (H : Heap) (locs : List Loc) (ls : Array Slot), rf_W v s σ H locs → lv_has ls 8 [(0, .ref (rf_h v)), (1, .int (rI x1))] → W p l e (rf_rm (d + 1)) s m args below meth c H locs 0 0 (MQ below (rf_Q v σ' none) args s 0 0 (rf_F v)) (F0 m 129 ls [.int (rI t0), .ref (rf_h v)]) := by
  obtain ⟨hx, hb, hr, hml, hown, hts, hlk, hK, hD⟩ := id B
  intro σ x1 t0 ix1 it0 hf H locs ls hw hl
  unfold pf_judgeLambda_129 at hf
  refine lv_aload_n hx hb dX12_judgeLambda_129 rfl (lv_at hl 0 rfl) ?_
  refine rf_get (val := .ref (rf_ad v 35)) B hw 35 (by decide) lk_91 rfl dX12_judgeLambda_130 ?_
  refine lv_iload_n hx hb dX12_judgeLambda_133 rfl (lv_at hl 1 rfl) ?_
  obtain ⟨z1, ez1, iz1, rz1, hf⟩ := rf_rd_s hw hf
  refine rf_ald B hw ix1 rz1 ez1 dX12_judgeLambda_134 ?_
  obtain ⟨σ2, z3, hσ2, hf⟩ := rf_cl_s hf
  obtain ⟨iz3, mσ2⟩ := hR 3 σ [t0, z1] σ2 z3 hσ2
  have mσ2 : rf_Met l v yX12_wrong cX12_wrong 3 none d [.ref (rf_h v), .int (rI t0), .int (rI z1)] σ σ2 none := mσ2 it0 iz1
  refine rf_cv (n := 2) (rest := []) (As := [.int (rI t0), .int (rI z1)]) B mσ2 g_218_wrong (by decide +kernel) (by decide) rfl hl.1 (Nat.le_of_ble_eq_true rfl) dX12_judgeLambda_135 rfl hw (fun H locs hw => ?_)
  exact rf_retv B hf hw dX12_judgeLambda_138

set_option maxHeartbeats 4000000 in
set_option maxRecDepth 100000 in
theorem ps_judgeLambda_109 {v : rfE} {p : Program} {l : Launch} {e : Env} {s : State} {m : MethodId} {args : Array Value} {below : List Frame} {meth : Method} {c : Code} {d : Nat} {rec : Nat → RS → List Int → Option (RS × Int)} {σ' : RS} {r : Int} (hR : rf_Rec l v d rec) (B : rf_B v p s m args meth c cX12_judgeLambda 8 none) : ∀ (σ : RS) (x1 x3 x4 x5 t0 : Int), inR x1 → inR x3 → inR x4 → inR x5 → inR t0 → pf_judgeLambda_109 rec σ x1 x3 x4 x5 t0 = some (σ', r) → ∀ (H : Heap) (locs : List Loc) (ls : Array Slot), rf_W v s σ H locs → lv_has ls 8 [(0, .ref (rf_h v)), (1, .int (rI x1)), (3, .int (rI x3)), (4, .int (rI x4)), (5, .int (rI x5))] → W p l e (rf_rm (d + 1)) s m args below meth c H locs 0 0 (MQ below (rf_Q v σ' none) args s 0 0 (rf_F v)) (F0 m 109 ls [.int (rI t0)]) := by
  obtain ⟨hx, hb, hr, hml, hown, hts, hlk, hK, hD⟩ := id B
  intro σ x1 x3 x4 x5 t0 ix1 ix3 ix4 ix5 it0 hf H locs ls hw hl
  unfold pf_judgeLambda_109 at hf
  refine lv_istore (lv' := [(6, .int (rI t0)), (0, .ref (rf_h v)), (1, .int (rI x1)), (3, .int (rI x3)), (4, .int (rI x4)), (5, .int (rI x5))]) hx hb dX12_judgeLambda_109 hl (by decide) rfl (fun ls hl => ?_)
  refine lv_iload hx hb dX12_judgeLambda_111 (lv_at hl 0 rfl) ?_
  refine rn_if_ge (a := t0) (tgt := 139) hx hb it0 dX12_judgeLambda_113 (by decide) (fun c1 => ?_) (fun c1 => ?_)
  · replace hf := rf_if_t hf c1
    refine lv_aload_n hx hb dX12_judgeLambda_139 rfl (lv_at hl 1 rfl) ?_
    refine lv_iconst (v := rI 5) hx hb dX12_judgeLambda_140 rfl ?_
    refine lv_iconst (v := rI (-1)) hx hb dX12_judgeLambda_141 rfl ?_
    refine lv_iload hx hb dX12_judgeLambda_142 (lv_at hl 4 rfl) ?_
    refine lv_aload_n hx hb dX12_judgeLambda_144 rfl (lv_at hl 1 rfl) ?_
    obtain ⟨z2, ez2, iz2, hf⟩ := rf_gi_s hw hf
    refine rf_geti B hw 60 (by decide) rfl lk_403 ez2 dX12_judgeLambda_145 ?_
    refine lv_iconst (v := rI 0) hx hb dX12_judgeLambda_148 rfl ?_
    obtain ⟨σ3, z4, hσ3, hf⟩ := rf_cl_s hf
    obtain ⟨iz4, mσ3⟩ := hR 18 σ [5, (-1), x4, z2, 0] σ3 z4 hσ3
    have mσ3 : rf_Met l v yX12_node cX12_node 6 (some .int) d [.ref (rf_h v), .int (rI 5), .int (rI (-1)), .int (rI x4), .int (rI z2), .int (rI 0)] σ σ3 (some (.int (rI z4))) := mσ3 ⟨by decide, by decide⟩ ⟨by decide, by decide⟩ ix4 iz2 ⟨by decide, by decide⟩
    refine rf_cv (n := 5) (rest := []) (As := [.int (rI 5), .int (rI (-1)), .int (rI x4), .int (rI z2), .int (rI 0)]) B mσ3 g_241_node (by decide +kernel) (by decide) rfl hl.1 (Nat.le_of_ble_eq_true rfl) dX12_judgeLambda_149 rfl hw (fun H locs hw => ?_)
    refine lv_istore (lv' := [(7, .int (rI z4)), (6, .int (rI t0)), (0, .ref (rf_h v)), (1, .int (rI x1)), (3, .int (rI x3)), (4, .int (rI x4)), (5, .int (rI x5))]) hx hb dX12_judgeLambda_152 hl (by decide) rfl (fun ls hl => ?_)
    refine lv_aload_n hx hb dX12_judgeLambda_154 rfl (lv_at hl 2 rfl) ?_
    refine rf_get (val := .ref (rf_ad v 38)) B hw 38 (by decide) lk_100 rfl dX12_judgeLambda_155 ?_
    refine lv_iload hx hb dX12_judgeLambda_158 (lv_at hl 0 rfl) ?_
    refine lv_iload_n hx hb dX12_judgeLambda_160 rfl (lv_at hl 3 rfl) ?_
    obtain ⟨σ5, eσ5, rσ5, hf⟩ := rf_wr_s hf
    refine rf_ast B hw iz4 ix1 rσ5 eσ5 dX12_judgeLambda_161 (fun H locs hw => ?_)
    refine lv_aload_n hx hb dX12_judgeLambda_162 rfl (lv_at hl 2 rfl) ?_
    refine rf_get (val := .ref (rf_ad v 36)) B hw 36 (by decide) lk_94 rfl dX12_judgeLambda_163 ?_
    refine lv_iload hx hb dX12_judgeLambda_166 (lv_at hl 0 rfl) ?_
    refine lv_iload_n hx hb dX12_judgeLambda_168 rfl (lv_at hl 4 rfl) ?_
    obtain ⟨σ6, eσ6, rσ6, hf⟩ := rf_wr_s hf
    refine rf_ast B hw iz4 ix3 rσ6 eσ6 dX12_judgeLambda_169 (fun H locs hw => ?_)
    refine lv_aload_n hx hb dX12_judgeLambda_170 rfl (lv_at hl 2 rfl) ?_
    refine rf_get (val := .ref (rf_ad v 37)) B hw 37 (by decide) lk_97 rfl dX12_judgeLambda_171 ?_
    refine lv_iload hx hb dX12_judgeLambda_174 (lv_at hl 0 rfl) ?_
    refine lv_iload hx hb dX12_judgeLambda_176 (lv_at hl 6 rfl) ?_
    obtain ⟨σ7, eσ7, rσ7, hf⟩ := rf_wr_s hf
    refine rf_ast B hw iz4 ix5 rσ7 eσ7 dX12_judgeLambda_178 (fun H locs hw => ?_)
    refine lv_aload_n hx hb dX12_judgeLambda_179 rfl (lv_at hl 2 rfl) ?_
    refine lv_iload hx hb dX12_judgeLambda_180 (lv_at hl 0 rfl) ?_
    refine lv_iload hx hb dX12_judgeLambda_182 (lv_at hl 1 rfl) ?_
    obtain ⟨σ8, z9, hσ8, hf⟩ := rf_cl_s hf
    obtain ⟨iz9, mσ8⟩ := hR 45 σ7 [z4, t0] σ8 z9 hσ8
    have mσ8 : rf_Met l v yX12_becomes cX12_becomes 3 none d [.ref (rf_h v), .int (rI z4), .int (rI t0)] σ7 σ8 none := mσ8 iz4 it0
    refine rf_cv (n := 2) (rest := []) (As := [.int (rI z4), .int (rI t0)]) B mσ8 g_412_becomes (by decide +kernel) (by decide) rfl hl.1 (Nat.le_of_ble_eq_true rfl) dX12_judgeLambda_184 rfl hw (fun H locs hw => ?_)
    exact rf_retv B hf hw dX12_judgeLambda_187
  · replace hf := rf_if_f hf c1
    refine lv_aload_n hx hb dX12_judgeLambda_116 rfl (lv_at hl 1 rfl) ?_
    refine lv_iload hx hb dX12_judgeLambda_117 (lv_at hl 5 rfl) ?_
    refine rn_if_ge (a := x5) (tgt := 127) hx hb ix5 dX12_judgeLambda_119 (by decide) (fun c10 => ?_) (fun c10 => ?_)
    · replace hf := rf_if_t hf c10
      refine lv_bipush (v := rI 9) hx hb dX12_judgeLambda_127 (by decide +kernel) ?_
      exact ps_judgeLambda_129 hR B σ x1 9 ix1 ⟨by decide, by decide⟩ hf _ _ _ hw (lv_sub hl [1, 2] rfl)
    · replace hf := rf_if_f hf c10
      refine lv_bipush (v := rI 7) hx hb dX12_judgeLambda_122 (by decide +kernel) ?_
      refine lv_goto (tgt := 129) hx hb dX12_judgeLambda_124 (by decide) ?_
      exact ps_judgeLambda_129 hR B σ x1 7 ix1 ⟨by decide, by decide⟩ hf _ _ _ hw (lv_sub hl [1, 2] rfl)

set_option maxHeartbeats 4000000 in
set_option maxRecDepth 100000 in
theorem ps_judgeLambda_35 {v : rfE} {p : Program} {l : Launch} {e : Env} {s : State} {m : MethodId} {args : Array Value} {below : List Frame} {meth : Method} {c : Code} {d : Nat} {rec : Nat → RS → List Int → Option (RS × Int)} {σ' : RS} {r : Int} (hR : rf_Rec l v d rec) (B : rf_B v p s m args meth c cX12_judgeLambda 8 none) : ∀ (σ : RS) (x1 x2 x3 t0 : Int), inR x1 → inR x2 → inR x3 → inR t0 → pf_judgeLambda_35 rec σ x1 x2 x3 t0 = some (σ', r) → ∀ (H : Heap) (locs : List Loc) (ls : Array Slot), rf_W v s σ H locs → lv_has ls 8 [(0, .ref (rf_h v)), (1, .int (rI x1)), (2, .int (rI x2)), (3, .int (rI x3))] → W p l e (rf_rm (d + 1)) s m args below meth c H locs 0 0 (MQ below (rf_Q v σ' none) args s 0 0 (rf_F v)) (F0 m 35 ls [.int (rI t0)]) := by
  obtain ⟨hx, hb, hr, hml, hown, hts, hlk, hK, hD⟩ := id B
  intro σ x1 x2 x3 t0 ix1 ix2 ix3 it0 hf H locs ls hw hl
  unfold pf_judgeLambda_35 at hf
  refine lv_istore (lv' := [(4, .int (rI t0)), (0, .ref (rf_h v)), (1, .int (rI x1)), (2, .int (rI x2)), (3, .int (rI x3))]) hx hb dX12_judgeLambda_35 hl (by decide) rfl (fun ls hl => ?_)
  refine lv_aload_n hx hb dX12_judgeLambda_37 rfl (lv_at hl 1 rfl) ?_
  obtain ⟨z1, ez1, iz1, hf⟩ := rf_gi_s hw hf
  refine rf_geti B hw 72 (by decide) rfl lk_150 ez1 dX12_judgeLambda_38 ?_
  refine rn_if_eq (a := z1) (tgt := 45) hx hb iz1 dX12_judgeLambda_41 (by decide) (fun c2 => ?_) (fun c2 => ?_)
  · replace hf := rf_if_t hf c2
    refine lv_aload_n hx hb dX12_judgeLambda_45 rfl (lv_at hl 1 rfl) ?_
    refine lv_iload_n hx hb dX12_judgeLambda_46 rfl (lv_at hl 2 rfl) ?_
    refine lv_iload hx hb dX12_judgeLambda_47 (lv_at hl 0 rfl) ?_
    refine lv_iload_n hx hb dX12_judgeLambda_49 rfl (lv_at hl 4 rfl) ?_
    obtain ⟨σ3, z4, hσ3, hf⟩ := rf_cl_s hf
    obtain ⟨iz4, mσ3⟩ := hR 48 σ [x1, t0, x3] σ3 z4 hσ3
    have mσ3 : rf_Met l v yX12_bind cX12_bind 4 none d [.ref (rf_h v), .int (rI x1), .int (rI t0), .int (rI x3)] σ σ3 none := mσ3 ix1 it0 ix3
    refine rf_cv (n := 3) (rest := []) (As := [.int (rI x1), .int (rI t0), .int (rI x3)]) B mσ3 g_430_bind (by decide +kernel) (by decide) rfl hl.1 (Nat.le_of_ble_eq_true rfl) dX12_judgeLambda_50 rfl hw (fun H locs hw => ?_)
    refine lv_aload_n hx hb dX12_judgeLambda_53 rfl (lv_at hl 1 rfl) ?_
    refine lv_aload_n hx hb dX12_judgeLambda_54 rfl (lv_at hl 1 rfl) ?_
    refine rf_get (val := .ref (rf_ad v 33)) B hw 33 (by decide) lk_85 rfl dX12_judgeLambda_55 ?_
    refine lv_iload_n hx hb dX12_judgeLambda_58 rfl (lv_at hl 2 rfl) ?_
    obtain ⟨z5, ez5, iz5, rz5, hf⟩ := rf_rd_s hw hf
    refine rf_ald B hw ix1 rz5 ez5 dX12_judgeLambda_59 ?_
    refine lv_iload_n hx hb dX12_judgeLambda_60 rfl (lv_at hl 3 rfl) ?_
    obtain ⟨σ6, z7, hσ6, hf⟩ := rf_cl_s hf
    obtain ⟨iz7, mσ6⟩ := hR 49 σ3 [z5, x2] σ6 z7 hσ6
    have mσ6 : rf_Met l v yX12_judge cX12_judge 3 none d [.ref (rf_h v), .int (rI z5), .int (rI x2)] σ3 σ6 none := mσ6 iz5 ix2
    refine rf_cv (n := 2) (rest := []) (As := [.int (rI z5), .int (rI x2)]) B mσ6 g_421_judge (by decide +kernel) (by decide) rfl hl.1 (Nat.le_of_ble_eq_true rfl) dX12_judgeLambda_61 rfl hw (fun H locs hw => ?_)
    refine lv_aload_n hx hb dX12_judgeLambda_64 rfl (lv_at hl 1 rfl) ?_
    refine lv_dup hx hb dX12_judgeLambda_65 rfl ?_
    obtain ⟨z8, ez8, iz8, hf⟩ := rf_gi_s hw hf
    refine rf_geti B hw 43 (by decide) rfl lk_409 ez8 dX12_judgeLambda_66 ?_
    refine lv_iconst (v := rI 1) hx hb dX12_judgeLambda_69 rfl ?_
    obtain ⟨z9, ez9, iz9, hf⟩ := rf_ck_s hf
    refine rn_sub hx hb ez9 dX12_judgeLambda_70 ?_
    obtain ⟨σ10, eσ10, hf⟩ := rf_pi_s hf
    refine rf_put B hw 43 (by decide) rfl rfl lk_409 iz9 eσ10 rfl rfl dX12_judgeLambda_71 (fun H locs hw => ?_)
    refine lv_aload_n hx hb dX12_judgeLambda_74 rfl (lv_at hl 1 rfl) ?_
    obtain ⟨z11, ez11, iz11, hf⟩ := rf_gi_s hw hf
    refine rf_geti B hw 72 (by decide) rfl lk_150 ez11 dX12_judgeLambda_75 ?_
    refine rn_if_eq (a := z11) (tgt := 82) hx hb iz11 dX12_judgeLambda_78 (by decide) (fun c12 => ?_) (fun c12 => ?_)
    · replace hf := rf_if_t hf c12
      refine lv_aload_n hx hb dX12_judgeLambda_82 rfl (lv_at hl 1 rfl) ?_
      obtain ⟨z13, ez13, iz13, hf⟩ := rf_gi_s hw hf
      refine rf_geti B hw 61 (by decide) rfl lk_406 ez13 dX12_judgeLambda_83 ?_
      refine lv_istore (lv' := [(5, .int (rI z13)), (4, .int (rI t0)), (0, .ref (rf_h v)), (1, .int (rI x1)), (2, .int (rI x2)), (3, .int (rI x3))]) hx hb dX12_judgeLambda_86 hl (by decide) rfl (fun ls hl => ?_)
      refine lv_iload hx hb dX12_judgeLambda_88 (lv_at hl 0 rfl) ?_
      refine rn_if_ge (a := z13) (tgt := 97) hx hb iz13 dX12_judgeLambda_90 (by decide) (fun c14 => ?_) (fun c14 => ?_)
      · replace hf := rf_if_t hf c14
        refine lv_aload_n hx hb dX12_judgeLambda_97 rfl (lv_at hl 2 rfl) ?_
        refine rf_get (val := .ref (rf_ad v 19)) B hw 19 (by decide) lk_52 rfl dX12_judgeLambda_98 ?_
        refine lv_bipush (v := rI 8) hx hb dX12_judgeLambda_101 (by decide +kernel) ?_
        refine lv_iload_n hx hb dX12_judgeLambda_103 rfl (lv_at hl 5 rfl) ?_
        obtain ⟨z15, ez15, iz15, hf⟩ := rf_ck_s hf
        refine rn_mul hx hb ez15 dX12_judgeLambda_104 ?_
        refine lv_iload hx hb dX12_judgeLambda_105 (lv_at hl 0 rfl) ?_
        obtain ⟨z16, ez16, iz16, hf⟩ := rf_ck_s hf
        refine rn_add hx hb ez16 dX12_judgeLambda_107 ?_
        obtain ⟨z17, ez17, iz17, rz17, hf⟩ := rf_rd_s hw hf
        refine rf_ald B hw iz16 rz17 ez17 dX12_judgeLambda_108 ?_
        exact ps_judgeLambda_109 hR B σ10 x1 x3 t0 z13 z17 ix1 ix3 it0 iz13 iz17 hf _ _ _ hw (lv_sub hl [2, 3, 5, 1, 0] rfl)
      · replace hf := rf_if_f hf c14
        refine lv_iconst (v := rI (-1)) hx hb dX12_judgeLambda_93 rfl ?_
        refine lv_goto (tgt := 109) hx hb dX12_judgeLambda_94 (by decide) ?_
        exact ps_judgeLambda_109 hR B σ10 x1 x3 t0 z13 (-1) ix1 ix3 it0 iz13 ⟨by decide, by decide⟩ hf _ _ _ hw (lv_sub hl [2, 3, 5, 1, 0] rfl)
    · replace hf := rf_if_f hf c12
      exact rf_retv B hf hw dX12_judgeLambda_81
  · replace hf := rf_if_f hf c2
    exact rf_retv B hf hw dX12_judgeLambda_44

set_option maxHeartbeats 4000000 in
set_option maxRecDepth 100000 in
theorem ps_judgeLambda_0 {v : rfE} {p : Program} {l : Launch} {e : Env} {s : State} {m : MethodId} {args : Array Value} {below : List Frame} {meth : Method} {c : Code} {d : Nat} {rec : Nat → RS → List Int → Option (RS × Int)} {σ' : RS} {r : Int} (hR : rf_Rec l v d rec) (B : rf_B v p s m args meth c cX12_judgeLambda 8 none) : ∀ (σ : RS) (x1 x2 : Int), inR x1 → inR x2 → pf_judgeLambda_0 rec σ x1 x2 = some (σ', r) → ∀ (H : Heap) (locs : List Loc) (ls : Array Slot), rf_W v s σ H locs → lv_has ls 8 [(0, .ref (rf_h v)), (1, .int (rI x1)), (2, .int (rI x2))] → W p l e (rf_rm (d + 1)) s m args below meth c H locs 0 0 (MQ below (rf_Q v σ' none) args s 0 0 (rf_F v)) (F0 m 0 ls []) := by
  obtain ⟨hx, hb, hr, hml, hown, hts, hlk, hK, hD⟩ := id B
  intro σ x1 x2 ix1 ix2 hf H locs ls hw hl
  unfold pf_judgeLambda_0 at hf
  refine lv_aload_n hx hb dX12_judgeLambda_0 rfl (lv_at hl 0 rfl) ?_
  refine lv_aload_n hx hb dX12_judgeLambda_1 rfl (lv_at hl 0 rfl) ?_
  refine rf_get (val := .ref (rf_ad v 32)) B hw 32 (by decide) lk_82 rfl dX12_judgeLambda_2 ?_
  refine lv_iload_n hx hb dX12_judgeLambda_5 rfl (lv_at hl 1 rfl) ?_
  obtain ⟨z1, ez1, iz1, rz1, hf⟩ := rf_rd_s hw hf
  refine rf_ald B hw ix1 rz1 ez1 dX12_judgeLambda_6 ?_
  refine lv_iload_n hx hb dX12_judgeLambda_7 rfl (lv_at hl 2 rfl) ?_
  obtain ⟨σ2, z3, hσ2, hf⟩ := rf_cl_s hf
  obtain ⟨iz3, mσ2⟩ := hR 47 σ [z1, x2] σ2 z3 hσ2
  have mσ2 : rf_Met l v yX12_judgeSort cX12_judgeSort 4 (some .int) d [.ref (rf_h v), .int (rI z1), .int (rI x2)] σ σ2 (some (.int (rI z3))) := mσ2 iz1 ix2
  refine rf_cv (n := 2) (rest := []) (As := [.int (rI z1), .int (rI x2)]) B mσ2 g_440_judgeSort (by decide +kernel) (by decide) rfl hl.1 (Nat.le_of_ble_eq_true rfl) dX12_judgeLambda_8 rfl hw (fun H locs hw => ?_)
  refine lv_istore_n (lv' := [(3, .int (rI z3)), (0, .ref (rf_h v)), (1, .int (rI x1)), (2, .int (rI x2))]) hx hb dX12_judgeLambda_11 rfl hl (by decide) rfl (fun ls hl => ?_)
  refine lv_aload_n hx hb dX12_judgeLambda_12 rfl (lv_at hl 1 rfl) ?_
  obtain ⟨z4, ez4, iz4, hf⟩ := rf_gi_s hw hf
  refine rf_geti B hw 72 (by decide) rfl lk_150 ez4 dX12_judgeLambda_13 ?_
  refine rn_if_ne (a := z4) (tgt := 34) hx hb iz4 dX12_judgeLambda_16 (by decide) (fun c5 => ?_) (fun c5 => ?_)
  · replace hf := rf_if_t hf c5
    refine lv_iconst (v := rI 0) hx hb dX12_judgeLambda_34 rfl ?_
    exact ps_judgeLambda_35 hR B σ2 x1 x2 z3 0 ix1 ix2 iz3 ⟨by decide, by decide⟩ hf _ _ _ hw (lv_sub hl [1, 2, 3, 0] rfl)
  · replace hf := rf_if_f hf c5
    refine lv_aload_n hx hb dX12_judgeLambda_19 rfl (lv_at hl 1 rfl) ?_
    refine lv_aload_n hx hb dX12_judgeLambda_20 rfl (lv_at hl 1 rfl) ?_
    refine rf_get (val := .ref (rf_ad v 32)) B hw 32 (by decide) lk_82 rfl dX12_judgeLambda_21 ?_
    refine lv_iload_n hx hb dX12_judgeLambda_24 rfl (lv_at hl 2 rfl) ?_
    obtain ⟨z6, ez6, iz6, rz6, hf⟩ := rf_rd_s hw hf
    refine rf_ald B hw ix1 rz6 ez6 dX12_judgeLambda_25 ?_
    refine lv_iload_n hx hb dX12_judgeLambda_26 rfl (lv_at hl 3 rfl) ?_
    refine lv_iconst (v := rI 0) hx hb dX12_judgeLambda_27 rfl ?_
    obtain ⟨σ7, z8, hσ7, hf⟩ := rf_cl_s hf
    obtain ⟨iz8, mσ7⟩ := hR 41 σ2 [z6, x2, 0] σ7 z8 hσ7
    have mσ7 : rf_Met l v yX12_normal cX12_normal 12 (some .int) d [.ref (rf_h v), .int (rI z6), .int (rI x2), .int (rI 0)] σ2 σ7 (some (.int (rI z8))) := mσ7 iz6 ix2 ⟨by decide, by decide⟩
    refine rf_cv (n := 3) (rest := []) (As := [.int (rI z6), .int (rI x2), .int (rI 0)]) B mσ7 g_396_normal (by decide +kernel) (by decide) rfl hl.1 (Nat.le_of_ble_eq_true rfl) dX12_judgeLambda_28 rfl hw (fun H locs hw => ?_)
    refine lv_goto (tgt := 35) hx hb dX12_judgeLambda_31 (by decide) ?_
    exact ps_judgeLambda_35 hR B σ7 x1 x2 z3 z8 ix1 ix2 iz3 iz8 hf _ _ _ hw (lv_sub hl [1, 2, 3, 0] rfl)

set_option maxHeartbeats 4000000 in
set_option maxRecDepth 100000 in
theorem pm_judgeLambda {v : rfE} (hD : rf_D v) {l : Launch} {d : Nat} {rec : Nat → RS → List Int → Option (RS × Int)} (hR : rf_Rec l v d rec) (σ σ' : RS) (x1 x2 r : Int) (ix1 : inR x1) (ix2 : inR x2) (hf : pf_judgeLambda_0 rec σ x1 x2 = some (σ', r)) : rf_Met l v yX12_judgeLambda cX12_judgeLambda 8 none (d + 1) [.ref (rf_h v), .int (rI x1), .int (rI x2)] σ σ' none := by
  refine Met.ofW (cc := cX12_judgeLambda) (maxL := 8) (ret := none) (by decide +kernel) rfl ?_
  intro p e s m args below meth c s₁ B hml hv
  obtain ⟨rfl, hM, hK⟩ := hv
  have hts := atoms_spec (ws := Cond.code yX12_judgeLambda cX12_judgeLambda 8 none :: rf_bw) B.pre
  have hB : rf_B v p s m _ meth c cX12_judgeLambda 8 none := ⟨B.exec, B.bytes, B.returns, hml, findClass_of_methodNamed B.named, fun w h => hts w (List.mem_cons_of_mem _ h), B.notSynchronized, hK, hD⟩
  have hl := lv_entry ([.ref (rf_h v), .int (rI x1), .int (rI x2)]) (n := 8) (Nat.le_of_ble_eq_true rfl)
  rw [lg_entry_eq]
  generalize (lg_sl ([.ref (rf_h v), .int (rI x1), .int (rI x2)]) ++ List.replicate (8 - (lg_sl ([.ref (rf_h v), .int (rI x1), .int (rI x2)])).length) Slot.unset).toArray = ls at hl ⊢
  exact ps_judgeLambda_0 hR hB σ x1 x2 ix1 ix2 hf _ _ _ ⟨hM, rfl, fun _ _ => rfl, fun q h => by cases h⟩ (lv_sub hl [0, 1, 2] rfl)

set_option maxHeartbeats 4000000 in
set_option maxRecDepth 100000 in
theorem ps_judgeUse_68 {v : rfE} {p : Program} {l : Launch} {e : Env} {s : State} {m : MethodId} {args : Array Value} {below : List Frame} {meth : Method} {c : Code} {d : Nat} {rec : Nat → RS → List Int → Option (RS × Int)} {σ' : RS} {r : Int} (hR : rf_Rec l v d rec) (B : rf_B v p s m args meth c cX12_judgeUse 6 none) : ∀ (n : Nat) (σ : RS) (x2 x3 x5 : Int), inR x2 → inR x3 → inR x5 → pf_judgeUse_68 rec n σ x2 x3 x5 = some (σ', r) → ∀ (H : Heap) (locs : List Loc) (ls : Array Slot), rf_W v s σ H locs → lv_has ls 6 [(0, .ref (rf_h v)), (2, .int (rI x2)), (3, .int (rI x3)), (5, .int (rI x5))] → W p l e (rf_rm (d + 1)) s m args below meth c H locs 0 0 (MQ below (rf_Q v σ' none) args s 0 0 (rf_F v)) (F0 m 68 ls []) := by
  obtain ⟨hx, hb, hr, hml, hown, hts, hlk, hK, hD⟩ := id B
  intro n
  induction n with
  | zero => intro σ x2 x3 x5 ix2 ix3 ix5 hf; cases hf
  | succ n ih =>
    intro σ x2 x3 x5 ix2 ix3 ix5 hf H locs ls hw hl
    unfold pf_judgeUse_68 at hf
    refine lv_aload_n hx hb dX12_judgeUse_68 rfl (lv_at hl 0 rfl) ?_
    obtain ⟨z1, ez1, iz1, hf⟩ := rf_gi_s hw hf
    refine rf_geti B hw 72 (by decide) rfl lk_150 ez1 dX12_judgeUse_69 ?_
    refine rn_if_ne (a := z1) (tgt := 99) hx hb iz1 dX12_judgeUse_72 (by decide) (fun c2 => ?_) (fun c2 => ?_)
    · replace hf := rf_if_t hf c2
      refine lv_aload_n hx hb dX12_judgeUse_99 rfl (lv_at hl 0 rfl) ?_
      refine lv_iload_n hx hb dX12_judgeUse_100 rfl (lv_at hl 2 rfl) ?_
      obtain ⟨σ3, eσ3, hf⟩ := rf_pi_s hf
      refine rf_put B hw 59 (by decide) rfl rfl lk_443 ix3 eσ3 rfl rfl dX12_judgeUse_101 (fun H locs hw => ?_)
      exact rf_retv B hf hw dX12_judgeUse_104
    · replace hf := rf_if_f hf c2
      refine lv_iload hx hb dX12_judgeUse_75 (lv_at hl 3 rfl) ?_
      refine lv_iload_n hx hb dX12_judgeUse_77 rfl (lv_at hl 2 rfl) ?_
      refine rn_icmp_lt (a := x5) (b := x3) (tgt := 99) hx hb ix5 ix3 dX12_judgeUse_78 (by decide) (fun c4 => ?_) (fun c4 => ?_)
      · replace hf := rf_if_t hf c4
        refine lv_aload_n hx hb dX12_judgeUse_99 rfl (lv_at hl 0 rfl) ?_
        refine lv_iload_n hx hb dX12_judgeUse_100 rfl (lv_at hl 2 rfl) ?_
        obtain ⟨σ5, eσ5, hf⟩ := rf_pi_s hf
        refine rf_put B hw 59 (by decide) rfl rfl lk_443 ix3 eσ5 rfl rfl dX12_judgeUse_101 (fun H locs hw => ?_)
        exact rf_retv B hf hw dX12_judgeUse_104
      · replace hf := rf_if_f hf c4
        refine lv_aload_n hx hb dX12_judgeUse_81 rfl (lv_at hl 0 rfl) ?_
        refine lv_aload_n hx hb dX12_judgeUse_82 rfl (lv_at hl 0 rfl) ?_
        refine rf_get (val := .ref (rf_ad v 58)) B hw 58 (by decide) lk_134 rfl dX12_judgeUse_83 ?_
        refine lv_iload hx hb dX12_judgeUse_86 (lv_at hl 3 rfl) ?_
        obtain ⟨z6, ez6, iz6, rz6, hf⟩ := rf_rd_s hw hf
        refine rf_ald B hw ix5 rz6 ez6 dX12_judgeUse_88 ?_
        refine lv_iload_n hx hb dX12_judgeUse_89 rfl (lv_at hl 1 rfl) ?_
        obtain ⟨σ7, z8, hσ7, hf⟩ := rf_cl_s hf
        obtain ⟨iz8, mσ7⟩ := hR 53 σ [z6, x2] σ7 z8 hσ7
        have mσ7 : rf_Met l v yX12_applied cX12_applied 7 none d [.ref (rf_h v), .int (rI z6), .int (rI x2)] σ σ7 none := mσ7 iz6 ix2
        refine rf_cv (n := 2) (rest := []) (As := [.int (rI z6), .int (rI x2)]) B mσ7 g_446_applied (by decide +kernel) (by decide) rfl hl.1 (Nat.le_of_ble_eq_true rfl) dX12_judgeUse_90 rfl hw (fun H locs hw => ?_)
        obtain ⟨z9, ez9, iz9, hf⟩ := rf_ck_s hf
        refine lv_iinc (v := rI z9) (lv' := [(5, .int (rI z9)), (0, .ref (rf_h v)), (2, .int (rI x2)), (3, .int (rI x3))]) hx hb dX12_judgeUse_93 hl (k := 3) rfl (by rw [ez9]; exact rI_add _ _) (by decide) rfl (fun ls hl => ?_)
        refine lv_goto (tgt := 68) hx hb dX12_judgeUse_96 (by decide) ?_
        exact ih σ7 x2 x3 z9 ix2 ix3 iz9 hf _ _ _ hw (lv_sub hl [1, 2, 3, 0] rfl)

set_option maxHeartbeats 4000000 in
set_option maxRecDepth 100000 in
theorem ps_judgeUse_8 {v : rfE} {p : Program} {l : Launch} {e : Env} {s : State} {m : MethodId} {args : Array Value} {below : List Frame} {meth : Method} {c : Code} {d : Nat} {rec : Nat → RS → List Int → Option (RS × Int)} {σ' : RS} {r : Int} (hR : rf_Rec l v d rec) (B : rf_B v p s m args meth c cX12_judgeUse 6 none) : ∀ (n : Nat) (σ : RS) (x2 x3 x4 : Int), inR x2 → inR x3 → inR x4 → pf_judgeUse_8 rec n σ x2 x3 x4 = some (σ', r) → ∀ (H : Heap) (locs : List Loc) (ls : Array Slot), rf_W v s σ H locs → lv_has ls 6 [(0, .ref (rf_h v)), (2, .int (rI x2)), (3, .int (rI x3)), (4, .int (rI x4))] → W p l e (rf_rm (d + 1)) s m args below meth c H locs 0 0 (MQ below (rf_Q v σ' none) args s 0 0 (rf_F v)) (F0 m 8 ls []) := by
  obtain ⟨hx, hb, hr, hml, hown, hts, hlk, hK, hD⟩ := id B
  intro n
  induction n with
  | zero => intro σ x2 x3 x4 ix2 ix3 ix4 hf; cases hf
  | succ n ih =>
    intro σ x2 x3 x4 ix2 ix3 ix4 hf H locs ls hw hl
    unfold pf_judgeUse_8 at hf
    refine lv_aload_n hx hb dX12_judgeUse_8 rfl (lv_at hl 0 rfl) ?_
    refine rf_get (val := .ref (rf_ad v 30)) B hw 30 (by decide) lk_76 rfl dX12_judgeUse_9 ?_
    refine lv_iload hx hb dX12_judgeUse_12 (lv_at hl 3 rfl) ?_
    obtain ⟨z1, ez1, iz1, rz1, hf⟩ := rf_rd_s hw hf
    refine rf_ald B hw ix4 rz1 ez1 dX12_judgeUse_14 ?_
    refine lv_bipush (v := rI 7) hx hb dX12_judgeUse_15 (by decide +kernel) ?_
    refine rn_icmp_ne (a := z1) (b := 7) (tgt := 53) hx hb iz1 ⟨by decide, by decide⟩ dX12_judgeUse_17 (by decide) (fun c2 => ?_) (fun c2 => ?_)
    · replace hf := rf_if_t hf c2
      refine lv_aload_n hx hb dX12_judgeUse_53 rfl (lv_at hl 0 rfl) ?_
      refine lv_iload hx hb dX12_judgeUse_54 (lv_at hl 3 rfl) ?_
      refine lv_iload_n hx hb dX12_judgeUse_56 rfl (lv_at hl 1 rfl) ?_
      obtain ⟨σ3, z4, hσ3, hf⟩ := rf_cl_s hf
      obtain ⟨iz4, mσ3⟩ := hR 49 σ [x4, x2] σ3 z4 hσ3
      have mσ3 : rf_Met l v yX12_judge cX12_judge 3 none d [.ref (rf_h v), .int (rI x4), .int (rI x2)] σ σ3 none := mσ3 ix4 ix2
      refine rf_cv (n := 2) (rest := []) (As := [.int (rI x4), .int (rI x2)]) B mσ3 g_421_judge (by decide +kernel) (by decide) rfl hl.1 (Nat.le_of_ble_eq_true rfl) dX12_judgeUse_57 rfl hw (fun H locs hw => ?_)
      refine lv_aload_n hx hb dX12_judgeUse_60 rfl (lv_at hl 0 rfl) ?_
      obtain ⟨z5, ez5, iz5, hf⟩ := rf_gi_s hw hf
      refine rf_geti B hw 59 (by decide) rfl lk_443 ez5 dX12_judgeUse_61 ?_
      refine lv_iconst (v := rI 1) hx hb dX12_judgeUse_64 rfl ?_
      obtain ⟨z6, ez6, iz6, hf⟩ := rf_ck_s hf
      refine rn_sub hx hb ez6 dX12_judgeUse_65 ?_
      refine lv_istore (lv' := [(5, .int (rI z6)), (0, .ref (rf_h v)), (2, .int (rI x2)), (3, .int (rI x3)), (4, .int (rI x4))]) hx hb dX12_judgeUse_66 hl (by decide) rfl (fun ls hl => ?_)
      exact ps_judgeUse_68 hR B 200000 σ3 x2 x3 z6 ix2 ix3 iz6 hf _ _ _ hw (lv_sub hl [1, 2, 3, 0] rfl)
    · replace hf := rf_if_f hf c2
      refine lv_aload_n hx hb dX12_judgeUse_20 rfl (lv_at hl 0 rfl) ?_
      refine rf_get (val := .ref (rf_ad v 58)) B hw 58 (by decide) lk_134 rfl dX12_judgeUse_21 ?_
      refine lv_aload_n hx hb dX12_judgeUse_24 rfl (lv_at hl 0 rfl) ?_
      obtain ⟨z7, ez7, iz7, hf⟩ := rf_gi_s hw hf
      refine rf_geti B hw 59 (by decide) rfl lk_443 ez7 dX12_judgeUse_25 ?_
      refine lv_iload hx hb dX12_judgeUse_28 (lv_at hl 3 rfl) ?_
      obtain ⟨σ8, eσ8, rσ8, hf⟩ := rf_wr_s hf
      refine rf_ast B hw iz7 ix4 rσ8 eσ8 dX12_judgeUse_30 (fun H locs hw => ?_)
      refine lv_aload_n hx hb dX12_judgeUse_31 rfl (lv_at hl 0 rfl) ?_
      refine lv_dup hx hb dX12_judgeUse_32 rfl ?_
      obtain ⟨z9, ez9, iz9, hf⟩ := rf_gi_s hw hf
      refine rf_geti B hw 59 (by decide) rfl lk_443 ez9 dX12_judgeUse_33 ?_
      refine lv_iconst (v := rI 1) hx hb dX12_judgeUse_36 rfl ?_
      obtain ⟨z10, ez10, iz10, hf⟩ := rf_ck_s hf
      refine rn_add hx hb ez10 dX12_judgeUse_37 ?_
      obtain ⟨σ11, eσ11, hf⟩ := rf_pi_s hf
      refine rf_put B hw 59 (by decide) rfl rfl lk_443 iz10 eσ11 rfl rfl dX12_judgeUse_38 (fun H locs hw => ?_)
      refine lv_aload_n hx hb dX12_judgeUse_41 rfl (lv_at hl 0 rfl) ?_
      refine rf_get (val := .ref (rf_ad v 32)) B hw 32 (by decide) lk_82 rfl dX12_judgeUse_42 ?_
      refine lv_iload hx hb dX12_judgeUse_45 (lv_at hl 3 rfl) ?_
      obtain ⟨z12, ez12, iz12, rz12, hf⟩ := rf_rd_s hw hf
      refine rf_ald B hw ix4 rz12 ez12 dX12_judgeUse_47 ?_
      refine lv_istore (lv' := [(4, .int (rI z12)), (0, .ref (rf_h v)), (2, .int (rI x2)), (3, .int (rI x3))]) hx hb dX12_judgeUse_48 hl (by decide) rfl (fun ls hl => ?_)
      refine lv_goto (tgt := 8) hx hb dX12_judgeUse_50 (by decide) ?_
      exact ih σ11 x2 x3 z12 ix2 ix3 iz12 hf _ _ _ hw (lv_sub hl [1, 2, 3, 0] rfl)

set_option maxHeartbeats 4000000 in
set_option maxRecDepth 100000 in
theorem ps_judgeUse_0 {v : rfE} {p : Program} {l : Launch} {e : Env} {s : State} {m : MethodId} {args : Array Value} {below : List Frame} {meth : Method} {c : Code} {d : Nat} {rec : Nat → RS → List Int → Option (RS × Int)} {σ' : RS} {r : Int} (hR : rf_Rec l v d rec) (B : rf_B v p s m args meth c cX12_judgeUse 6 none) : ∀ (σ : RS) (x1 x2 : Int), inR x1 → inR x2 → pf_judgeUse_0 rec σ x1 x2 = some (σ', r) → ∀ (H : Heap) (locs : List Loc) (ls : Array Slot), rf_W v s σ H locs → lv_has ls 6 [(0, .ref (rf_h v)), (1, .int (rI x1)), (2, .int (rI x2))] → W p l e (rf_rm (d + 1)) s m args below meth c H locs 0 0 (MQ below (rf_Q v σ' none) args s 0 0 (rf_F v)) (F0 m 0 ls []) := by
  obtain ⟨hx, hb, hr, hml, hown, hts, hlk, hK, hD⟩ := id B
  intro σ x1 x2 ix1 ix2 hf H locs ls hw hl
  unfold pf_judgeUse_0 at hf
  refine lv_aload_n hx hb dX12_judgeUse_0 rfl (lv_at hl 0 rfl) ?_
  obtain ⟨z1, ez1, iz1, hf⟩ := rf_gi_s hw hf
  refine rf_geti B hw 59 (by decide) rfl lk_443 ez1 dX12_judgeUse_1 ?_
  refine lv_istore_n (lv' := [(3, .int (rI z1)), (0, .ref (rf_h v)), (1, .int (rI x1)), (2, .int (rI x2))]) hx hb dX12_judgeUse_4 rfl hl (by decide) rfl (fun ls hl => ?_)
  refine lv_iload_n hx hb dX12_judgeUse_5 rfl (lv_at hl 2 rfl) ?_
  refine lv_istore (lv' := [(4, .int (rI x1)), (3, .int (rI z1)), (0, .ref (rf_h v)), (1, .int (rI x1)), (2, .int (rI x2))]) hx hb dX12_judgeUse_6 hl (by decide) rfl (fun ls hl => ?_)
  exact ps_judgeUse_8 hR B 200000 σ x2 z1 x1 ix2 iz1 ix1 hf _ _ _ hw (lv_sub hl [2, 4, 1, 0] rfl)

set_option maxHeartbeats 4000000 in
set_option maxRecDepth 100000 in
theorem pm_judgeUse {v : rfE} (hD : rf_D v) {l : Launch} {d : Nat} {rec : Nat → RS → List Int → Option (RS × Int)} (hR : rf_Rec l v d rec) (σ σ' : RS) (x1 x2 r : Int) (ix1 : inR x1) (ix2 : inR x2) (hf : pf_judgeUse_0 rec σ x1 x2 = some (σ', r)) : rf_Met l v yX12_judgeUse cX12_judgeUse 6 none (d + 1) [.ref (rf_h v), .int (rI x1), .int (rI x2)] σ σ' none := by
  refine Met.ofW (cc := cX12_judgeUse) (maxL := 6) (ret := none) (by decide +kernel) rfl ?_
  intro p e s m args below meth c s₁ B hml hv
  obtain ⟨rfl, hM, hK⟩ := hv
  have hts := atoms_spec (ws := Cond.code yX12_judgeUse cX12_judgeUse 6 none :: rf_bw) B.pre
  have hB : rf_B v p s m _ meth c cX12_judgeUse 6 none := ⟨B.exec, B.bytes, B.returns, hml, findClass_of_methodNamed B.named, fun w h => hts w (List.mem_cons_of_mem _ h), B.notSynchronized, hK, hD⟩
  have hl := lv_entry ([.ref (rf_h v), .int (rI x1), .int (rI x2)]) (n := 6) (Nat.le_of_ble_eq_true rfl)
  rw [lg_entry_eq]
  generalize (lg_sl ([.ref (rf_h v), .int (rI x1), .int (rI x2)]) ++ List.replicate (6 - (lg_sl ([.ref (rf_h v), .int (rI x1), .int (rI x2)])).length) Slot.unset).toArray = ls at hl ⊢
  exact ps_judgeUse_0 hR hB σ x1 x2 ix1 ix2 hf _ _ _ ⟨hM, rfl, fun _ _ => rfl, fun q h => by cases h⟩ (lv_sub hl [0, 1, 2] rfl)

set_option maxHeartbeats 4000000 in
set_option maxRecDepth 100000 in
theorem ps_applied_129 {v : rfE} {p : Program} {l : Launch} {e : Env} {s : State} {m : MethodId} {args : Array Value} {below : List Frame} {meth : Method} {c : Code} {d : Nat} {rec : Nat → RS → List Int → Option (RS × Int)} {σ' : RS} {r : Int} (hR : rf_Rec l v d rec) (B : rf_B v p s m args meth c cX12_applied 7 none) : ∀ (σ : RS) (x3 t0 : Int), inR x3 → inR t0 → pf_applied_129 rec σ x3 t0 = some (σ', r) → ∀ (H : Heap) (locs : List Loc) (ls : Array Slot), rf_W v s σ H locs → lv_has ls 7 [(0, .ref (rf_h v)), (3, .int (rI x3))] → W p l e (rf_rm (d + 1)) s m args below meth c H locs 0 0 (MQ below (rf_Q v σ' none) args s 0 0 (rf_F v)) (F0 m 129 ls [.int (rI t0)]) := by
  obtain ⟨hx, hb, hr, hml, hown, hts, hlk, hK, hD⟩ := id B
  intro σ x3 t0 ix3 it0 hf H locs ls hw hl
  unfold pf_applied_129 at hf
  refine lv_istore (lv' := [(6, .int (rI t0)), (0, .ref (rf_h v)), (3, .int (rI x3))]) hx hb dX12_applied_129 hl (by decide) rfl (fun ls hl => ?_)
  refine lv_aload_n hx hb dX12_applied_131 rfl (lv_at hl 1 rfl) ?_
  refine lv_iload hx hb dX12_applied_132 (lv_at hl 0 rfl) ?_
  refine lv_aload_n hx hb dX12_applied_134 rfl (lv_at hl 1 rfl) ?_
  refine rf_get (val := .ref (rf_ad v 37)) B hw 37 (by decide) lk_97 rfl dX12_applied_135 ?_
  refine lv_iload_n hx hb dX12_applied_138 rfl (lv_at hl 2 rfl) ?_
  obtain ⟨z1, ez1, iz1, rz1, hf⟩ := rf_rd_s hw hf
  refine rf_ald B hw ix3 rz1 ez1 dX12_applied_139 ?_
  obtain ⟨σ2, z3, hσ2, hf⟩ := rf_cl_s hf
  obtain ⟨iz3, mσ2⟩ := hR 45 σ [t0, z1] σ2 z3 hσ2
  have mσ2 : rf_Met l v yX12_becomes cX12_becomes 3 none d [.ref (rf_h v), .int (rI t0), .int (rI z1)] σ σ2 none := mσ2 it0 iz1
  refine rf_cv (n := 2) (rest := []) (As := [.int (rI t0), .int (rI z1)]) B mσ2 g_412_becomes (by decide +kernel) (by decide) rfl hl.1 (Nat.le_of_ble_eq_true rfl) dX12_applied_140 rfl hw (fun H locs hw => ?_)
  exact rf_retv B hf hw dX12_applied_143

set_option maxHeartbeats 4000000 in
set_option maxRecDepth 100000 in
theorem ps_applied_93 {v : rfE} {p : Program} {l : Launch} {e : Env} {s : State} {m : MethodId} {args : Array Value} {below : List Frame} {meth : Method} {c : Code} {d : Nat} {rec : Nat → RS → List Int → Option (RS × Int)} {σ' : RS} {r : Int} (hR : rf_Rec l v d rec) (B : rf_B v p s m args meth c cX12_applied 7 none) : ∀ (σ : RS) (x2 x3 x4 : Int), inR x2 → inR x3 → inR x4 → pf_applied_93 rec σ x2 x3 x4 = some (σ', r) → ∀ (H : Heap) (locs : List Loc) (ls : Array Slot), rf_W v s σ H locs → lv_has ls 7 [(0, .ref (rf_h v)), (2, .int (rI x2)), (3, .int (rI x3)), (4, .int (rI x4))] → W p l e (rf_rm (d + 1)) s m args below meth c H locs 0 0 (MQ below (rf_Q v σ' none) args s 0 0 (rf_F v)) (F0 m 93 ls []) := by
  obtain ⟨hx, hb, hr, hml, hown, hts, hlk, hK, hD⟩ := id B
  intro σ x2 x3 x4 ix2 ix3 ix4 hf H locs ls hw hl
  unfold pf_applied_93 at hf
  refine lv_aload_n hx hb dX12_applied_93 rfl (lv_at hl 0 rfl) ?_
  obtain ⟨z1, ez1, iz1, hf⟩ := rf_gi_s hw hf
  refine rf_geti B hw 72 (by decide) rfl lk_150 ez1 dX12_applied_94 ?_
  refine rn_if_ne (a := z1) (tgt := 128) hx hb iz1 dX12_applied_97 (by decide) (fun c2 => ?_) (fun c2 => ?_)
  · replace hf := rf_if_t hf c2
    refine lv_iconst (v := rI 0) hx hb dX12_applied_128 rfl ?_
    exact ps_applied_129 hR B σ x3 0 ix3 ⟨by decide, by decide⟩ hf _ _ _ hw (lv_sub hl [0, 2] rfl)
  · replace hf := rf_if_f hf c2
    refine lv_aload_n hx hb dX12_applied_100 rfl (lv_at hl 0 rfl) ?_
    refine lv_aload_n hx hb dX12_applied_101 rfl (lv_at hl 0 rfl) ?_
    refine rf_get (val := .ref (rf_ad v 33)) B hw 33 (by decide) lk_85 rfl dX12_applied_102 ?_
    refine lv_iload_n hx hb dX12_applied_105 rfl (lv_at hl 2 rfl) ?_
    obtain ⟨z3, ez3, iz3, rz3, hf⟩ := rf_rd_s hw hf
    refine rf_ald B hw ix3 rz3 ez3 dX12_applied_106 ?_
    refine lv_aload_n hx hb dX12_applied_107 rfl (lv_at hl 0 rfl) ?_
    refine lv_iconst (v := rI 0) hx hb dX12_applied_108 rfl ?_
    refine lv_aload_n hx hb dX12_applied_109 rfl (lv_at hl 0 rfl) ?_
    refine rf_get (val := .ref (rf_ad v 38)) B hw 38 (by decide) lk_100 rfl dX12_applied_110 ?_
    refine lv_iload_n hx hb dX12_applied_113 rfl (lv_at hl 2 rfl) ?_
    obtain ⟨z4, ez4, iz4, rz4, hf⟩ := rf_rd_s hw hf
    refine rf_ald B hw ix3 rz4 ez4 dX12_applied_114 ?_
    refine lv_iload hx hb dX12_applied_115 (lv_at hl 3 rfl) ?_
    refine lv_iload_n hx hb dX12_applied_117 rfl (lv_at hl 1 rfl) ?_
    obtain ⟨σ5, z6, hσ5, hf⟩ := rf_cl_s hf
    obtain ⟨iz6, mσ5⟩ := hR 30 σ [0, z4, x4, x2] σ5 z6 hσ5
    have mσ5 : rf_Met l v yX12_cell cX12_cell 5 (some .int) d [.ref (rf_h v), .int (rI 0), .int (rI z4), .int (rI x4), .int (rI x2)] σ σ5 (some (.int (rI z6))) := mσ5 ⟨by decide, by decide⟩ iz4 ix4 ix2
    refine rf_cv (n := 4) (rest := [.int (rI z3), .ref (rf_h v)]) (As := [.int (rI 0), .int (rI z4), .int (rI x4), .int (rI x2)]) B mσ5 g_342_cell (by decide +kernel) (by decide) rfl hl.1 (Nat.le_of_ble_eq_true rfl) dX12_applied_118 rfl hw (fun H locs hw => ?_)
    refine lv_iconst (v := rI 0) hx hb dX12_applied_121 rfl ?_
    obtain ⟨σ7, z8, hσ7, hf⟩ := rf_cl_s hf
    obtain ⟨iz8, mσ7⟩ := hR 41 σ5 [z3, z6, 0] σ7 z8 hσ7
    have mσ7 : rf_Met l v yX12_normal cX12_normal 12 (some .int) d [.ref (rf_h v), .int (rI z3), .int (rI z6), .int (rI 0)] σ5 σ7 (some (.int (rI z8))) := mσ7 iz3 iz6 ⟨by decide, by decide⟩
    refine rf_cv (n := 3) (rest := []) (As := [.int (rI z3), .int (rI z6), .int (rI 0)]) B mσ7 g_396_normal (by decide +kernel) (by decide) rfl hl.1 (Nat.le_of_ble_eq_true rfl) dX12_applied_122 rfl hw (fun H locs hw => ?_)
    refine lv_goto (tgt := 129) hx hb dX12_applied_125 (by decide) ?_
    exact ps_applied_129 hR B σ7 x3 z8 ix3 iz8 hf _ _ _ hw (lv_sub hl [0, 2] rfl)

set_option maxHeartbeats 4000000 in
set_option maxRecDepth 100000 in
theorem ps_applied_0 {v : rfE} {p : Program} {l : Launch} {e : Env} {s : State} {m : MethodId} {args : Array Value} {below : List Frame} {meth : Method} {c : Code} {d : Nat} {rec : Nat → RS → List Int → Option (RS × Int)} {σ' : RS} {r : Int} (hR : rf_Rec l v d rec) (B : rf_B v p s m args meth c cX12_applied 7 none) : ∀ (σ : RS) (x1 x2 : Int), inR x1 → inR x2 → pf_applied_0 rec σ x1 x2 = some (σ', r) → ∀ (H : Heap) (locs : List Loc) (ls : Array Slot), rf_W v s σ H locs → lv_has ls 7 [(0, .ref (rf_h v)), (1, .int (rI x1)), (2, .int (rI x2))] → W p l e (rf_rm (d + 1)) s m args below meth c H locs 0 0 (MQ below (rf_Q v σ' none) args s 0 0 (rf_F v)) (F0 m 0 ls []) := by
  obtain ⟨hx, hb, hr, hml, hown, hts, hlk, hK, hD⟩ := id B
  intro σ x1 x2 ix1 ix2 hf H locs ls hw hl
  unfold pf_applied_0 at hf
  refine lv_aload_n hx hb dX12_applied_0 rfl (lv_at hl 0 rfl) ?_
  obtain ⟨z1, ez1, iz1, hf⟩ := rf_gi_s hw hf
  refine rf_geti B hw 60 (by decide) rfl lk_403 ez1 dX12_applied_1 ?_
  refine lv_istore_n (lv' := [(3, .int (rI z1)), (0, .ref (rf_h v)), (1, .int (rI x1)), (2, .int (rI x2))]) hx hb dX12_applied_4 rfl hl (by decide) rfl (fun ls hl => ?_)
  refine lv_aload_n hx hb dX12_applied_5 rfl (lv_at hl 1 rfl) ?_
  refine rf_get (val := .ref (rf_ad v 30)) B hw 30 (by decide) lk_76 rfl dX12_applied_6 ?_
  refine lv_iload_n hx hb dX12_applied_9 rfl (lv_at hl 0 rfl) ?_
  obtain ⟨z2, ez2, iz2, rz2, hf⟩ := rf_rd_s hw hf
  refine rf_ald B hw iz1 rz2 ez2 dX12_applied_10 ?_
  refine lv_iconst (v := rI 5) hx hb dX12_applied_11 rfl ?_
  refine rn_icmp_eq (a := z2) (b := 5) (tgt := 33) hx hb iz2 ⟨by decide, by decide⟩ dX12_applied_12 (by decide) (fun c3 => ?_) (fun c3 => ?_)
  · replace hf := rf_if_t hf c3
    refine lv_aload_n hx hb dX12_applied_33 rfl (lv_at hl 1 rfl) ?_
    refine rf_get (val := .ref (rf_ad v 33)) B hw 33 (by decide) lk_85 rfl dX12_applied_34 ?_
    refine lv_iload_n hx hb dX12_applied_37 rfl (lv_at hl 2 rfl) ?_
    obtain ⟨z4, ez4, iz4, rz4, hf⟩ := rf_rd_s hw hf
    refine rf_ald B hw ix1 rz4 ez4 dX12_applied_38 ?_
    refine lv_istore (lv' := [(4, .int (rI z4)), (3, .int (rI z1)), (0, .ref (rf_h v)), (1, .int (rI x1)), (2, .int (rI x2))]) hx hb dX12_applied_39 hl (by decide) rfl (fun ls hl => ?_)
    refine lv_aload_n hx hb dX12_applied_41 rfl (lv_at hl 2 rfl) ?_
    refine lv_iload hx hb dX12_applied_42 (lv_at hl 0 rfl) ?_
    refine lv_iload_n hx hb dX12_applied_44 rfl (lv_at hl 4 rfl) ?_
    obtain ⟨σ5, z6, hσ5, hf⟩ := rf_cl_s hf
    obtain ⟨iz6, mσ5⟩ := hR 49 σ [z4, x2] σ5 z6 hσ5
    have mσ5 : rf_Met l v yX12_judge cX12_judge 3 none d [.ref (rf_h v), .int (rI z4), .int (rI x2)] σ σ5 none := mσ5 iz4 ix2
    refine rf_cv (n := 2) (rest := []) (As := [.int (rI z4), .int (rI x2)]) B mσ5 g_421_judge (by decide +kernel) (by decide) rfl hl.1 (Nat.le_of_ble_eq_true rfl) dX12_applied_45 rfl hw (fun H locs hw => ?_)
    refine lv_aload_n hx hb dX12_applied_48 rfl (lv_at hl 2 rfl) ?_
    obtain ⟨z7, ez7, iz7, hf⟩ := rf_gi_s hw hf
    refine rf_geti B hw 72 (by decide) rfl lk_150 ez7 dX12_applied_49 ?_
    refine rn_if_eq (a := z7) (tgt := 56) hx hb iz7 dX12_applied_52 (by decide) (fun c8 => ?_) (fun c8 => ?_)
    · replace hf := rf_if_t hf c8
      refine lv_aload_n hx hb dX12_applied_56 rfl (lv_at hl 2 rfl) ?_
      refine lv_aload_n hx hb dX12_applied_57 rfl (lv_at hl 2 rfl) ?_
      refine rf_get (val := .ref (rf_ad v 32)) B hw 32 (by decide) lk_82 rfl dX12_applied_58 ?_
      refine lv_iload_n hx hb dX12_applied_61 rfl (lv_at hl 1 rfl) ?_
      obtain ⟨z9, ez9, iz9, rz9, hf⟩ := rf_rd_s hw hf
      refine rf_ald B hw iz1 rz9 ez9 dX12_applied_62 ?_
      refine lv_iconst (v := rI 0) hx hb dX12_applied_63 rfl ?_
      refine lv_aload_n hx hb dX12_applied_64 rfl (lv_at hl 2 rfl) ?_
      obtain ⟨z10, ez10, iz10, hf⟩ := rf_gi_s hw hf
      refine rf_geti B hw 60 (by decide) rfl lk_403 ez10 dX12_applied_65 ?_
      refine lv_iconst (v := rI 0) hx hb dX12_applied_68 rfl ?_
      refine lv_iconst (v := rI 0) hx hb dX12_applied_69 rfl ?_
      obtain ⟨σ11, z12, hσ11, hf⟩ := rf_cl_s hf
      obtain ⟨iz12, mσ11⟩ := hR 35 σ5 [z9, 0, z10, 0, 0] σ11 z12 hσ11
      have mσ11 : rf_Met l v yX12_compare cX12_compare 13 (some .boolean) d [.ref (rf_h v), .int (rI z9), .int (rI 0), .int (rI z10), .int (rI 0), .int (rI 0)] σ5 σ11 (some (.int (rI z12))) := mσ11 iz9 ⟨by decide, by decide⟩ iz10 ⟨by decide, by decide⟩ ⟨by decide, by decide⟩
      refine rf_cv (n := 5) (rest := []) (As := [.int (rI z9), .int (rI 0), .int (rI z10), .int (rI 0), .int (rI 0)]) B mσ11 g_366_compare (by decide +kernel) (by decide) rfl hl.1 (Nat.le_of_ble_eq_true rfl) dX12_applied_70 rfl hw (fun H locs hw => ?_)
      refine lv_istore (lv' := [(5, .int (rI z12)), (4, .int (rI z4)), (3, .int (rI z1)), (0, .ref (rf_h v)), (1, .int (rI x1)), (2, .int (rI x2))]) hx hb dX12_applied_73 hl (by decide) rfl (fun ls hl => ?_)
      refine lv_iload hx hb dX12_applied_75 (lv_at hl 0 rfl) ?_
      refine rn_if_ne (a := z12) (tgt := 93) hx hb iz12 dX12_applied_77 (by decide) (fun c13 => ?_) (fun c13 => ?_)
      · replace hf := rf_if_t hf c13
        exact ps_applied_93 hR B σ11 x2 z1 z4 ix2 iz1 iz4 hf _ _ _ hw (lv_sub hl [3, 5, 2, 1] rfl)
      · replace hf := rf_if_f hf c13
        refine lv_aload_n hx hb dX12_applied_80 rfl (lv_at hl 3 rfl) ?_
        refine lv_bipush (v := rI 11) hx hb dX12_applied_81 (by decide +kernel) ?_
        refine lv_aload_n hx hb dX12_applied_83 rfl (lv_at hl 3 rfl) ?_
        refine rf_get (val := .ref (rf_ad v 34)) B hw 34 (by decide) lk_88 rfl dX12_applied_84 ?_
        refine lv_iload hx hb dX12_applied_87 (lv_at hl 1 rfl) ?_
        obtain ⟨z14, ez14, iz14, rz14, hf⟩ := rf_rd_s hw hf
        refine rf_ald B hw iz4 rz14 ez14 dX12_applied_89 ?_
        obtain ⟨σ15, z16, hσ15, hf⟩ := rf_cl_s hf
        obtain ⟨iz16, mσ15⟩ := hR 3 σ11 [11, z14] σ15 z16 hσ15
        have mσ15 : rf_Met l v yX12_wrong cX12_wrong 3 none d [.ref (rf_h v), .int (rI 11), .int (rI z14)] σ11 σ15 none := mσ15 ⟨by decide, by decide⟩ iz14
        refine rf_cv (n := 2) (rest := []) (As := [.int (rI 11), .int (rI z14)]) B mσ15 g_218_wrong (by decide +kernel) (by decide) rfl hl.1 (Nat.le_of_ble_eq_true rfl) dX12_applied_90 rfl hw (fun H locs hw => ?_)
        exact ps_applied_93 hR B σ15 x2 z1 z4 ix2 iz1 iz4 hf _ _ _ hw (lv_sub hl [3, 5, 2, 1] rfl)
    · replace hf := rf_if_f hf c8
      exact rf_retv B hf hw dX12_applied_55
  · replace hf := rf_if_f hf c3
    refine lv_aload_n hx hb dX12_applied_15 rfl (lv_at hl 1 rfl) ?_
    refine lv_bipush (v := rI 10) hx hb dX12_applied_16 (by decide +kernel) ?_
    refine lv_aload_n hx hb dX12_applied_18 rfl (lv_at hl 1 rfl) ?_
    refine rf_get (val := .ref (rf_ad v 34)) B hw 34 (by decide) lk_88 rfl dX12_applied_19 ?_
    refine lv_aload_n hx hb dX12_applied_22 rfl (lv_at hl 1 rfl) ?_
    refine rf_get (val := .ref (rf_ad v 32)) B hw 32 (by decide) lk_82 rfl dX12_applied_23 ?_
    refine lv_iload_n hx hb dX12_applied_26 rfl (lv_at hl 2 rfl) ?_
    obtain ⟨z17, ez17, iz17, rz17, hf⟩ := rf_rd_s hw hf
    refine rf_ald B hw ix1 rz17 ez17 dX12_applied_27 ?_
    obtain ⟨z18, ez18, iz18, rz18, hf⟩ := rf_rd_s hw hf
    refine rf_ald B hw iz17 rz18 ez18 dX12_applied_28 ?_
    obtain ⟨σ19, z20, hσ19, hf⟩ := rf_cl_s hf
    obtain ⟨iz20, mσ19⟩ := hR 3 σ [10, z18] σ19 z20 hσ19
    have mσ19 : rf_Met l v yX12_wrong cX12_wrong 3 none d [.ref (rf_h v), .int (rI 10), .int (rI z18)] σ σ19 none := mσ19 ⟨by decide, by decide⟩ iz18
    refine rf_cv (n := 2) (rest := []) (As := [.int (rI 10), .int (rI z18)]) B mσ19 g_218_wrong (by decide +kernel) (by decide) rfl hl.1 (Nat.le_of_ble_eq_true rfl) dX12_applied_29 rfl hw (fun H locs hw => ?_)
    exact rf_retv B hf hw dX12_applied_32

set_option maxHeartbeats 4000000 in
set_option maxRecDepth 100000 in
theorem pm_applied {v : rfE} (hD : rf_D v) {l : Launch} {d : Nat} {rec : Nat → RS → List Int → Option (RS × Int)} (hR : rf_Rec l v d rec) (σ σ' : RS) (x1 x2 r : Int) (ix1 : inR x1) (ix2 : inR x2) (hf : pf_applied_0 rec σ x1 x2 = some (σ', r)) : rf_Met l v yX12_applied cX12_applied 7 none (d + 1) [.ref (rf_h v), .int (rI x1), .int (rI x2)] σ σ' none := by
  refine Met.ofW (cc := cX12_applied) (maxL := 7) (ret := none) (by decide +kernel) rfl ?_
  intro p e s m args below meth c s₁ B hml hv
  obtain ⟨rfl, hM, hK⟩ := hv
  have hts := atoms_spec (ws := Cond.code yX12_applied cX12_applied 7 none :: rf_bw) B.pre
  have hB : rf_B v p s m _ meth c cX12_applied 7 none := ⟨B.exec, B.bytes, B.returns, hml, findClass_of_methodNamed B.named, fun w h => hts w (List.mem_cons_of_mem _ h), B.notSynchronized, hK, hD⟩
  have hl := lv_entry ([.ref (rf_h v), .int (rI x1), .int (rI x2)]) (n := 7) (Nat.le_of_ble_eq_true rfl)
  rw [lg_entry_eq]
  generalize (lg_sl ([.ref (rf_h v), .int (rI x1), .int (rI x2)]) ++ List.replicate (7 - (lg_sl ([.ref (rf_h v), .int (rI x1), .int (rI x2)])).length) Slot.unset).toArray = ls at hl ⊢
  exact ps_applied_0 hR hB σ x1 x2 ix1 ix2 hf _ _ _ ⟨hM, rfl, fun _ _ => rfl, fun q h => by cases h⟩ (lv_sub hl [0, 1, 2] rfl)

set_option maxHeartbeats 4000000 in
set_option maxRecDepth 100000 in
theorem ps_begin_0 {v : rfE} {p : Program} {l : Launch} {e : Env} {s : State} {m : MethodId} {args : Array Value} {below : List Frame} {meth : Method} {c : Code} {d : Nat} {rec : Nat → RS → List Int → Option (RS × Int)} {σ' : RS} {r : Int} (hR : rf_Rec l v d rec) (B : rf_B v p s m args meth c cX12_begin 1 none) : ∀ (σ : RS), pf_begin_0 rec σ = some (σ', r) → ∀ (H : Heap) (locs : List Loc) (ls : Array Slot), rf_W v s σ H locs → lv_has ls 1 [(0, .ref (rf_h v))] → W p l e (rf_rm (d + 1)) s m args below meth c H locs 0 0 (MQ below (rf_Q v σ' none) args s 0 0 (rf_F v)) (F0 m 0 ls []) := by
  obtain ⟨hx, hb, hr, hml, hown, hts, hlk, hK, hD⟩ := id B
  intro σ hf H locs ls hw hl
  unfold pf_begin_0 at hf
  refine lv_aload_n hx hb dX12_begin_0 rfl (lv_at hl 0 rfl) ?_
  refine lv_iconst (v := rI 0) hx hb dX12_begin_1 rfl ?_
  obtain ⟨σ1, eσ1, hf⟩ := rf_pi_s hf
  refine rf_put B hw 64 (by decide) rfl rfl lk_302 ⟨by decide, by decide⟩ eσ1 rfl rfl dX12_begin_2 (fun H locs hw => ?_)
  refine lv_aload_n hx hb dX12_begin_5 rfl (lv_at hl 0 rfl) ?_
  refine lv_iconst (v := rI 0) hx hb dX12_begin_6 rfl ?_
  obtain ⟨σ2, eσ2, hf⟩ := rf_pi_s hf
  refine rf_put B hw 66 (by decide) rfl rfl lk_339 ⟨by decide, by decide⟩ eσ2 rfl rfl dX12_begin_7 (fun H locs hw => ?_)
  refine lv_aload_n hx hb dX12_begin_10 rfl (lv_at hl 0 rfl) ?_
  refine lv_iconst (v := rI 0) hx hb dX12_begin_11 rfl ?_
  obtain ⟨σ3, eσ3, hf⟩ := rf_pi_s hf
  refine rf_put B hw 67 (by decide) rfl rfl lk_336 ⟨by decide, by decide⟩ eσ3 rfl rfl dX12_begin_12 (fun H locs hw => ?_)
  refine lv_aload_n hx hb dX12_begin_15 rfl (lv_at hl 0 rfl) ?_
  refine lv_iconst (v := rI 0) hx hb dX12_begin_16 rfl ?_
  obtain ⟨σ4, eσ4, hf⟩ := rf_pi_s hf
  refine rf_put B hw 68 (by decide) rfl rfl lk_345 ⟨by decide, by decide⟩ eσ4 rfl rfl dX12_begin_17 (fun H locs hw => ?_)
  refine lv_aload_n hx hb dX12_begin_20 rfl (lv_at hl 0 rfl) ?_
  refine lv_iconst (v := rI 0) hx hb dX12_begin_21 rfl ?_
  obtain ⟨σ5, eσ5, hf⟩ := rf_pi_s hf
  refine rf_put B hw 69 (by decide) rfl rfl lk_327 ⟨by decide, by decide⟩ eσ5 rfl rfl dX12_begin_22 (fun H locs hw => ?_)
  refine lv_aload_n hx hb dX12_begin_25 rfl (lv_at hl 0 rfl) ?_
  refine lv_iconst (v := rI 0) hx hb dX12_begin_26 rfl ?_
  obtain ⟨σ6, eσ6, hf⟩ := rf_pi_s hf
  refine rf_put B hw 70 (by decide) rfl rfl lk_333 ⟨by decide, by decide⟩ eσ6 rfl rfl dX12_begin_27 (fun H locs hw => ?_)
  refine lv_aload_n hx hb dX12_begin_30 rfl (lv_at hl 0 rfl) ?_
  refine lv_iconst (v := rI 0) hx hb dX12_begin_31 rfl ?_
  obtain ⟨σ7, eσ7, hf⟩ := rf_pi_s hf
  refine rf_put B hw 71 (by decide) rfl rfl lk_312 ⟨by decide, by decide⟩ eσ7 rfl rfl dX12_begin_32 (fun H locs hw => ?_)
  refine lv_aload_n hx hb dX12_begin_35 rfl (lv_at hl 0 rfl) ?_
  refine lv_iconst (v := rI 0) hx hb dX12_begin_36 rfl ?_
  obtain ⟨σ8, eσ8, hf⟩ := rf_pi_s hf
  refine rf_put B hw 51 (by decide) rfl rfl lk_324 ⟨by decide, by decide⟩ eσ8 rfl rfl dX12_begin_37 (fun H locs hw => ?_)
  refine lv_aload_n hx hb dX12_begin_40 rfl (lv_at hl 0 rfl) ?_
  refine lv_iconst (v := rI 0) hx hb dX12_begin_41 rfl ?_
  obtain ⟨σ9, eσ9, hf⟩ := rf_pi_s hf
  refine rf_put B hw 43 (by decide) rfl rfl lk_409 ⟨by decide, by decide⟩ eσ9 rfl rfl dX12_begin_42 (fun H locs hw => ?_)
  refine lv_aload_n hx hb dX12_begin_45 rfl (lv_at hl 0 rfl) ?_
  refine lv_iconst (v := rI 0) hx hb dX12_begin_46 rfl ?_
  obtain ⟨σ10, eσ10, hf⟩ := rf_pi_s hf
  refine rf_put B hw 59 (by decide) rfl rfl lk_443 ⟨by decide, by decide⟩ eσ10 rfl rfl dX12_begin_47 (fun H locs hw => ?_)
  refine lv_aload_n hx hb dX12_begin_50 rfl (lv_at hl 0 rfl) ?_
  refine lv_iconst (v := rI 0) hx hb dX12_begin_51 rfl ?_
  obtain ⟨σ11, eσ11, hf⟩ := rf_pi_s hf
  refine rf_put B hw 57 (by decide) rfl rfl lk_371 ⟨by decide, by decide⟩ eσ11 rfl rfl dX12_begin_52 (fun H locs hw => ?_)
  refine lv_aload_n hx hb dX12_begin_55 rfl (lv_at hl 0 rfl) ?_
  refine lv_aload_n hx hb dX12_begin_56 rfl (lv_at hl 0 rfl) ?_
  obtain ⟨z12, ez12, iz12, hf⟩ := rf_gi_s hw hf
  refine rf_geti B hw 39 (by decide) rfl lk_173 ez12 dX12_begin_57 ?_
  obtain ⟨σ13, eσ13, hf⟩ := rf_pi_s hf
  refine rf_put B hw 62 (by decide) rfl rfl lk_449 iz12 eσ13 rfl rfl dX12_begin_60 (fun H locs hw => ?_)
  refine lv_aload_n hx hb dX12_begin_63 rfl (lv_at hl 0 rfl) ?_
  refine lv_iconst (v := rI 1) hx hb dX12_begin_64 rfl ?_
  obtain ⟨σ14, eσ14, hf⟩ := rf_pi_s hf
  refine rf_put B hw 48 (by decide) rfl rfl lk_125 ⟨by decide, by decide⟩ eσ14 rfl rfl dX12_begin_65 (fun H locs hw => ?_)
  exact rf_retv B hf hw dX12_begin_68

set_option maxHeartbeats 4000000 in
set_option maxRecDepth 100000 in
theorem pm_begin {v : rfE} (hD : rf_D v) {l : Launch} {d : Nat} {rec : Nat → RS → List Int → Option (RS × Int)} (hR : rf_Rec l v d rec) (σ σ' : RS) (r : Int) (hf : pf_begin_0 rec σ = some (σ', r)) : rf_Met l v yX12_begin cX12_begin 1 none (d + 1) [.ref (rf_h v)] σ σ' none := by
  refine Met.ofW (cc := cX12_begin) (maxL := 1) (ret := none) (by decide +kernel) rfl ?_
  intro p e s m args below meth c s₁ B hml hv
  obtain ⟨rfl, hM, hK⟩ := hv
  have hts := atoms_spec (ws := Cond.code yX12_begin cX12_begin 1 none :: rf_bw) B.pre
  have hB : rf_B v p s m _ meth c cX12_begin 1 none := ⟨B.exec, B.bytes, B.returns, hml, findClass_of_methodNamed B.named, fun w h => hts w (List.mem_cons_of_mem _ h), B.notSynchronized, hK, hD⟩
  have hl := lv_entry ([.ref (rf_h v)]) (n := 1) (Nat.le_of_ble_eq_true rfl)
  rw [lg_entry_eq]
  generalize (lg_sl ([.ref (rf_h v)]) ++ List.replicate (1 - (lg_sl ([.ref (rf_h v)])).length) Slot.unset).toArray = ls at hl ⊢
  exact ps_begin_0 hR hB σ hf _ _ _ ⟨hM, rfl, fun _ _ => rfl, fun q h => by cases h⟩ (lv_sub hl [0] rfl)

set_option maxHeartbeats 4000000 in
set_option maxRecDepth 100000 in
theorem ps_drop_0 {v : rfE} {p : Program} {l : Launch} {e : Env} {s : State} {m : MethodId} {args : Array Value} {below : List Frame} {meth : Method} {c : Code} {d : Nat} {rec : Nat → RS → List Int → Option (RS × Int)} {σ' : RS} {r : Int} (hR : rf_Rec l v d rec) (B : rf_B v p s m args meth c cX12_drop 1 none) : ∀ (σ : RS), pf_drop_0 rec σ = some (σ', r) → ∀ (H : Heap) (locs : List Loc) (ls : Array Slot), rf_W v s σ H locs → lv_has ls 1 [(0, .ref (rf_h v))] → W p l e (rf_rm (d + 1)) s m args below meth c H locs 0 0 (MQ below (rf_Q v σ' none) args s 0 0 (rf_F v)) (F0 m 0 ls []) := by
  obtain ⟨hx, hb, hr, hml, hown, hts, hlk, hK, hD⟩ := id B
  intro σ hf H locs ls hw hl
  unfold pf_drop_0 at hf
  refine lv_aload_n hx hb dX12_drop_0 rfl (lv_at hl 0 rfl) ?_
  refine lv_aload_n hx hb dX12_drop_1 rfl (lv_at hl 0 rfl) ?_
  obtain ⟨z1, ez1, iz1, hf⟩ := rf_gi_s hw hf
  refine rf_geti B hw 62 (by decide) rfl lk_449 ez1 dX12_drop_2 ?_
  obtain ⟨σ2, eσ2, hf⟩ := rf_pi_s hf
  refine rf_put B hw 39 (by decide) rfl rfl lk_173 iz1 eσ2 rfl rfl dX12_drop_5 (fun H locs hw => ?_)
  exact rf_retv B hf hw dX12_drop_8

set_option maxHeartbeats 4000000 in
set_option maxRecDepth 100000 in
theorem pm_drop {v : rfE} (hD : rf_D v) {l : Launch} {d : Nat} {rec : Nat → RS → List Int → Option (RS × Int)} (hR : rf_Rec l v d rec) (σ σ' : RS) (r : Int) (hf : pf_drop_0 rec σ = some (σ', r)) : rf_Met l v yX12_drop cX12_drop 1 none (d + 1) [.ref (rf_h v)] σ σ' none := by
  refine Met.ofW (cc := cX12_drop) (maxL := 1) (ret := none) (by decide +kernel) rfl ?_
  intro p e s m args below meth c s₁ B hml hv
  obtain ⟨rfl, hM, hK⟩ := hv
  have hts := atoms_spec (ws := Cond.code yX12_drop cX12_drop 1 none :: rf_bw) B.pre
  have hB : rf_B v p s m _ meth c cX12_drop 1 none := ⟨B.exec, B.bytes, B.returns, hml, findClass_of_methodNamed B.named, fun w h => hts w (List.mem_cons_of_mem _ h), B.notSynchronized, hK, hD⟩
  have hl := lv_entry ([.ref (rf_h v)]) (n := 1) (Nat.le_of_ble_eq_true rfl)
  rw [lg_entry_eq]
  generalize (lg_sl ([.ref (rf_h v)]) ++ List.replicate (1 - (lg_sl ([.ref (rf_h v)])).length) Slot.unset).toArray = ls at hl ⊢
  exact ps_drop_0 hR hB σ hf _ _ _ ⟨hM, rfl, fun _ _ => rfl, fun q h => by cases h⟩ (lv_sub hl [0] rfl)

set_option maxHeartbeats 4000000 in
set_option maxRecDepth 100000 in
theorem ps_tables_88 {v : rfE} {p : Program} {l : Launch} {e : Env} {s : State} {m : MethodId} {args : Array Value} {below : List Frame} {meth : Method} {c : Code} {d : Nat} {rec : Nat → RS → List Int → Option (RS × Int)} {σ' : RS} {r : Int} (hR : rf_Rec l v d rec) (B : rf_B v p s m args meth c cX12_tables 4 none) : ∀ (n : Nat) (σ : RS) (x2 : Int), inR x2 → pf_tables_88 rec n σ x2 = some (σ', r) → ∀ (H : Heap) (locs : List Loc) (ls : Array Slot), rf_W v s σ H locs → lv_has ls 4 [(0, .ref (rf_h v)), (2, .int (rI x2))] → W p l e (rf_rm (d + 1)) s m args below meth c H locs 0 0 (MQ below (rf_Q v σ' none) args s 0 0 (rf_F v)) (F0 m 88 ls []) := by
  obtain ⟨hx, hb, hr, hml, hown, hts, hlk, hK, hD⟩ := id B
  intro n
  induction n with
  | zero => intro σ x2 ix2 hf; cases hf
  | succ n ih =>
    intro σ x2 ix2 hf H locs ls hw hl
    unfold pf_tables_88 at hf
    refine lv_iload_n hx hb dX12_tables_88 rfl (lv_at hl 1 rfl) ?_
    refine lv_aload_n hx hb dX12_tables_89 rfl (lv_at hl 0 rfl) ?_
    refine rf_get (val := .ref (rf_ad v 32)) B hw 32 (by decide) lk_82 rfl dX12_tables_90 ?_
    refine lv_aload_n hx hb dX12_tables_93 rfl (lv_at hl 0 rfl) ?_
    obtain ⟨z1, ez1, iz1, hf⟩ := rf_gi_s hw hf
    refine rf_geti B hw 80 (by decide) rfl lk_290 ez1 dX12_tables_94 ?_
    obtain ⟨z2, ez2, iz2, rz2, hf⟩ := rf_rd_s hw hf
    refine rf_ald B hw iz1 rz2 ez2 dX12_tables_97 ?_
    refine rn_icmp_ge (a := x2) (b := z2) (tgt := 137) hx hb ix2 iz2 dX12_tables_98 (by decide) (fun c3 => ?_) (fun c3 => ?_)
    · replace hf := rf_if_t hf c3
      refine lv_aload_n hx hb dX12_tables_137 rfl (lv_at hl 0 rfl) ?_
      refine rf_get (val := .ref (rf_ad v 17)) B hw 17 (by decide) lk_47 rfl dX12_tables_138 ?_
      refine lv_aload_n hx hb dX12_tables_141 rfl (lv_at hl 0 rfl) ?_
      obtain ⟨z4, ez4, iz4, hf⟩ := rf_gi_s hw hf
      refine rf_geti B hw 20 (by decide) rfl lk_160 ez4 dX12_tables_142 ?_
      refine lv_aload_n hx hb dX12_tables_145 rfl (lv_at hl 0 rfl) ?_
      refine rf_get (val := .ref (rf_ad v 32)) B hw 32 (by decide) lk_82 rfl dX12_tables_146 ?_
      refine lv_aload_n hx hb dX12_tables_149 rfl (lv_at hl 0 rfl) ?_
      obtain ⟨z5, ez5, iz5, hf⟩ := rf_gi_s hw hf
      refine rf_geti B hw 80 (by decide) rfl lk_290 ez5 dX12_tables_150 ?_
      obtain ⟨z6, ez6, iz6, rz6, hf⟩ := rf_rd_s hw hf
      refine rf_ald B hw iz5 rz6 ez6 dX12_tables_153 ?_
      obtain ⟨σ7, eσ7, rσ7, hf⟩ := rf_wr_s hf
      refine rf_ast B hw iz4 iz6 rσ7 eσ7 dX12_tables_154 (fun H locs hw => ?_)
      refine lv_aload_n hx hb dX12_tables_155 rfl (lv_at hl 0 rfl) ?_
      refine rf_get (val := .ref (rf_ad v 18)) B hw 18 (by decide) lk_50 rfl dX12_tables_156 ?_
      refine lv_aload_n hx hb dX12_tables_159 rfl (lv_at hl 0 rfl) ?_
      obtain ⟨z8, ez8, iz8, hf⟩ := rf_gi_s hw hf
      refine rf_geti B hw 20 (by decide) rfl lk_160 ez8 dX12_tables_160 ?_
      refine lv_iconst (v := rI (-1)) hx hb dX12_tables_163 rfl ?_
      obtain ⟨σ9, eσ9, rσ9, hf⟩ := rf_wr_s hf
      refine rf_ast B hw iz8 ⟨by decide, by decide⟩ rσ9 eσ9 dX12_tables_164 (fun H locs hw => ?_)
      refine lv_aload_n hx hb dX12_tables_165 rfl (lv_at hl 0 rfl) ?_
      refine rf_get (val := .ref (rf_ad v 30)) B hw 30 (by decide) lk_76 rfl dX12_tables_166 ?_
      refine lv_aload_n hx hb dX12_tables_169 rfl (lv_at hl 0 rfl) ?_
      obtain ⟨z10, ez10, iz10, hf⟩ := rf_gi_s hw hf
      refine rf_geti B hw 20 (by decide) rfl lk_160 ez10 dX12_tables_170 ?_
      refine lv_iconst (v := rI 3) hx hb dX12_tables_173 rfl ?_
      obtain ⟨σ11, eσ11, rσ11, hf⟩ := rf_wr_s hf
      refine rf_ast B hw iz10 ⟨by decide, by decide⟩ rσ11 eσ11 dX12_tables_174 (fun H locs hw => ?_)
      refine lv_aload_n hx hb dX12_tables_175 rfl (lv_at hl 0 rfl) ?_
      refine rf_get (val := .ref (rf_ad v 31)) B hw 31 (by decide) lk_79 rfl dX12_tables_176 ?_
      refine lv_aload_n hx hb dX12_tables_179 rfl (lv_at hl 0 rfl) ?_
      obtain ⟨z12, ez12, iz12, hf⟩ := rf_gi_s hw hf
      refine rf_geti B hw 20 (by decide) rfl lk_160 ez12 dX12_tables_180 ?_
      refine lv_aload_n hx hb dX12_tables_183 rfl (lv_at hl 0 rfl) ?_
      obtain ⟨z13, ez13, iz13, hf⟩ := rf_gi_s hw hf
      refine rf_geti B hw 20 (by decide) rfl lk_160 ez13 dX12_tables_184 ?_
      obtain ⟨σ14, eσ14, rσ14, hf⟩ := rf_wr_s hf
      refine rf_ast B hw iz12 iz13 rσ14 eσ14 dX12_tables_187 (fun H locs hw => ?_)
      refine lv_aload_n hx hb dX12_tables_188 rfl (lv_at hl 0 rfl) ?_
      refine lv_dup hx hb dX12_tables_189 rfl ?_
      obtain ⟨z15, ez15, iz15, hf⟩ := rf_gi_s hw hf
      refine rf_geti B hw 20 (by decide) rfl lk_160 ez15 dX12_tables_190 ?_
      refine lv_iconst (v := rI 1) hx hb dX12_tables_193 rfl ?_
      obtain ⟨z16, ez16, iz16, hf⟩ := rf_ck_s hf
      refine rn_add hx hb ez16 dX12_tables_194 ?_
      obtain ⟨σ17, eσ17, hf⟩ := rf_pi_s hf
      refine rf_put B hw 20 (by decide) rfl rfl lk_160 iz16 eσ17 rfl rfl dX12_tables_195 (fun H locs hw => ?_)
      exact rf_retv B hf hw dX12_tables_198
    · replace hf := rf_if_f hf c3
      refine lv_aload_n hx hb dX12_tables_101 rfl (lv_at hl 0 rfl) ?_
      refine rf_get (val := .ref (rf_ad v 16)) B hw 16 (by decide) lk_44 rfl dX12_tables_102 ?_
      refine lv_bipush (v := rI 12) hx hb dX12_tables_105 (by decide +kernel) ?_
      refine lv_aload_n hx hb dX12_tables_107 rfl (lv_at hl 0 rfl) ?_
      obtain ⟨z18, ez18, iz18, hf⟩ := rf_gi_s hw hf
      refine rf_geti B hw 20 (by decide) rfl lk_160 ez18 dX12_tables_108 ?_
      obtain ⟨z19, ez19, iz19, hf⟩ := rf_ck_s hf
      refine rn_mul hx hb ez19 dX12_tables_111 ?_
      refine lv_iload_n hx hb dX12_tables_112 rfl (lv_at hl 1 rfl) ?_
      obtain ⟨z20, ez20, iz20, hf⟩ := rf_ck_s hf
      refine rn_add hx hb ez20 dX12_tables_113 ?_
      refine lv_aload_n hx hb dX12_tables_114 rfl (lv_at hl 0 rfl) ?_
      refine rf_get (val := .ref (rf_ad v 4)) B hw 4 (by decide) lk_37 rfl dX12_tables_115 ?_
      refine lv_aload_n hx hb dX12_tables_118 rfl (lv_at hl 0 rfl) ?_
      refine rf_get (val := .ref (rf_ad v 31)) B hw 31 (by decide) lk_79 rfl dX12_tables_119 ?_
      refine lv_aload_n hx hb dX12_tables_122 rfl (lv_at hl 0 rfl) ?_
      obtain ⟨z21, ez21, iz21, hf⟩ := rf_gi_s hw hf
      refine rf_geti B hw 80 (by decide) rfl lk_290 ez21 dX12_tables_123 ?_
      obtain ⟨z22, ez22, iz22, rz22, hf⟩ := rf_rd_s hw hf
      refine rf_ald B hw iz21 rz22 ez22 dX12_tables_126 ?_
      refine lv_iload_n hx hb dX12_tables_127 rfl (lv_at hl 1 rfl) ?_
      obtain ⟨z23, ez23, iz23, hf⟩ := rf_ck_s hf
      refine rn_add hx hb ez23 dX12_tables_128 ?_
      obtain ⟨z24, ez24, iz24, rz24, hf⟩ := rf_rd_s hw hf
      refine rf_ald B hw iz23 rz24 ez24 dX12_tables_129 ?_
      obtain ⟨σ25, eσ25, rσ25, hf⟩ := rf_wr_s hf
      refine rf_ast B hw iz20 iz24 rσ25 eσ25 dX12_tables_130 (fun H locs hw => ?_)
      obtain ⟨z26, ez26, iz26, hf⟩ := rf_ck_s hf
      refine lv_iinc (v := rI z26) (lv' := [(2, .int (rI z26)), (0, .ref (rf_h v))]) hx hb dX12_tables_131 hl (k := 1) rfl (by rw [ez26]; exact rI_add _ _) (by decide) rfl (fun ls hl => ?_)
      refine lv_goto (tgt := 88) hx hb dX12_tables_134 (by decide) ?_
      exact ih σ25 z26 iz26 hf _ _ _ hw (lv_sub hl [1, 0] rfl)

set_option maxHeartbeats 4000000 in
set_option maxRecDepth 100000 in
theorem ps_tables_78 {v : rfE} {p : Program} {l : Launch} {e : Env} {s : State} {m : MethodId} {args : Array Value} {below : List Frame} {meth : Method} {c : Code} {d : Nat} {rec : Nat → RS → List Int → Option (RS × Int)} {σ' : RS} {r : Int} (hR : rf_Rec l v d rec) (B : rf_B v p s m args meth c cX12_tables 4 none) : ∀ (σ : RS), pf_tables_78 rec σ = some (σ', r) → ∀ (H : Heap) (locs : List Loc) (ls : Array Slot), rf_W v s σ H locs → lv_has ls 4 [(0, .ref (rf_h v))] → W p l e (rf_rm (d + 1)) s m args below meth c H locs 0 0 (MQ below (rf_Q v σ' none) args s 0 0 (rf_F v)) (F0 m 78 ls []) := by
  obtain ⟨hx, hb, hr, hml, hown, hts, hlk, hK, hD⟩ := id B
  intro σ hf H locs ls hw hl
  unfold pf_tables_78 at hf
  refine lv_aload_n hx hb dX12_tables_78 rfl (lv_at hl 0 rfl) ?_
  obtain ⟨z1, ez1, iz1, hf⟩ := rf_gi_s hw hf
  refine rf_geti B hw 72 (by decide) rfl lk_150 ez1 dX12_tables_79 ?_
  refine rn_if_eq (a := z1) (tgt := 86) hx hb iz1 dX12_tables_82 (by decide) (fun c2 => ?_) (fun c2 => ?_)
  · replace hf := rf_if_t hf c2
    refine lv_iconst (v := rI 0) hx hb dX12_tables_86 rfl ?_
    refine lv_istore_n (lv' := [(2, .int (rI 0)), (0, .ref (rf_h v))]) hx hb dX12_tables_87 rfl hl (by decide) rfl (fun ls hl => ?_)
    exact ps_tables_88 hR B 200000 σ 0 ⟨by decide, by decide⟩ hf _ _ _ hw (lv_sub hl [1, 0] rfl)
  · replace hf := rf_if_f hf c2
    exact rf_retv B hf hw dX12_tables_85

set_option maxHeartbeats 4000000 in
set_option maxRecDepth 100000 in
theorem ps_tables_282 {v : rfE} {p : Program} {l : Launch} {e : Env} {s : State} {m : MethodId} {args : Array Value} {below : List Frame} {meth : Method} {c : Code} {d : Nat} {rec : Nat → RS → List Int → Option (RS × Int)} {σ' : RS} {r : Int} (hR : rf_Rec l v d rec) (B : rf_B v p s m args meth c cX12_tables 4 none) : ∀ (σ : RS) (x1 x2 : Int), inR x1 → inR x2 → pf_tables_282 rec σ x1 x2 = some (σ', r) → ∀ (H : Heap) (locs : List Loc) (ls : Array Slot), rf_W v s σ H locs → lv_has ls 4 [(0, .ref (rf_h v)), (1, .int (rI x1)), (2, .int (rI x2))] → W p l e (rf_rm (d + 1)) s m args below meth c H locs 0 0 (MQ below (rf_Q v σ' none) args s 0 0 (rf_F v)) (F0 m 282 ls []) := by
  obtain ⟨hx, hb, hr, hml, hown, hts, hlk, hK, hD⟩ := id B
  intro σ x1 x2 ix1 ix2 hf H locs ls hw hl
  unfold pf_tables_282 at hf
  refine lv_aload_n hx hb dX12_tables_282 rfl (lv_at hl 0 rfl) ?_
  obtain ⟨z1, ez1, iz1, hf⟩ := rf_gi_s hw hf
  refine rf_geti B hw 72 (by decide) rfl lk_150 ez1 dX12_tables_283 ?_
  refine rn_if_ne (a := z1) (tgt := 296) hx hb iz1 dX12_tables_286 (by decide) (fun c2 => ?_) (fun c2 => ?_)
  · replace hf := rf_if_t hf c2
    exact rf_retv B hf hw dX12_tables_296
  · replace hf := rf_if_f hf c2
    refine lv_aload_n hx hb dX12_tables_289 rfl (lv_at hl 0 rfl) ?_
    refine rf_get (val := .ref (rf_ad v 18)) B hw 18 (by decide) lk_50 rfl dX12_tables_290 ?_
    refine lv_iload_n hx hb dX12_tables_293 rfl (lv_at hl 1 rfl) ?_
    refine lv_iload_n hx hb dX12_tables_294 rfl (lv_at hl 2 rfl) ?_
    obtain ⟨σ3, eσ3, rσ3, hf⟩ := rf_wr_s hf
    refine rf_ast B hw ix1 ix2 rσ3 eσ3 dX12_tables_295 (fun H locs hw => ?_)
    exact rf_retv B hf hw dX12_tables_296

set_option maxHeartbeats 4000000 in
set_option maxRecDepth 100000 in
theorem ps_tables_359 {v : rfE} {p : Program} {l : Launch} {e : Env} {s : State} {m : MethodId} {args : Array Value} {below : List Frame} {meth : Method} {c : Code} {d : Nat} {rec : Nat → RS → List Int → Option (RS × Int)} {σ' : RS} {r : Int} (hR : rf_Rec l v d rec) (B : rf_B v p s m args meth c cX12_tables 4 none) : ∀ (σ : RS) (x1 x2 x3 : Int), inR x1 → inR x2 → inR x3 → pf_tables_359 rec σ x1 x2 x3 = some (σ', r) → ∀ (H : Heap) (locs : List Loc) (ls : Array Slot), rf_W v s σ H locs → lv_has ls 4 [(0, .ref (rf_h v)), (1, .int (rI x1)), (2, .int (rI x2)), (3, .int (rI x3))] → W p l e (rf_rm (d + 1)) s m args below meth c H locs 0 0 (MQ below (rf_Q v σ' none) args s 0 0 (rf_F v)) (F0 m 359 ls []) := by
  obtain ⟨hx, hb, hr, hml, hown, hts, hlk, hK, hD⟩ := id B
  intro σ x1 x2 x3 ix1 ix2 ix3 hf H locs ls hw hl
  unfold pf_tables_359 at hf
  refine lv_aload_n hx hb dX12_tables_359 rfl (lv_at hl 0 rfl) ?_
  obtain ⟨z1, ez1, iz1, hf⟩ := rf_gi_s hw hf
  refine rf_geti B hw 72 (by decide) rfl lk_150 ez1 dX12_tables_360 ?_
  refine rn_if_ne (a := z1) (tgt := 378) hx hb iz1 dX12_tables_363 (by decide) (fun c2 => ?_) (fun c2 => ?_)
  · replace hf := rf_if_t hf c2
    exact rf_retv B hf hw dX12_tables_378
  · replace hf := rf_if_f hf c2
    refine lv_aload_n hx hb dX12_tables_366 rfl (lv_at hl 0 rfl) ?_
    refine rf_get (val := .ref (rf_ad v 19)) B hw 19 (by decide) lk_52 rfl dX12_tables_367 ?_
    refine lv_bipush (v := rI 8) hx hb dX12_tables_370 (by decide +kernel) ?_
    refine lv_iload_n hx hb dX12_tables_372 rfl (lv_at hl 1 rfl) ?_
    obtain ⟨z3, ez3, iz3, hf⟩ := rf_ck_s hf
    refine rn_mul hx hb ez3 dX12_tables_373 ?_
    refine lv_iload_n hx hb dX12_tables_374 rfl (lv_at hl 2 rfl) ?_
    obtain ⟨z4, ez4, iz4, hf⟩ := rf_ck_s hf
    refine rn_add hx hb ez4 dX12_tables_375 ?_
    refine lv_iload_n hx hb dX12_tables_376 rfl (lv_at hl 3 rfl) ?_
    obtain ⟨σ5, eσ5, rσ5, hf⟩ := rf_wr_s hf
    refine rf_ast B hw iz4 ix3 rσ5 eσ5 dX12_tables_377 (fun H locs hw => ?_)
    exact rf_retv B hf hw dX12_tables_378

set_option maxHeartbeats 4000000 in
set_option maxRecDepth 100000 in
theorem ps_tables_324 {v : rfE} {p : Program} {l : Launch} {e : Env} {s : State} {m : MethodId} {args : Array Value} {below : List Frame} {meth : Method} {c : Code} {d : Nat} {rec : Nat → RS → List Int → Option (RS × Int)} {σ' : RS} {r : Int} (hR : rf_Rec l v d rec) (B : rf_B v p s m args meth c cX12_tables 4 none) : ∀ (σ : RS) (x1 x2 x3 : Int), inR x1 → inR x2 → inR x3 → pf_tables_324 rec σ x1 x2 x3 = some (σ', r) → ∀ (H : Heap) (locs : List Loc) (ls : Array Slot), rf_W v s σ H locs → lv_has ls 4 [(0, .ref (rf_h v)), (1, .int (rI x1)), (2, .int (rI x2)), (3, .int (rI x3))] → W p l e (rf_rm (d + 1)) s m args below meth c H locs 0 0 (MQ below (rf_Q v σ' none) args s 0 0 (rf_F v)) (F0 m 324 ls []) := by
  obtain ⟨hx, hb, hr, hml, hown, hts, hlk, hK, hD⟩ := id B
  intro σ x1 x2 x3 ix1 ix2 ix3 hf H locs ls hw hl
  unfold pf_tables_324 at hf
  refine lv_aload_n hx hb dX12_tables_324 rfl (lv_at hl 0 rfl) ?_
  obtain ⟨z1, ez1, iz1, hf⟩ := rf_gi_s hw hf
  refine rf_geti B hw 72 (by decide) rfl lk_150 ez1 dX12_tables_325 ?_
  refine rn_if_ne (a := z1) (tgt := 359) hx hb iz1 dX12_tables_328 (by decide) (fun c2 => ?_) (fun c2 => ?_)
  · replace hf := rf_if_t hf c2
    exact ps_tables_359 hR B σ x1 x2 x3 ix1 ix2 ix3 hf _ _ _ hw (lv_sub hl [0, 1, 2, 3] rfl)
  · replace hf := rf_if_f hf c2
    refine lv_aload_n hx hb dX12_tables_331 rfl (lv_at hl 0 rfl) ?_
    refine rf_get (val := .ref (rf_ad v 19)) B hw 19 (by decide) lk_52 rfl dX12_tables_332 ?_
    refine lv_bipush (v := rI 8) hx hb dX12_tables_335 (by decide +kernel) ?_
    refine lv_iload_n hx hb dX12_tables_337 rfl (lv_at hl 1 rfl) ?_
    obtain ⟨z3, ez3, iz3, hf⟩ := rf_ck_s hf
    refine rn_mul hx hb ez3 dX12_tables_338 ?_
    refine lv_iload_n hx hb dX12_tables_339 rfl (lv_at hl 2 rfl) ?_
    obtain ⟨z4, ez4, iz4, hf⟩ := rf_ck_s hf
    refine rn_add hx hb ez4 dX12_tables_340 ?_
    obtain ⟨z5, ez5, iz5, rz5, hf⟩ := rf_rd_s hw hf
    refine rf_ald B hw iz4 rz5 ez5 dX12_tables_341 ?_
    refine rn_if_lt (a := z5) (tgt := 359) hx hb iz5 dX12_tables_342 (by decide) (fun c6 => ?_) (fun c6 => ?_)
    · replace hf := rf_if_t hf c6
      exact ps_tables_359 hR B σ x1 x2 x3 ix1 ix2 ix3 hf _ _ _ hw (lv_sub hl [0, 1, 2, 3] rfl)
    · replace hf := rf_if_f hf c6
      refine lv_aload_n hx hb dX12_tables_345 rfl (lv_at hl 0 rfl) ?_
      refine lv_iconst (v := rI 4) hx hb dX12_tables_346 rfl ?_
      refine lv_aload_n hx hb dX12_tables_347 rfl (lv_at hl 0 rfl) ?_
      refine rf_get (val := .ref (rf_ad v 31)) B hw 31 (by decide) lk_79 rfl dX12_tables_348 ?_
      refine lv_aload_n hx hb dX12_tables_351 rfl (lv_at hl 0 rfl) ?_
      obtain ⟨z7, ez7, iz7, hf⟩ := rf_gi_s hw hf
      refine rf_geti B hw 80 (by decide) rfl lk_290 ez7 dX12_tables_352 ?_
      obtain ⟨z8, ez8, iz8, rz8, hf⟩ := rf_rd_s hw hf
      refine rf_ald B hw iz7 rz8 ez8 dX12_tables_355 ?_
      obtain ⟨σ9, z10, hσ9, hf⟩ := rf_cl_s hf
      obtain ⟨iz10, mσ9⟩ := hR 3 σ [4, z8] σ9 z10 hσ9
      have mσ9 : rf_Met l v yX12_wrong cX12_wrong 3 none d [.ref (rf_h v), .int (rI 4), .int (rI z8)] σ σ9 none := mσ9 ⟨by decide, by decide⟩ iz8
      refine rf_cv (n := 2) (rest := []) (As := [.int (rI 4), .int (rI z8)]) B mσ9 g_218_wrong (by decide +kernel) (by decide) rfl hl.1 (Nat.le_of_ble_eq_true rfl) dX12_tables_356 rfl hw (fun H locs hw => ?_)
      exact ps_tables_359 hR B σ9 x1 x2 x3 ix1 ix2 ix3 hf _ _ _ hw (lv_sub hl [0, 1, 2, 3] rfl)

set_option maxHeartbeats 4000000 in
set_option maxRecDepth 100000 in
theorem ps_tables_244 {v : rfE} {p : Program} {l : Launch} {e : Env} {s : State} {m : MethodId} {args : Array Value} {below : List Frame} {meth : Method} {c : Code} {d : Nat} {rec : Nat → RS → List Int → Option (RS × Int)} {σ' : RS} {r : Int} (hR : rf_Rec l v d rec) (B : rf_B v p s m args meth c cX12_tables 4 none) : ∀ (σ : RS) (x1 x2 : Int), inR x1 → inR x2 → pf_tables_244 rec σ x1 x2 = some (σ', r) → ∀ (H : Heap) (locs : List Loc) (ls : Array Slot), rf_W v s σ H locs → lv_has ls 4 [(0, .ref (rf_h v)), (1, .int (rI x1)), (2, .int (rI x2))] → W p l e (rf_rm (d + 1)) s m args below meth c H locs 0 0 (MQ below (rf_Q v σ' none) args s 0 0 (rf_F v)) (F0 m 244 ls []) := by
  obtain ⟨hx, hb, hr, hml, hown, hts, hlk, hK, hD⟩ := id B
  intro σ x1 x2 ix1 ix2 hf H locs ls hw hl
  unfold pf_tables_244 at hf
  refine lv_aload_n hx hb dX12_tables_244 rfl (lv_at hl 0 rfl) ?_
  obtain ⟨z1, ez1, iz1, hf⟩ := rf_gi_s hw hf
  refine rf_geti B hw 76 (by decide) rfl lk_278 ez1 dX12_tables_245 ?_
  refine lv_iconst (v := rI 1) hx hb dX12_tables_248 rfl ?_
  refine rn_icmp_ne (a := z1) (b := 1) (tgt := 297) hx hb iz1 ⟨by decide, by decide⟩ dX12_tables_249 (by decide) (fun c2 => ?_) (fun c2 => ?_)
  · replace hf := rf_if_t hf c2
    refine lv_aload_n hx hb dX12_tables_297 rfl (lv_at hl 0 rfl) ?_
    refine lv_aload_n hx hb dX12_tables_298 rfl (lv_at hl 0 rfl) ?_
    obtain ⟨z3, ez3, iz3, hf⟩ := rf_gi_s hw hf
    refine rf_geti B hw 82 (by decide) rfl lk_296 ez3 dX12_tables_299 ?_
    obtain ⟨σ4, z5, hσ4, hf⟩ := rf_cl_s hf
    obtain ⟨iz5, mσ4⟩ := hR 43 σ [z3] σ4 z5 hσ4
    have mσ4 : rf_Met l v yX12_sortOf cX12_sortOf 4 (some .int) d [.ref (rf_h v), .int (rI z3)] σ σ4 (some (.int (rI z5))) := mσ4 iz3
    refine rf_cv (n := 1) (rest := []) (As := [.int (rI z3)]) B mσ4 g_418_sortOf (by decide +kernel) (by decide) rfl hl.1 (Nat.le_of_ble_eq_true rfl) dX12_tables_302 rfl hw (fun H locs hw => ?_)
    refine lv_istore_n (lv' := [(3, .int (rI z5)), (0, .ref (rf_h v)), (1, .int (rI x1)), (2, .int (rI x2))]) hx hb dX12_tables_305 rfl hl (by decide) rfl (fun ls hl => ?_)
    refine lv_iload_n hx hb dX12_tables_306 rfl (lv_at hl 0 rfl) ?_
    refine rn_if_ge (a := z5) (tgt := 324) hx hb iz5 dX12_tables_307 (by decide) (fun c6 => ?_) (fun c6 => ?_)
    · replace hf := rf_if_t hf c6
      exact ps_tables_324 hR B σ4 x1 x2 z5 ix1 ix2 iz5 hf _ _ _ hw (lv_sub hl [1, 2, 3, 0] rfl)
    · replace hf := rf_if_f hf c6
      refine lv_aload_n hx hb dX12_tables_310 rfl (lv_at hl 1 rfl) ?_
      refine lv_iconst (v := rI 3) hx hb dX12_tables_311 rfl ?_
      refine lv_aload_n hx hb dX12_tables_312 rfl (lv_at hl 1 rfl) ?_
      refine rf_get (val := .ref (rf_ad v 31)) B hw 31 (by decide) lk_79 rfl dX12_tables_313 ?_
      refine lv_aload_n hx hb dX12_tables_316 rfl (lv_at hl 1 rfl) ?_
      obtain ⟨z7, ez7, iz7, hf⟩ := rf_gi_s hw hf
      refine rf_geti B hw 82 (by decide) rfl lk_296 ez7 dX12_tables_317 ?_
      obtain ⟨z8, ez8, iz8, rz8, hf⟩ := rf_rd_s hw hf
      refine rf_ald B hw iz7 rz8 ez8 dX12_tables_320 ?_
      obtain ⟨σ9, z10, hσ9, hf⟩ := rf_cl_s hf
      obtain ⟨iz10, mσ9⟩ := hR 3 σ4 [3, z8] σ9 z10 hσ9
      have mσ9 : rf_Met l v yX12_wrong cX12_wrong 3 none d [.ref (rf_h v), .int (rI 3), .int (rI z8)] σ4 σ9 none := mσ9 ⟨by decide, by decide⟩ iz8
      refine rf_cv (n := 2) (rest := []) (As := [.int (rI 3), .int (rI z8)]) B mσ9 g_218_wrong (by decide +kernel) (by decide) rfl hl.1 (Nat.le_of_ble_eq_true rfl) dX12_tables_321 rfl hw (fun H locs hw => ?_)
      exact ps_tables_324 hR B σ9 x1 x2 z5 ix1 ix2 iz5 hf _ _ _ hw (lv_sub hl [1, 2, 3, 0] rfl)
  · replace hf := rf_if_f hf c2
    refine lv_aload_n hx hb dX12_tables_252 rfl (lv_at hl 0 rfl) ?_
    obtain ⟨z11, ez11, iz11, hf⟩ := rf_gi_s hw hf
    refine rf_geti B hw 72 (by decide) rfl lk_150 ez11 dX12_tables_253 ?_
    refine rn_if_ne (a := z11) (tgt := 282) hx hb iz11 dX12_tables_256 (by decide) (fun c12 => ?_) (fun c12 => ?_)
    · replace hf := rf_if_t hf c12
      exact ps_tables_282 hR B σ x1 x2 ix1 ix2 hf _ _ _ hw (lv_sub hl [0, 1, 2] rfl)
    · replace hf := rf_if_f hf c12
      refine lv_aload_n hx hb dX12_tables_259 rfl (lv_at hl 0 rfl) ?_
      refine rf_get (val := .ref (rf_ad v 18)) B hw 18 (by decide) lk_50 rfl dX12_tables_260 ?_
      refine lv_iload_n hx hb dX12_tables_263 rfl (lv_at hl 1 rfl) ?_
      obtain ⟨z13, ez13, iz13, rz13, hf⟩ := rf_rd_s hw hf
      refine rf_ald B hw ix1 rz13 ez13 dX12_tables_264 ?_
      refine rn_if_lt (a := z13) (tgt := 282) hx hb iz13 dX12_tables_265 (by decide) (fun c14 => ?_) (fun c14 => ?_)
      · replace hf := rf_if_t hf c14
        exact ps_tables_282 hR B σ x1 x2 ix1 ix2 hf _ _ _ hw (lv_sub hl [0, 1, 2] rfl)
      · replace hf := rf_if_f hf c14
        refine lv_aload_n hx hb dX12_tables_268 rfl (lv_at hl 0 rfl) ?_
        refine lv_iconst (v := rI 4) hx hb dX12_tables_269 rfl ?_
        refine lv_aload_n hx hb dX12_tables_270 rfl (lv_at hl 0 rfl) ?_
        refine rf_get (val := .ref (rf_ad v 31)) B hw 31 (by decide) lk_79 rfl dX12_tables_271 ?_
        refine lv_aload_n hx hb dX12_tables_274 rfl (lv_at hl 0 rfl) ?_
        obtain ⟨z15, ez15, iz15, hf⟩ := rf_gi_s hw hf
        refine rf_geti B hw 80 (by decide) rfl lk_290 ez15 dX12_tables_275 ?_
        obtain ⟨z16, ez16, iz16, rz16, hf⟩ := rf_rd_s hw hf
        refine rf_ald B hw iz15 rz16 ez16 dX12_tables_278 ?_
        obtain ⟨σ17, z18, hσ17, hf⟩ := rf_cl_s hf
        obtain ⟨iz18, mσ17⟩ := hR 3 σ [4, z16] σ17 z18 hσ17
        have mσ17 : rf_Met l v yX12_wrong cX12_wrong 3 none d [.ref (rf_h v), .int (rI 4), .int (rI z16)] σ σ17 none := mσ17 ⟨by decide, by decide⟩ iz16
        refine rf_cv (n := 2) (rest := []) (As := [.int (rI 4), .int (rI z16)]) B mσ17 g_218_wrong (by decide +kernel) (by decide) rfl hl.1 (Nat.le_of_ble_eq_true rfl) dX12_tables_279 rfl hw (fun H locs hw => ?_)
        exact ps_tables_282 hR B σ17 x1 x2 ix1 ix2 hf _ _ _ hw (lv_sub hl [0, 1, 2] rfl)

set_option maxHeartbeats 4000000 in
set_option maxRecDepth 100000 in
theorem ps_tables_217 {v : rfE} {p : Program} {l : Launch} {e : Env} {s : State} {m : MethodId} {args : Array Value} {below : List Frame} {meth : Method} {c : Code} {d : Nat} {rec : Nat → RS → List Int → Option (RS × Int)} {σ' : RS} {r : Int} (hR : rf_Rec l v d rec) (B : rf_B v p s m args meth c cX12_tables 4 none) : ∀ (σ : RS) (x1 : Int), inR x1 → pf_tables_217 rec σ x1 = some (σ', r) → ∀ (H : Heap) (locs : List Loc) (ls : Array Slot), rf_W v s σ H locs → lv_has ls 4 [(0, .ref (rf_h v)), (1, .int (rI x1))] → W p l e (rf_rm (d + 1)) s m args below meth c H locs 0 0 (MQ below (rf_Q v σ' none) args s 0 0 (rf_F v)) (F0 m 217 ls []) := by
  obtain ⟨hx, hb, hr, hml, hown, hts, hlk, hK, hD⟩ := id B
  intro σ x1 ix1 hf H locs ls hw hl
  unfold pf_tables_217 at hf
  refine lv_aload_n hx hb dX12_tables_217 rfl (lv_at hl 0 rfl) ?_
  refine lv_aload_n hx hb dX12_tables_218 rfl (lv_at hl 0 rfl) ?_
  obtain ⟨z1, ez1, iz1, hf⟩ := rf_gi_s hw hf
  refine rf_geti B hw 81 (by decide) rfl lk_293 ez1 dX12_tables_219 ?_
  obtain ⟨σ2, z3, hσ2, hf⟩ := rf_cl_s hf
  obtain ⟨iz3, mσ2⟩ := hR 43 σ [z1] σ2 z3 hσ2
  have mσ2 : rf_Met l v yX12_sortOf cX12_sortOf 4 (some .int) d [.ref (rf_h v), .int (rI z1)] σ σ2 (some (.int (rI z3))) := mσ2 iz1
  refine rf_cv (n := 1) (rest := []) (As := [.int (rI z1)]) B mσ2 g_418_sortOf (by decide +kernel) (by decide) rfl hl.1 (Nat.le_of_ble_eq_true rfl) dX12_tables_222 rfl hw (fun H locs hw => ?_)
  refine lv_istore_n (lv' := [(2, .int (rI z3)), (0, .ref (rf_h v)), (1, .int (rI x1))]) hx hb dX12_tables_225 rfl hl (by decide) rfl (fun ls hl => ?_)
  refine lv_iload_n hx hb dX12_tables_226 rfl (lv_at hl 0 rfl) ?_
  refine rn_if_ge (a := z3) (tgt := 244) hx hb iz3 dX12_tables_227 (by decide) (fun c4 => ?_) (fun c4 => ?_)
  · replace hf := rf_if_t hf c4
    exact ps_tables_244 hR B σ2 x1 z3 ix1 iz3 hf _ _ _ hw (lv_sub hl [1, 2, 0] rfl)
  · replace hf := rf_if_f hf c4
    refine lv_aload_n hx hb dX12_tables_230 rfl (lv_at hl 1 rfl) ?_
    refine lv_iconst (v := rI 3) hx hb dX12_tables_231 rfl ?_
    refine lv_aload_n hx hb dX12_tables_232 rfl (lv_at hl 1 rfl) ?_
    refine rf_get (val := .ref (rf_ad v 31)) B hw 31 (by decide) lk_79 rfl dX12_tables_233 ?_
    refine lv_aload_n hx hb dX12_tables_236 rfl (lv_at hl 1 rfl) ?_
    obtain ⟨z5, ez5, iz5, hf⟩ := rf_gi_s hw hf
    refine rf_geti B hw 81 (by decide) rfl lk_293 ez5 dX12_tables_237 ?_
    obtain ⟨z6, ez6, iz6, rz6, hf⟩ := rf_rd_s hw hf
    refine rf_ald B hw iz5 rz6 ez6 dX12_tables_240 ?_
    obtain ⟨σ7, z8, hσ7, hf⟩ := rf_cl_s hf
    obtain ⟨iz8, mσ7⟩ := hR 3 σ2 [3, z6] σ7 z8 hσ7
    have mσ7 : rf_Met l v yX12_wrong cX12_wrong 3 none d [.ref (rf_h v), .int (rI 3), .int (rI z6)] σ2 σ7 none := mσ7 ⟨by decide, by decide⟩ iz6
    refine rf_cv (n := 2) (rest := []) (As := [.int (rI 3), .int (rI z6)]) B mσ7 g_218_wrong (by decide +kernel) (by decide) rfl hl.1 (Nat.le_of_ble_eq_true rfl) dX12_tables_241 rfl hw (fun H locs hw => ?_)
    exact ps_tables_244 hR B σ7 x1 z3 ix1 iz3 hf _ _ _ hw (lv_sub hl [1, 2, 0] rfl)

