set_option maxHeartbeats 4000000 in
set_option maxRecDepth 100000 in
theorem ps_normal_229 {v : rfE} {p : Program} {l : Launch} {e : Env} {s : State} {m : MethodId} {args : Array Value} {below : List Frame} {meth : Method} {c : Code} {d : Nat} {rec : Nat → RS → List Int → Option (RS × Int)} {σ' : RS} {r : Int} (hR : rf_Rec l v d rec) (B : rf_B v p s m args meth c cX12_normal 12 (some .int)) : ∀ (n : Nat) (σ : RS) (x3 x4 x8 x9 x10 : Int), inR x3 → inR x4 → inR x8 → inR x9 → inR x10 → pf_normal_229 rec n σ x3 x4 x8 x9 x10 = some (σ', r) → ∀ (H : Heap) (locs : List Loc) (ls : Array Slot), rf_W v s σ H locs → lv_has ls 12 [(0, .ref (rf_h v)), (3, .int (rI x3)), (4, .int (rI x4)), (8, .int (rI x8)), (9, .int (rI x9)), (10, .int (rI x10))] → W p l e (rf_rm (d + 1)) s m args below meth c H locs 0 0 (MQ below (rf_Q v σ' (some (.int (rI r)))) args s 0 0 (rf_F v)) (F0 m 229 ls []) := by
  obtain ⟨hx, hb, hr, hml, hown, hts, hlk, hK, hD⟩ := id B
  intro n
  induction n with
  | zero => intro σ x3 x4 x8 x9 x10 ix3 ix4 ix8 ix9 ix10 hf; cases hf
  | succ n ih =>
    intro σ x3 x4 x8 x9 x10 ix3 ix4 ix8 ix9 ix10 hf H locs ls hw hl
    unfold pf_normal_229 at hf
    refine lv_aload_n hx hb dX12_normal_229 rfl (lv_at hl 0 rfl) ?_
    obtain ⟨z1, ez1, iz1, hf⟩ := rf_gi_s hw hf
    refine rf_geti B hw 72 (by decide) rfl lk_150 ez1 dX12_normal_230 ?_
    refine rn_if_ne (a := z1) (tgt := 295) hx hb iz1 dX12_normal_233 (by decide) (fun c2 => ?_) (fun c2 => ?_)
    · replace hf := rf_if_t hf c2
      refine lv_aload_n hx hb dX12_normal_295 rfl (lv_at hl 0 rfl) ?_
      refine lv_iload hx hb dX12_normal_296 (lv_at hl 2 rfl) ?_
      obtain ⟨σ3, eσ3, hf⟩ := rf_pi_s hf
      refine rf_put B hw 51 (by decide) rfl rfl lk_324 ix4 eσ3 rfl rfl dX12_normal_298 (fun H locs hw => ?_)
      refine lv_iload hx hb dX12_normal_301 (lv_at hl 3 rfl) ?_
      exact rf_reti B hf hw dX12_normal_303
    · replace hf := rf_if_f hf c2
      refine lv_iload hx hb dX12_normal_236 (lv_at hl 5 rfl) ?_
      refine lv_iload hx hb dX12_normal_238 (lv_at hl 4 rfl) ?_
      refine lv_iload hx hb dX12_normal_240 (lv_at hl 2 rfl) ?_
      obtain ⟨z4, ez4, iz4, hf⟩ := rf_ck_s hf
      refine rn_sub hx hb ez4 dX12_normal_242 ?_
      refine rn_icmp_gt (a := x10) (b := z4) (tgt := 295) hx hb ix10 iz4 dX12_normal_243 (by decide) (fun c5 => ?_) (fun c5 => ?_)
      · replace hf := rf_if_t hf c5
        refine lv_aload_n hx hb dX12_normal_295 rfl (lv_at hl 0 rfl) ?_
        refine lv_iload hx hb dX12_normal_296 (lv_at hl 2 rfl) ?_
        obtain ⟨σ6, eσ6, hf⟩ := rf_pi_s hf
        refine rf_put B hw 51 (by decide) rfl rfl lk_324 ix4 eσ6 rfl rfl dX12_normal_298 (fun H locs hw => ?_)
        refine lv_iload hx hb dX12_normal_301 (lv_at hl 3 rfl) ?_
        exact rf_reti B hf hw dX12_normal_303
      · replace hf := rf_if_f hf c5
        refine lv_aload_n hx hb dX12_normal_246 rfl (lv_at hl 0 rfl) ?_
        refine lv_aload_n hx hb dX12_normal_247 rfl (lv_at hl 0 rfl) ?_
        refine rf_get (val := .ref (rf_ad v 49)) B hw 49 (by decide) lk_128 rfl dX12_normal_248 ?_
        refine lv_iload hx hb dX12_normal_251 (lv_at hl 4 rfl) ?_
        refine lv_iload hx hb dX12_normal_253 (lv_at hl 5 rfl) ?_
        obtain ⟨z7, ez7, iz7, hf⟩ := rf_ck_s hf
        refine rn_sub hx hb ez7 dX12_normal_255 ?_
        obtain ⟨z8, ez8, iz8, rz8, hf⟩ := rf_rd_s hw hf
        refine rf_ald B hw iz7 rz8 ez8 dX12_normal_256 ?_
        refine lv_aload_n hx hb dX12_normal_257 rfl (lv_at hl 0 rfl) ?_
        refine rf_get (val := .ref (rf_ad v 50)) B hw 50 (by decide) lk_131 rfl dX12_normal_258 ?_
        refine lv_iload hx hb dX12_normal_261 (lv_at hl 4 rfl) ?_
        refine lv_iload hx hb dX12_normal_263 (lv_at hl 5 rfl) ?_
        obtain ⟨z9, ez9, iz9, hf⟩ := rf_ck_s hf
        refine rn_sub hx hb ez9 dX12_normal_265 ?_
        obtain ⟨z10, ez10, iz10, rz10, hf⟩ := rf_rd_s hw hf
        refine rf_ald B hw iz9 rz10 ez10 dX12_normal_266 ?_
        refine lv_iload_n hx hb dX12_normal_267 rfl (lv_at hl 1 rfl) ?_
        refine lv_iconst (v := rI 1) hx hb dX12_normal_268 rfl ?_
        obtain ⟨z11, ez11, iz11, hf⟩ := rf_ck_s hf
        refine rn_add hx hb ez11 dX12_normal_269 ?_
        obtain ⟨σ12, z13, hσ12, hf⟩ := rf_cl_s hf
        obtain ⟨iz13, mσ12⟩ := hR 41 σ [z8, z10, z11] σ12 z13 hσ12
        have mσ12 : rf_Met l v yX12_normal cX12_normal 12 (some .int) d [.ref (rf_h v), .int (rI z8), .int (rI z10), .int (rI z11)] σ σ12 (some (.int (rI z13))) := mσ12 iz8 iz10 iz11
        refine rf_cv (n := 3) (rest := []) (As := [.int (rI z8), .int (rI z10), .int (rI z11)]) B mσ12 g_396_normal (by decide +kernel) (by decide) rfl hl.1 (Nat.le_of_ble_eq_true rfl) dX12_normal_270 rfl hw (fun H locs hw => ?_)
        refine lv_istore (lv' := [(11, .int (rI z13)), (0, .ref (rf_h v)), (3, .int (rI x3)), (4, .int (rI x4)), (8, .int (rI x8)), (9, .int (rI x9)), (10, .int (rI x10))]) hx hb dX12_normal_273 hl (by decide) rfl (fun ls hl => ?_)
        refine lv_aload_n hx hb dX12_normal_275 rfl (lv_at hl 1 rfl) ?_
        refine lv_bipush (v := rI 7) hx hb dX12_normal_276 (by decide +kernel) ?_
        refine lv_iconst (v := rI 0) hx hb dX12_normal_278 rfl ?_
        refine lv_iload hx hb dX12_normal_279 (lv_at hl 4 rfl) ?_
        refine lv_iload hx hb dX12_normal_281 (lv_at hl 0 rfl) ?_
        refine lv_iconst (v := rI 0) hx hb dX12_normal_283 rfl ?_
        obtain ⟨σ14, z15, hσ14, hf⟩ := rf_cl_s hf
        obtain ⟨iz15, mσ14⟩ := hR 18 σ12 [7, 0, x8, z13, 0] σ14 z15 hσ14
        have mσ14 : rf_Met l v yX12_node cX12_node 6 (some .int) d [.ref (rf_h v), .int (rI 7), .int (rI 0), .int (rI x8), .int (rI z13), .int (rI 0)] σ12 σ14 (some (.int (rI z15))) := mσ14 ⟨by decide, by decide⟩ ⟨by decide, by decide⟩ ix8 iz13 ⟨by decide, by decide⟩
        refine rf_cv (n := 5) (rest := []) (As := [.int (rI 7), .int (rI 0), .int (rI x8), .int (rI z13), .int (rI 0)]) B mσ14 g_241_node (by decide +kernel) (by decide) rfl hl.1 (Nat.le_of_ble_eq_true rfl) dX12_normal_284 rfl hw (fun H locs hw => ?_)
        refine lv_istore (lv' := [(8, .int (rI z15)), (11, .int (rI z13)), (0, .ref (rf_h v)), (3, .int (rI x3)), (4, .int (rI x4)), (9, .int (rI x9)), (10, .int (rI x10))]) hx hb dX12_normal_287 hl (by decide) rfl (fun ls hl => ?_)
        obtain ⟨z16, ez16, iz16, hf⟩ := rf_ck_s hf
        refine lv_iinc (v := rI z16) (lv' := [(10, .int (rI z16)), (8, .int (rI z15)), (11, .int (rI z13)), (0, .ref (rf_h v)), (3, .int (rI x3)), (4, .int (rI x4)), (9, .int (rI x9))]) hx hb dX12_normal_289 hl (k := 6) rfl (by rw [ez16]; exact rI_add _ _) (by decide) rfl (fun ls hl => ?_)
        refine lv_goto (tgt := 229) hx hb dX12_normal_292 (by decide) ?_
        exact ih σ14 x3 x4 z15 x9 z16 ix3 ix4 iz15 ix9 iz16 hf _ _ _ hw (lv_sub hl [3, 4, 5, 1, 6, 0] rfl)

set_option maxHeartbeats 4000000 in
set_option maxRecDepth 100000 in
theorem ps_normal_218 {v : rfE} {p : Program} {l : Launch} {e : Env} {s : State} {m : MethodId} {args : Array Value} {below : List Frame} {meth : Method} {c : Code} {d : Nat} {rec : Nat → RS → List Int → Option (RS × Int)} {σ' : RS} {r : Int} (hR : rf_Rec l v d rec) (B : rf_B v p s m args meth c cX12_normal 12 (some .int)) : ∀ (σ : RS) (x3 x4 t0 : Int), inR x3 → inR x4 → inR t0 → pf_normal_218 rec σ x3 x4 t0 = some (σ', r) → ∀ (H : Heap) (locs : List Loc) (ls : Array Slot), rf_W v s σ H locs → lv_has ls 12 [(0, .ref (rf_h v)), (3, .int (rI x3)), (4, .int (rI x4))] → W p l e (rf_rm (d + 1)) s m args below meth c H locs 0 0 (MQ below (rf_Q v σ' (some (.int (rI r)))) args s 0 0 (rf_F v)) (F0 m 218 ls [.int (rI t0)]) := by
  obtain ⟨hx, hb, hr, hml, hown, hts, hlk, hK, hD⟩ := id B
  intro σ x3 x4 t0 ix3 ix4 it0 hf H locs ls hw hl
  unfold pf_normal_218 at hf
  refine lv_istore (lv' := [(8, .int (rI t0)), (0, .ref (rf_h v)), (3, .int (rI x3)), (4, .int (rI x4))]) hx hb dX12_normal_218 hl (by decide) rfl (fun ls hl => ?_)
  refine lv_aload_n hx hb dX12_normal_220 rfl (lv_at hl 1 rfl) ?_
  obtain ⟨z1, ez1, iz1, hf⟩ := rf_gi_s hw hf
  refine rf_geti B hw 51 (by decide) rfl lk_324 ez1 dX12_normal_221 ?_
  refine lv_istore (lv' := [(9, .int (rI z1)), (8, .int (rI t0)), (0, .ref (rf_h v)), (3, .int (rI x3)), (4, .int (rI x4))]) hx hb dX12_normal_224 hl (by decide) rfl (fun ls hl => ?_)
  refine lv_iconst (v := rI 1) hx hb dX12_normal_226 rfl ?_
  refine lv_istore (lv' := [(10, .int (rI 1)), (9, .int (rI z1)), (8, .int (rI t0)), (0, .ref (rf_h v)), (3, .int (rI x3)), (4, .int (rI x4))]) hx hb dX12_normal_227 hl (by decide) rfl (fun ls hl => ?_)
  exact ps_normal_229 hR B 200000 σ x3 x4 t0 z1 1 ix3 ix4 it0 iz1 ⟨by decide, by decide⟩ hf _ _ _ hw (lv_sub hl [3, 4, 5, 2, 1, 0] rfl)

set_option maxHeartbeats 4000000 in
set_option maxRecDepth 100000 in
theorem ps_normal_212 {v : rfE} {p : Program} {l : Launch} {e : Env} {s : State} {m : MethodId} {args : Array Value} {below : List Frame} {meth : Method} {c : Code} {d : Nat} {rec : Nat → RS → List Int → Option (RS × Int)} {σ' : RS} {r : Int} (hR : rf_Rec l v d rec) (B : rf_B v p s m args meth c cX12_normal 12 (some .int)) : ∀ (σ : RS) (x3 x4 t0 t1 : Int), inR x3 → inR x4 → inR t0 → inR t1 → pf_normal_212 rec σ x3 x4 t0 t1 = some (σ', r) → ∀ (H : Heap) (locs : List Loc) (ls : Array Slot), rf_W v s σ H locs → lv_has ls 12 [(0, .ref (rf_h v)), (3, .int (rI x3)), (4, .int (rI x4))] → W p l e (rf_rm (d + 1)) s m args below meth c H locs 0 0 (MQ below (rf_Q v σ' (some (.int (rI r)))) args s 0 0 (rf_F v)) (F0 m 212 ls [.int (rI t0), .int (rI t1), .ref (rf_h v)]) := by
  obtain ⟨hx, hb, hr, hml, hown, hts, hlk, hK, hD⟩ := id B
  intro σ x3 x4 t0 t1 ix3 ix4 it0 it1 hf H locs ls hw hl
  unfold pf_normal_212 at hf
  refine lv_iconst (v := rI 0) hx hb dX12_normal_212 rfl ?_
  refine lv_iconst (v := rI 0) hx hb dX12_normal_213 rfl ?_
  refine lv_iconst (v := rI 0) hx hb dX12_normal_214 rfl ?_
  obtain ⟨σ1, z2, hσ1, hf⟩ := rf_cl_s hf
  obtain ⟨iz2, mσ1⟩ := hR 18 σ [t1, t0, 0, 0, 0] σ1 z2 hσ1
  have mσ1 : rf_Met l v yX12_node cX12_node 6 (some .int) d [.ref (rf_h v), .int (rI t1), .int (rI t0), .int (rI 0), .int (rI 0), .int (rI 0)] σ σ1 (some (.int (rI z2))) := mσ1 it1 it0 ⟨by decide, by decide⟩ ⟨by decide, by decide⟩ ⟨by decide, by decide⟩
  refine rf_cv (n := 5) (rest := []) (As := [.int (rI t1), .int (rI t0), .int (rI 0), .int (rI 0), .int (rI 0)]) B mσ1 g_241_node (by decide +kernel) (by decide) rfl hl.1 (Nat.le_of_ble_eq_true rfl) dX12_normal_215 rfl hw (fun H locs hw => ?_)
  exact ps_normal_218 hR B σ1 x3 x4 z2 ix3 ix4 iz2 hf _ _ _ hw (lv_sub hl [0, 1, 2] rfl)

set_option maxHeartbeats 4000000 in
set_option maxRecDepth 100000 in
theorem ps_normal_191 {v : rfE} {p : Program} {l : Launch} {e : Env} {s : State} {m : MethodId} {args : Array Value} {below : List Frame} {meth : Method} {c : Code} {d : Nat} {rec : Nat → RS → List Int → Option (RS × Int)} {σ' : RS} {r : Int} (hR : rf_Rec l v d rec) (B : rf_B v p s m args meth c cX12_normal 12 (some .int)) : ∀ (σ : RS) (x3 x4 x5 x7 t0 : Int), inR x3 → inR x4 → inR x5 → inR x7 → inR t0 → pf_normal_191 rec σ x3 x4 x5 x7 t0 = some (σ', r) → ∀ (H : Heap) (locs : List Loc) (ls : Array Slot), rf_W v s σ H locs → lv_has ls 12 [(0, .ref (rf_h v)), (3, .int (rI x3)), (4, .int (rI x4)), (5, .int (rI x5)), (7, .int (rI x7))] → W p l e (rf_rm (d + 1)) s m args below meth c H locs 0 0 (MQ below (rf_Q v σ' (some (.int (rI r)))) args s 0 0 (rf_F v)) (F0 m 191 ls [.int (rI t0), .ref (rf_h v)]) := by
  obtain ⟨hx, hb, hr, hml, hown, hts, hlk, hK, hD⟩ := id B
  intro σ x3 x4 x5 x7 t0 ix3 ix4 ix5 ix7 it0 hf H locs ls hw hl
  unfold pf_normal_191 at hf
  refine lv_iload hx hb dX12_normal_191 (lv_at hl 4 rfl) ?_
  refine lv_iconst (v := rI (-1)) hx hb dX12_normal_193 rfl ?_
  refine rn_icmp_ne (a := x7) (b := (-1)) (tgt := 205) hx hb ix7 ⟨by decide, by decide⟩ dX12_normal_194 (by decide) (fun c1 => ?_) (fun c1 => ?_)
  · replace hf := rf_if_t hf c1
    refine lv_aload_n hx hb dX12_normal_205 rfl (lv_at hl 0 rfl) ?_
    refine rf_get (val := .ref (rf_ad v 31)) B hw 31 (by decide) lk_79 rfl dX12_normal_206 ?_
    refine lv_iload hx hb dX12_normal_209 (lv_at hl 3 rfl) ?_
    obtain ⟨z2, ez2, iz2, rz2, hf⟩ := rf_rd_s hw hf
    refine rf_ald B hw ix5 rz2 ez2 dX12_normal_211 ?_
    exact ps_normal_212 hR B σ x3 x4 z2 t0 ix3 ix4 iz2 it0 hf _ _ _ hw (lv_sub hl [0, 1, 2] rfl)
  · replace hf := rf_if_f hf c1
    refine lv_bipush (v := rI (-2)) hx hb dX12_normal_197 (by decide +kernel) ?_
    refine lv_iload hx hb dX12_normal_199 (lv_at hl 3 rfl) ?_
    obtain ⟨z3, ez3, iz3, hf⟩ := rf_ck_s hf
    refine rn_sub hx hb ez3 dX12_normal_201 ?_
    refine lv_goto (tgt := 212) hx hb dX12_normal_202 (by decide) ?_
    exact ps_normal_212 hR B σ x3 x4 z3 t0 ix3 ix4 iz3 it0 hf _ _ _ hw (lv_sub hl [0, 1, 2] rfl)

set_option maxHeartbeats 4000000 in
set_option maxRecDepth 100000 in
theorem ps_normal_0 {v : rfE} {p : Program} {l : Launch} {e : Env} {s : State} {m : MethodId} {args : Array Value} {below : List Frame} {meth : Method} {c : Code} {d : Nat} {rec : Nat → RS → List Int → Option (RS × Int)} {σ' : RS} {r : Int} (hR : rf_Rec l v d rec) (B : rf_B v p s m args meth c cX12_normal 12 (some .int)) : ∀ (σ : RS) (x1 x2 x3 : Int), inR x1 → inR x2 → inR x3 → pf_normal_0 rec σ x1 x2 x3 = some (σ', r) → ∀ (H : Heap) (locs : List Loc) (ls : Array Slot), rf_W v s σ H locs → lv_has ls 12 [(0, .ref (rf_h v)), (1, .int (rI x1)), (2, .int (rI x2)), (3, .int (rI x3))] → W p l e (rf_rm (d + 1)) s m args below meth c H locs 0 0 (MQ below (rf_Q v σ' (some (.int (rI r)))) args s 0 0 (rf_F v)) (F0 m 0 ls []) := by
  obtain ⟨hx, hb, hr, hml, hown, hts, hlk, hK, hD⟩ := id B
  intro σ x1 x2 x3 ix1 ix2 ix3 hf H locs ls hw hl
  unfold pf_normal_0 at hf
  refine lv_aload_n hx hb dX12_normal_0 rfl (lv_at hl 0 rfl) ?_
  refine lv_iload_n hx hb dX12_normal_1 rfl (lv_at hl 3 rfl) ?_
  obtain ⟨σ1, z2, hσ1, hf⟩ := rf_cl_s hf
  obtain ⟨iz2, mσ1⟩ := hR 29 σ [x3] σ1 z2 hσ1
  have mσ1 : rf_Met l v yX12_look cX12_look 2 (some .boolean) d [.ref (rf_h v), .int (rI x3)] σ σ1 (some (.int (rI z2))) := mσ1 ix3
  refine rf_cv (n := 1) (rest := []) (As := [.int (rI x3)]) B mσ1 g_354_look (by decide +kernel) (by decide) rfl hl.1 (Nat.le_of_ble_eq_true rfl) dX12_normal_2 rfl hw (fun H locs hw => ?_)
  refine rn_if_ne (a := z2) (tgt := 10) hx hb iz2 dX12_normal_5 (by decide) (fun c3 => ?_) (fun c3 => ?_)
  · replace hf := rf_if_t hf c3
    refine lv_aload_n hx hb dX12_normal_10 rfl (lv_at hl 0 rfl) ?_
    obtain ⟨z4, ez4, iz4, hf⟩ := rf_gi_s hw hf
    refine rf_geti B hw 51 (by decide) rfl lk_324 ez4 dX12_normal_11 ?_
    refine lv_istore (lv' := [(4, .int (rI z4)), (0, .ref (rf_h v)), (1, .int (rI x1)), (2, .int (rI x2)), (3, .int (rI x3))]) hx hb dX12_normal_14 hl (by decide) rfl (fun ls hl => ?_)
    refine lv_aload_n hx hb dX12_normal_16 rfl (lv_at hl 1 rfl) ?_
    refine lv_iload_n hx hb dX12_normal_17 rfl (lv_at hl 2 rfl) ?_
    refine lv_iload_n hx hb dX12_normal_18 rfl (lv_at hl 3 rfl) ?_
    obtain ⟨σ5, z6, hσ5, hf⟩ := rf_cl_s hf
    obtain ⟨iz6, mσ5⟩ := hR 32 σ1 [x1, x2] σ5 z6 hσ5
    have mσ5 : rf_Met l v yX12_head cX12_head 8 none d [.ref (rf_h v), .int (rI x1), .int (rI x2)] σ1 σ5 none := mσ5 ix1 ix2
    refine rf_cv (n := 2) (rest := []) (As := [.int (rI x1), .int (rI x2)]) B mσ5 g_357_head (by decide +kernel) (by decide) rfl hl.1 (Nat.le_of_ble_eq_true rfl) dX12_normal_19 rfl hw (fun H locs hw => ?_)
    refine lv_aload_n hx hb dX12_normal_22 rfl (lv_at hl 1 rfl) ?_
    obtain ⟨z7, ez7, iz7, hf⟩ := rf_gi_s hw hf
    refine rf_geti B hw 72 (by decide) rfl lk_150 ez7 dX12_normal_23 ?_
    refine rn_if_eq (a := z7) (tgt := 31) hx hb iz7 dX12_normal_26 (by decide) (fun c8 => ?_) (fun c8 => ?_)
    · replace hf := rf_if_t hf c8
      refine lv_aload_n hx hb dX12_normal_31 rfl (lv_at hl 1 rfl) ?_
      obtain ⟨z9, ez9, iz9, hf⟩ := rf_gi_s hw hf
      refine rf_geti B hw 52 (by decide) rfl lk_348 ez9 dX12_normal_32 ?_
      refine lv_istore (lv' := [(5, .int (rI z9)), (4, .int (rI z4)), (0, .ref (rf_h v)), (1, .int (rI x1)), (2, .int (rI x2)), (3, .int (rI x3))]) hx hb dX12_normal_35 hl (by decide) rfl (fun ls hl => ?_)
      refine lv_aload_n hx hb dX12_normal_37 rfl (lv_at hl 2 rfl) ?_
      obtain ⟨z10, ez10, iz10, hf⟩ := rf_gi_s hw hf
      refine rf_geti B hw 53 (by decide) rfl lk_351 ez10 dX12_normal_38 ?_
      refine lv_istore (lv' := [(6, .int (rI z10)), (5, .int (rI z9)), (4, .int (rI z4)), (0, .ref (rf_h v)), (1, .int (rI x1)), (2, .int (rI x2)), (3, .int (rI x3))]) hx hb dX12_normal_41 hl (by decide) rfl (fun ls hl => ?_)
      refine lv_aload_n hx hb dX12_normal_43 rfl (lv_at hl 3 rfl) ?_
      refine lv_iload hx hb dX12_normal_44 (lv_at hl 1 rfl) ?_
      obtain ⟨σ11, z12, hσ11, hf⟩ := rf_cl_s hf
      obtain ⟨iz12, mσ11⟩ := hR 33 σ5 [z9] σ11 z12 hσ11
      have mσ11 : rf_Met l v yX12_kindOf cX12_kindOf 2 (some .int) d [.ref (rf_h v), .int (rI z9)] σ5 σ11 (some (.int (rI z12))) := mσ11 iz9
      refine rf_cv (n := 1) (rest := []) (As := [.int (rI z9)]) B mσ11 g_363_kindOf (by decide +kernel) (by decide) rfl hl.1 (Nat.le_of_ble_eq_true rfl) dX12_normal_46 rfl hw (fun H locs hw => ?_)
      refine lv_istore (lv' := [(7, .int (rI z12)), (6, .int (rI z10)), (5, .int (rI z9)), (4, .int (rI z4)), (0, .ref (rf_h v)), (1, .int (rI x1)), (2, .int (rI x2)), (3, .int (rI x3))]) hx hb dX12_normal_49 hl (by decide) rfl (fun ls hl => ?_)
      refine lv_iload hx hb dX12_normal_51 (lv_at hl 0 rfl) ?_
      refine lv_iconst (v := rI 4) hx hb dX12_normal_53 rfl ?_
      refine rn_icmp_eq (a := z12) (b := 4) (tgt := 63) hx hb iz12 ⟨by decide, by decide⟩ dX12_normal_54 (by decide) (fun c13 => ?_) (fun c13 => ?_)
      · replace hf := rf_if_t hf c13
        exact ps_normal_63 hR B σ11 x3 z4 z9 z10 z12 ix3 iz4 iz9 iz10 iz12 hf _ _ _ hw (lv_sub hl [4, 7, 3, 2, 1, 0] rfl)
      · replace hf := rf_if_f hf c13
        refine lv_iload hx hb dX12_normal_57 (lv_at hl 0 rfl) ?_
        refine lv_iconst (v := rI 5) hx hb dX12_normal_59 rfl ?_
        refine rn_icmp_ne (a := z12) (b := 5) (tgt := 163) hx hb iz12 ⟨by decide, by decide⟩ dX12_normal_60 (by decide) (fun c14 => ?_) (fun c14 => ?_)
        · replace hf := rf_if_t hf c14
          refine lv_iload hx hb dX12_normal_163 (lv_at hl 0 rfl) ?_
          refine lv_iconst (v := rI 3) hx hb dX12_normal_165 rfl ?_
          refine rn_icmp_ne (a := z12) (b := 3) (tgt := 179) hx hb iz12 ⟨by decide, by decide⟩ dX12_normal_166 (by decide) (fun c15 => ?_) (fun c15 => ?_)
          · replace hf := rf_if_t hf c15
            refine lv_aload_n hx hb dX12_normal_179 rfl (lv_at hl 4 rfl) ?_
            refine lv_iload hx hb dX12_normal_180 (lv_at hl 0 rfl) ?_
            refine lv_iconst (v := rI 2) hx hb dX12_normal_182 rfl ?_
            refine rn_icmp_ne (a := z12) (b := 2) (tgt := 190) hx hb iz12 ⟨by decide, by decide⟩ dX12_normal_183 (by decide) (fun c16 => ?_) (fun c16 => ?_)
            · replace hf := rf_if_t hf c16
              refine lv_iconst (v := rI 1) hx hb dX12_normal_190 rfl ?_
              exact ps_normal_191 hR B σ11 x3 z4 z9 z12 1 ix3 iz4 iz9 iz12 ⟨by decide, by decide⟩ hf _ _ _ hw (lv_sub hl [4, 7, 3, 2, 0] rfl)
            · replace hf := rf_if_f hf c16
              refine lv_iconst (v := rI 2) hx hb dX12_normal_186 rfl ?_
              refine lv_goto (tgt := 191) hx hb dX12_normal_187 (by decide) ?_
              exact ps_normal_191 hR B σ11 x3 z4 z9 z12 2 ix3 iz4 iz9 iz12 ⟨by decide, by decide⟩ hf _ _ _ hw (lv_sub hl [4, 7, 3, 2, 0] rfl)
          · replace hf := rf_if_f hf c15
            refine lv_aload_n hx hb dX12_normal_169 rfl (lv_at hl 4 rfl) ?_
            refine rf_get (val := .ref (rf_ad v 31)) B hw 31 (by decide) lk_79 rfl dX12_normal_170 ?_
            refine lv_iload hx hb dX12_normal_173 (lv_at hl 2 rfl) ?_
            obtain ⟨z17, ez17, iz17, rz17, hf⟩ := rf_rd_s hw hf
            refine rf_ald B hw iz9 rz17 ez17 dX12_normal_175 ?_
            refine lv_goto (tgt := 218) hx hb dX12_normal_176 (by decide) ?_
            exact ps_normal_218 hR B σ11 x3 z4 z17 ix3 iz4 iz17 hf _ _ _ hw (lv_sub hl [4, 7, 3] rfl)
        · replace hf := rf_if_f hf c14
          exact ps_normal_63 hR B σ11 x3 z4 z9 z10 z12 ix3 iz4 iz9 iz10 iz12 hf _ _ _ hw (lv_sub hl [4, 7, 3, 2, 1, 0] rfl)
    · replace hf := rf_if_f hf c8
      refine lv_iconst (v := rI 0) hx hb dX12_normal_29 rfl ?_
      exact rf_reti B hf hw dX12_normal_30
  · replace hf := rf_if_f hf c3
    refine lv_iconst (v := rI 0) hx hb dX12_normal_8 rfl ?_
    exact rf_reti B hf hw dX12_normal_9

set_option maxHeartbeats 4000000 in
set_option maxRecDepth 100000 in
theorem pm_normal {v : rfE} (hD : rf_D v) {l : Launch} {d : Nat} {rec : Nat → RS → List Int → Option (RS × Int)} (hR : rf_Rec l v d rec) (σ σ' : RS) (x1 x2 x3 r : Int) (ix1 : inR x1) (ix2 : inR x2) (ix3 : inR x3) (hf : pf_normal_0 rec σ x1 x2 x3 = some (σ', r)) : rf_Met l v yX12_normal cX12_normal 12 (some .int) (d + 1) [.ref (rf_h v), .int (rI x1), .int (rI x2), .int (rI x3)] σ σ' (some (.int (rI r))) := by
  refine Met.ofW (cc := cX12_normal) (maxL := 12) (ret := (some .int)) (by decide +kernel) rfl ?_
  intro p e s m args below meth c s₁ B hml hv
  obtain ⟨rfl, hM, hK⟩ := hv
  have hts := atoms_spec (ws := Cond.code yX12_normal cX12_normal 12 (some .int) :: rf_bw) B.pre
  have hB : rf_B v p s m _ meth c cX12_normal 12 (some .int) := ⟨B.exec, B.bytes, B.returns, hml, findClass_of_methodNamed B.named, fun w h => hts w (List.mem_cons_of_mem _ h), B.notSynchronized, hK, hD⟩
  have hl := lv_entry ([.ref (rf_h v), .int (rI x1), .int (rI x2), .int (rI x3)]) (n := 12) (Nat.le_of_ble_eq_true rfl)
  rw [lg_entry_eq]
  generalize (lg_sl ([.ref (rf_h v), .int (rI x1), .int (rI x2), .int (rI x3)]) ++ List.replicate (12 - (lg_sl ([.ref (rf_h v), .int (rI x1), .int (rI x2), .int (rI x3)])).length) Slot.unset).toArray = ls at hl ⊢
  exact ps_normal_0 hR hB σ x1 x2 x3 ix1 ix2 ix3 hf _ _ _ ⟨hM, rfl, fun _ _ => rfl, fun q h => by cases h⟩ (lv_sub hl [0, 1, 2, 3] rfl)

set_option maxHeartbeats 4000000 in
set_option maxRecDepth 100000 in
theorem ps_sameName_51 {v : rfE} {p : Program} {l : Launch} {e : Env} {s : State} {m : MethodId} {args : Array Value} {below : List Frame} {meth : Method} {c : Code} {d : Nat} {rec : Nat → RS → List Int → Option (RS × Int)} {σ' : RS} {r : Int} (hR : rf_Rec l v d rec) (B : rf_B v p s m args meth c cX12_sameName 8 (some .boolean)) (b3 : Int) (k16 : RS → Int → Int → Int → Int → Int → Option (RS × Int)) (hk16 : ∀ (σ : RS) (x1 x2 x4 x6 x7 : Int), inR x1 → inR x2 → inR x4 → inR x6 → inR x7 → k16 σ x1 x2 x4 x6 x7 = some (σ', r) → ∀ (H : Heap) (locs : List Loc) (ls : Array Slot), rf_W v s σ H locs → lv_has ls 8 [(0, .ref (rf_h v)), (3, .ref (rf_ad v (Int.toNat b3))), (1, .int (rI x1)), (2, .int (rI x2)), (4, .int (rI x4)), (6, .int (rI x6)), (7, .int (rI x7))] → W p l e (rf_rm (d + 1)) s m args below meth c H locs 0 0 (MQ below (rf_Q v σ' (some (.int (rI r)))) args s 0 0 (rf_F v)) (F0 m 16 ls [])) : ∀ (σ : RS) (x1 x2 x4 x7 t0 : Int), inR x1 → inR x2 → inR x4 → inR x7 → inR t0 → pf_sameName_51 rec b3 k16 σ x1 x2 x4 x7 t0 = some (σ', r) → ∀ (H : Heap) (locs : List Loc) (ls : Array Slot), rf_W v s σ H locs → lv_has ls 8 [(0, .ref (rf_h v)), (3, .ref (rf_ad v (Int.toNat b3))), (1, .int (rI x1)), (2, .int (rI x2)), (4, .int (rI x4)), (7, .int (rI x7))] → W p l e (rf_rm (d + 1)) s m args below meth c H locs 0 0 (MQ below (rf_Q v σ' (some (.int (rI r)))) args s 0 0 (rf_F v)) (F0 m 51 ls [.int (rI t0)]) := by
  obtain ⟨hx, hb, hr, hml, hown, hts, hlk, hK, hD⟩ := id B
  intro σ x1 x2 x4 x7 t0 ix1 ix2 ix4 ix7 it0 hf H locs ls hw hl
  unfold pf_sameName_51 at hf
  refine lv_istore (lv' := [(6, .int (rI t0)), (0, .ref (rf_h v)), (3, .ref (rf_ad v (Int.toNat b3))), (1, .int (rI x1)), (2, .int (rI x2)), (4, .int (rI x4)), (7, .int (rI x7))]) hx hb dX12_sameName_51 hl (by decide) rfl (fun ls hl => ?_)
  obtain ⟨z1, ez1, iz1, hf⟩ := rf_ck_s hf
  refine lv_iinc (v := rI z1) (lv' := [(7, .int (rI z1)), (6, .int (rI t0)), (0, .ref (rf_h v)), (3, .ref (rf_ad v (Int.toNat b3))), (1, .int (rI x1)), (2, .int (rI x2)), (4, .int (rI x4))]) hx hb dX12_sameName_53 hl (k := 6) rfl (by rw [ez1]; exact rI_add _ _) (by decide) rfl (fun ls hl => ?_)
  refine lv_goto (tgt := 16) hx hb dX12_sameName_56 (by decide) ?_
  exact hk16 σ x1 x2 x4 t0 z1 ix1 ix2 ix4 it0 iz1 hf _ _ _ hw (lv_sub hl [2, 3, 4, 5, 6, 1, 0] rfl)

set_option maxHeartbeats 4000000 in
set_option maxRecDepth 100000 in
theorem ps_sameName_16 {v : rfE} {p : Program} {l : Launch} {e : Env} {s : State} {m : MethodId} {args : Array Value} {below : List Frame} {meth : Method} {c : Code} {d : Nat} {rec : Nat → RS → List Int → Option (RS × Int)} {σ' : RS} {r : Int} (hR : rf_Rec l v d rec) (B : rf_B v p s m args meth c cX12_sameName 8 (some .boolean)) (b3 : Int) : ∀ (n : Nat) (σ : RS) (x1 x2 x4 x6 x7 : Int), inR x1 → inR x2 → inR x4 → inR x6 → inR x7 → pf_sameName_16 rec b3 n σ x1 x2 x4 x6 x7 = some (σ', r) → ∀ (H : Heap) (locs : List Loc) (ls : Array Slot), rf_W v s σ H locs → lv_has ls 8 [(0, .ref (rf_h v)), (3, .ref (rf_ad v (Int.toNat b3))), (1, .int (rI x1)), (2, .int (rI x2)), (4, .int (rI x4)), (6, .int (rI x6)), (7, .int (rI x7))] → W p l e (rf_rm (d + 1)) s m args below meth c H locs 0 0 (MQ below (rf_Q v σ' (some (.int (rI r)))) args s 0 0 (rf_F v)) (F0 m 16 ls []) := by
  obtain ⟨hx, hb, hr, hml, hown, hts, hlk, hK, hD⟩ := id B
  intro n
  induction n with
  | zero => intro σ x1 x2 x4 x6 x7 ix1 ix2 ix4 ix6 ix7 hf; cases hf
  | succ n ih =>
    intro σ x1 x2 x4 x6 x7 ix1 ix2 ix4 ix6 ix7 hf H locs ls hw hl
    unfold pf_sameName_16 at hf
    refine lv_iload hx hb dX12_sameName_16 (lv_at hl 5 rfl) ?_
    refine rn_if_eq (a := x6) (tgt := 59) hx hb ix6 dX12_sameName_18 (by decide) (fun c1 => ?_) (fun c1 => ?_)
    · replace hf := rf_if_t hf c1
      refine lv_iload hx hb dX12_sameName_59 (lv_at hl 5 rfl) ?_
      obtain ⟨h01, hf⟩ := rf_bo_s hf
      exact rf_retz B h01 hf hw dX12_sameName_61
    · replace hf := rf_if_f hf c1
      refine lv_iload hx hb dX12_sameName_21 (lv_at hl 6 rfl) ?_
      refine lv_iload_n hx hb dX12_sameName_23 rfl (lv_at hl 3 rfl) ?_
      refine rn_icmp_ge (a := x7) (b := x2) (tgt := 59) hx hb ix7 ix2 dX12_sameName_24 (by decide) (fun c2 => ?_) (fun c2 => ?_)
      · replace hf := rf_if_t hf c2
        refine lv_iload hx hb dX12_sameName_59 (lv_at hl 5 rfl) ?_
        obtain ⟨h01, hf⟩ := rf_bo_s hf
        exact rf_retz B h01 hf hw dX12_sameName_61
      · replace hf := rf_if_f hf c2
        refine lv_aload_n hx hb dX12_sameName_27 rfl (lv_at hl 0 rfl) ?_
        refine rf_get (val := .ref (rf_ad v 4)) B hw 4 (by decide) lk_37 rfl dX12_sameName_28 ?_
        refine lv_iload_n hx hb dX12_sameName_31 rfl (lv_at hl 2 rfl) ?_
        refine lv_iload hx hb dX12_sameName_32 (lv_at hl 6 rfl) ?_
        obtain ⟨z3, ez3, iz3, hf⟩ := rf_ck_s hf
        refine rn_add hx hb ez3 dX12_sameName_34 ?_
        obtain ⟨z4, ez4, iz4, rz4, hf⟩ := rf_rd_s hw hf
        refine rf_ald B hw iz3 rz4 ez4 dX12_sameName_35 ?_
        refine lv_aload_n hx hb dX12_sameName_36 rfl (lv_at hl 1 rfl) ?_
        refine lv_iload hx hb dX12_sameName_37 (lv_at hl 4 rfl) ?_
        refine lv_iload hx hb dX12_sameName_39 (lv_at hl 6 rfl) ?_
        obtain ⟨z5, ez5, iz5, hf⟩ := rf_ck_s hf
        refine rn_add hx hb ez5 dX12_sameName_41 ?_
        obtain ⟨z6, ez6, iz6, rz6, hf⟩ := rf_rd_s hw hf
        refine rf_ald B hw iz5 rz6 ez6 dX12_sameName_42 ?_
        refine rn_icmp_ne (a := z4) (b := z6) (tgt := 50) hx hb iz4 iz6 dX12_sameName_43 (by decide) (fun c7 => ?_) (fun c7 => ?_)
        · replace hf := rf_if_t hf c7
          refine lv_iconst (v := rI 0) hx hb dX12_sameName_50 rfl ?_
          exact ps_sameName_51 hR B b3 (pf_sameName_16 rec b3 n) ih σ x1 x2 x4 x7 0 ix1 ix2 ix4 ix7 ⟨by decide, by decide⟩ hf _ _ _ hw (lv_sub hl [0, 1, 2, 3, 4, 6] rfl)
        · replace hf := rf_if_f hf c7
          refine lv_iconst (v := rI 1) hx hb dX12_sameName_46 rfl ?_
          refine lv_goto (tgt := 51) hx hb dX12_sameName_47 (by decide) ?_
          exact ps_sameName_51 hR B b3 (pf_sameName_16 rec b3 n) ih σ x1 x2 x4 x7 1 ix1 ix2 ix4 ix7 ⟨by decide, by decide⟩ hf _ _ _ hw (lv_sub hl [0, 1, 2, 3, 4, 6] rfl)

set_option maxHeartbeats 4000000 in
set_option maxRecDepth 100000 in
theorem ps_sameName_11 {v : rfE} {p : Program} {l : Launch} {e : Env} {s : State} {m : MethodId} {args : Array Value} {below : List Frame} {meth : Method} {c : Code} {d : Nat} {rec : Nat → RS → List Int → Option (RS × Int)} {σ' : RS} {r : Int} (hR : rf_Rec l v d rec) (B : rf_B v p s m args meth c cX12_sameName 8 (some .boolean)) (b3 : Int) : ∀ (σ : RS) (x1 x2 x4 t0 : Int), inR x1 → inR x2 → inR x4 → inR t0 → pf_sameName_11 rec b3 σ x1 x2 x4 t0 = some (σ', r) → ∀ (H : Heap) (locs : List Loc) (ls : Array Slot), rf_W v s σ H locs → lv_has ls 8 [(0, .ref (rf_h v)), (3, .ref (rf_ad v (Int.toNat b3))), (1, .int (rI x1)), (2, .int (rI x2)), (4, .int (rI x4))] → W p l e (rf_rm (d + 1)) s m args below meth c H locs 0 0 (MQ below (rf_Q v σ' (some (.int (rI r)))) args s 0 0 (rf_F v)) (F0 m 11 ls [.int (rI t0)]) := by
  obtain ⟨hx, hb, hr, hml, hown, hts, hlk, hK, hD⟩ := id B
  intro σ x1 x2 x4 t0 ix1 ix2 ix4 it0 hf H locs ls hw hl
  unfold pf_sameName_11 at hf
  refine lv_istore (lv' := [(6, .int (rI t0)), (0, .ref (rf_h v)), (3, .ref (rf_ad v (Int.toNat b3))), (1, .int (rI x1)), (2, .int (rI x2)), (4, .int (rI x4))]) hx hb dX12_sameName_11 hl (by decide) rfl (fun ls hl => ?_)
  refine lv_iconst (v := rI 0) hx hb dX12_sameName_13 rfl ?_
  refine lv_istore (lv' := [(7, .int (rI 0)), (6, .int (rI t0)), (0, .ref (rf_h v)), (3, .ref (rf_ad v (Int.toNat b3))), (1, .int (rI x1)), (2, .int (rI x2)), (4, .int (rI x4))]) hx hb dX12_sameName_14 hl (by decide) rfl (fun ls hl => ?_)
  exact ps_sameName_16 hR B b3 200000 σ x1 x2 x4 t0 0 ix1 ix2 ix4 it0 ⟨by decide, by decide⟩ hf _ _ _ hw (lv_sub hl [2, 3, 4, 5, 6, 1, 0] rfl)

set_option maxHeartbeats 4000000 in
set_option maxRecDepth 100000 in
theorem ps_sameName_0 {v : rfE} {p : Program} {l : Launch} {e : Env} {s : State} {m : MethodId} {args : Array Value} {below : List Frame} {meth : Method} {c : Code} {d : Nat} {rec : Nat → RS → List Int → Option (RS × Int)} {σ' : RS} {r : Int} (hR : rf_Rec l v d rec) (B : rf_B v p s m args meth c cX12_sameName 8 (some .boolean)) (b3 : Int) : ∀ (σ : RS) (x1 x2 x4 x5 : Int), inR x1 → inR x2 → inR x4 → inR x5 → pf_sameName_0 rec b3 σ x1 x2 x4 x5 = some (σ', r) → ∀ (H : Heap) (locs : List Loc) (ls : Array Slot), rf_W v s σ H locs → lv_has ls 8 [(0, .ref (rf_h v)), (3, .ref (rf_ad v (Int.toNat b3))), (1, .int (rI x1)), (2, .int (rI x2)), (4, .int (rI x4)), (5, .int (rI x5))] → W p l e (rf_rm (d + 1)) s m args below meth c H locs 0 0 (MQ below (rf_Q v σ' (some (.int (rI r)))) args s 0 0 (rf_F v)) (F0 m 0 ls []) := by
  obtain ⟨hx, hb, hr, hml, hown, hts, hlk, hK, hD⟩ := id B
  intro σ x1 x2 x4 x5 ix1 ix2 ix4 ix5 hf H locs ls hw hl
  unfold pf_sameName_0 at hf
  refine lv_iload_n hx hb dX12_sameName_0 rfl (lv_at hl 3 rfl) ?_
  refine lv_iload hx hb dX12_sameName_1 (lv_at hl 5 rfl) ?_
  refine rn_icmp_ne (a := x2) (b := x5) (tgt := 10) hx hb ix2 ix5 dX12_sameName_3 (by decide) (fun c1 => ?_) (fun c1 => ?_)
  · replace hf := rf_if_t hf c1
    refine lv_iconst (v := rI 0) hx hb dX12_sameName_10 rfl ?_
    exact ps_sameName_11 hR B b3 σ x1 x2 x4 0 ix1 ix2 ix4 ⟨by decide, by decide⟩ hf _ _ _ hw (lv_sub hl [0, 1, 2, 3, 4] rfl)
  · replace hf := rf_if_f hf c1
    refine lv_iconst (v := rI 1) hx hb dX12_sameName_6 rfl ?_
    refine lv_goto (tgt := 11) hx hb dX12_sameName_7 (by decide) ?_
    exact ps_sameName_11 hR B b3 σ x1 x2 x4 1 ix1 ix2 ix4 ⟨by decide, by decide⟩ hf _ _ _ hw (lv_sub hl [0, 1, 2, 3, 4] rfl)

set_option maxHeartbeats 4000000 in
set_option maxRecDepth 100000 in
theorem pm_sameName {v : rfE} (hD : rf_D v) {l : Launch} {d : Nat} {rec : Nat → RS → List Int → Option (RS × Int)} (hR : rf_Rec l v d rec) (σ σ' : RS) (x1 x2 b3 x4 x5 r : Int) (ix1 : inR x1) (ix2 : inR x2) (ix4 : inR x4) (ix5 : inR x5) (hf : pf_sameName_0 rec b3 σ x1 x2 x4 x5 = some (σ', r)) : rf_Met l v yX12_sameName cX12_sameName 8 (some .boolean) (d + 1) [.ref (rf_h v), .int (rI x1), .int (rI x2), .ref (rf_ad v (Int.toNat b3)), .int (rI x4), .int (rI x5)] σ σ' (some (.int (rI r))) := by
  refine Met.ofW (cc := cX12_sameName) (maxL := 8) (ret := (some .boolean)) (by decide +kernel) rfl ?_
  intro p e s m args below meth c s₁ B hml hv
  obtain ⟨rfl, hM, hK⟩ := hv
  have hts := atoms_spec (ws := Cond.code yX12_sameName cX12_sameName 8 (some .boolean) :: rf_bw) B.pre
  have hB : rf_B v p s m _ meth c cX12_sameName 8 (some .boolean) := ⟨B.exec, B.bytes, B.returns, hml, findClass_of_methodNamed B.named, fun w h => hts w (List.mem_cons_of_mem _ h), B.notSynchronized, hK, hD⟩
  have hl := lv_entry ([.ref (rf_h v), .int (rI x1), .int (rI x2), .ref (rf_ad v (Int.toNat b3)), .int (rI x4), .int (rI x5)]) (n := 8) (Nat.le_of_ble_eq_true rfl)
  rw [lg_entry_eq]
  generalize (lg_sl ([.ref (rf_h v), .int (rI x1), .int (rI x2), .ref (rf_ad v (Int.toNat b3)), .int (rI x4), .int (rI x5)]) ++ List.replicate (8 - (lg_sl ([.ref (rf_h v), .int (rI x1), .int (rI x2), .ref (rf_ad v (Int.toNat b3)), .int (rI x4), .int (rI x5)])).length) Slot.unset).toArray = ls at hl ⊢
  exact ps_sameName_0 hR hB b3 σ x1 x2 x4 x5 ix1 ix2 ix4 ix5 hf _ _ _ ⟨hM, rfl, fun _ _ => rfl, fun q h => by cases h⟩ (lv_sub hl [0, 3, 1, 2, 4, 5] rfl)

set_option maxHeartbeats 4000000 in
set_option maxRecDepth 100000 in
theorem ps_sortOf_47 {v : rfE} {p : Program} {l : Launch} {e : Env} {s : State} {m : MethodId} {args : Array Value} {below : List Frame} {meth : Method} {c : Code} {d : Nat} {rec : Nat → RS → List Int → Option (RS × Int)} {σ' : RS} {r : Int} (hR : rf_Rec l v d rec) (B : rf_B v p s m args meth c cX12_sortOf 4 (some .int)) (k4 : RS → Int → Int → Int → Option (RS × Int)) (hk4 : ∀ (σ : RS) (x1 x2 x3 : Int), inR x1 → inR x2 → inR x3 → k4 σ x1 x2 x3 = some (σ', r) → ∀ (H : Heap) (locs : List Loc) (ls : Array Slot), rf_W v s σ H locs → lv_has ls 4 [(0, .ref (rf_h v)), (1, .int (rI x1)), (2, .int (rI x2)), (3, .int (rI x3))] → W p l e (rf_rm (d + 1)) s m args below meth c H locs 0 0 (MQ below (rf_Q v σ' (some (.int (rI r)))) args s 0 0 (rf_F v)) (F0 m 4 ls [])) : ∀ (σ : RS) (x1 x2 x3 : Int), inR x1 → inR x2 → inR x3 → pf_sortOf_47 rec k4 σ x1 x2 x3 = some (σ', r) → ∀ (H : Heap) (locs : List Loc) (ls : Array Slot), rf_W v s σ H locs → lv_has ls 4 [(0, .ref (rf_h v)), (1, .int (rI x1)), (2, .int (rI x2)), (3, .int (rI x3))] → W p l e (rf_rm (d + 1)) s m args below meth c H locs 0 0 (MQ below (rf_Q v σ' (some (.int (rI r)))) args s 0 0 (rf_F v)) (F0 m 47 ls []) := by
  obtain ⟨hx, hb, hr, hml, hown, hts, hlk, hK, hD⟩ := id B
  intro σ x1 x2 x3 ix1 ix2 ix3 hf H locs ls hw hl
  unfold pf_sortOf_47 at hf
  obtain ⟨z1, ez1, iz1, hf⟩ := rf_ck_s hf
  refine lv_iinc (v := rI z1) (lv' := [(3, .int (rI z1)), (0, .ref (rf_h v)), (1, .int (rI x1)), (2, .int (rI x2))]) hx hb dX12_sortOf_47 hl (k := 3) rfl (by rw [ez1]; exact rI_add _ _) (by decide) rfl (fun ls hl => ?_)
  refine lv_goto (tgt := 4) hx hb dX12_sortOf_50 (by decide) ?_
  exact hk4 σ x1 x2 z1 ix1 ix2 iz1 hf _ _ _ hw (lv_sub hl [1, 2, 3, 0] rfl)

set_option maxHeartbeats 4000000 in
set_option maxRecDepth 100000 in
theorem ps_sortOf_4 {v : rfE} {p : Program} {l : Launch} {e : Env} {s : State} {m : MethodId} {args : Array Value} {below : List Frame} {meth : Method} {c : Code} {d : Nat} {rec : Nat → RS → List Int → Option (RS × Int)} {σ' : RS} {r : Int} (hR : rf_Rec l v d rec) (B : rf_B v p s m args meth c cX12_sortOf 4 (some .int)) : ∀ (n : Nat) (σ : RS) (x1 x2 x3 : Int), inR x1 → inR x2 → inR x3 → pf_sortOf_4 rec n σ x1 x2 x3 = some (σ', r) → ∀ (H : Heap) (locs : List Loc) (ls : Array Slot), rf_W v s σ H locs → lv_has ls 4 [(0, .ref (rf_h v)), (1, .int (rI x1)), (2, .int (rI x2)), (3, .int (rI x3))] → W p l e (rf_rm (d + 1)) s m args below meth c H locs 0 0 (MQ below (rf_Q v σ' (some (.int (rI r)))) args s 0 0 (rf_F v)) (F0 m 4 ls []) := by
  obtain ⟨hx, hb, hr, hml, hown, hts, hlk, hK, hD⟩ := id B
  intro n
  induction n with
  | zero => intro σ x1 x2 x3 ix1 ix2 ix3 hf; cases hf
  | succ n ih =>
    intro σ x1 x2 x3 ix1 ix2 ix3 hf H locs ls hw hl
    unfold pf_sortOf_4 at hf
    refine lv_iload_n hx hb dX12_sortOf_4 rfl (lv_at hl 3 rfl) ?_
    refine lv_aload_n hx hb dX12_sortOf_5 rfl (lv_at hl 0 rfl) ?_
    obtain ⟨z1, ez1, iz1, hf⟩ := rf_gi_s hw hf
    refine rf_geti B hw 20 (by decide) rfl lk_160 ez1 dX12_sortOf_6 ?_
    refine rn_icmp_ge (a := x3) (b := z1) (tgt := 53) hx hb ix3 iz1 dX12_sortOf_9 (by decide) (fun c2 => ?_) (fun c2 => ?_)
    · replace hf := rf_if_t hf c2
      refine lv_iload_n hx hb dX12_sortOf_53 rfl (lv_at hl 2 rfl) ?_
      exact rf_reti B hf hw dX12_sortOf_54
    · replace hf := rf_if_f hf c2
      refine lv_aload_n hx hb dX12_sortOf_12 rfl (lv_at hl 0 rfl) ?_
      refine lv_aload_n hx hb dX12_sortOf_13 rfl (lv_at hl 0 rfl) ?_
      refine rf_get (val := .ref (rf_ad v 31)) B hw 31 (by decide) lk_79 rfl dX12_sortOf_14 ?_
      refine lv_iload_n hx hb dX12_sortOf_17 rfl (lv_at hl 1 rfl) ?_
      obtain ⟨z3, ez3, iz3, rz3, hf⟩ := rf_rd_s hw hf
      refine rf_ald B hw ix1 rz3 ez3 dX12_sortOf_18 ?_
      refine lv_aload_n hx hb dX12_sortOf_19 rfl (lv_at hl 0 rfl) ?_
      refine rf_get (val := .ref (rf_ad v 32)) B hw 32 (by decide) lk_82 rfl dX12_sortOf_20 ?_
      refine lv_iload_n hx hb dX12_sortOf_23 rfl (lv_at hl 1 rfl) ?_
      obtain ⟨z4, ez4, iz4, rz4, hf⟩ := rf_rd_s hw hf
      refine rf_ald B hw ix1 rz4 ez4 dX12_sortOf_24 ?_
      refine lv_aload_n hx hb dX12_sortOf_25 rfl (lv_at hl 0 rfl) ?_
      refine rf_get (val := .ref (rf_ad v 16)) B hw 16 (by decide) lk_44 rfl dX12_sortOf_26 ?_
      refine lv_bipush (v := rI 12) hx hb dX12_sortOf_29 (by decide +kernel) ?_
      refine lv_iload_n hx hb dX12_sortOf_31 rfl (lv_at hl 3 rfl) ?_
      obtain ⟨z5, ez5, iz5, hf⟩ := rf_ck_s hf
      refine rn_mul hx hb ez5 dX12_sortOf_32 ?_
      refine lv_aload_n hx hb dX12_sortOf_33 rfl (lv_at hl 0 rfl) ?_
      refine rf_get (val := .ref (rf_ad v 17)) B hw 17 (by decide) lk_47 rfl dX12_sortOf_34 ?_
      refine lv_iload_n hx hb dX12_sortOf_37 rfl (lv_at hl 3 rfl) ?_
      obtain ⟨z6, ez6, iz6, rz6, hf⟩ := rf_rd_s hw hf
      refine rf_ald B hw ix3 rz6 ez6 dX12_sortOf_38 ?_
      obtain ⟨σ7, z8, hσ7, hf⟩ := rf_cl_s hf
      obtain ⟨iz8, mσ7⟩ := hR 42 σ [z3, z4, 16, z5, z6] σ7 z8 hσ7
      have mσ7 : rf_Met l v yX12_sameName cX12_sameName 8 (some .boolean) d [.ref (rf_h v), .int (rI z3), .int (rI z4), .ref (rf_ad v 16), .int (rI z5), .int (rI z6)] σ σ7 (some (.int (rI z8))) := mσ7 iz3 iz4 iz5 iz6
      refine rf_cv (n := 5) (rest := []) (As := [.int (rI z3), .int (rI z4), .ref (rf_ad v 16), .int (rI z5), .int (rI z6)]) B mσ7 g_399_sameName (by decide +kernel) (by decide) rfl hl.1 (Nat.le_of_ble_eq_true rfl) dX12_sortOf_39 rfl hw (fun H locs hw => ?_)
      refine rn_if_eq (a := z8) (tgt := 47) hx hb iz8 dX12_sortOf_42 (by decide) (fun c9 => ?_) (fun c9 => ?_)
      · replace hf := rf_if_t hf c9
        exact ps_sortOf_47 hR B (pf_sortOf_4 rec n) ih σ7 x1 x2 x3 ix1 ix2 ix3 hf _ _ _ hw (lv_sub hl [0, 1, 2, 3] rfl)
      · replace hf := rf_if_f hf c9
        refine lv_iload_n hx hb dX12_sortOf_45 rfl (lv_at hl 3 rfl) ?_
        refine lv_istore_n (lv' := [(2, .int (rI x3)), (0, .ref (rf_h v)), (1, .int (rI x1)), (3, .int (rI x3))]) hx hb dX12_sortOf_46 rfl hl (by decide) rfl (fun ls hl => ?_)
        exact ps_sortOf_47 hR B (pf_sortOf_4 rec n) ih σ7 x1 x3 x3 ix1 ix3 ix3 hf _ _ _ hw (lv_sub hl [1, 2, 0, 3] rfl)

set_option maxHeartbeats 4000000 in
set_option maxRecDepth 100000 in
theorem ps_sortOf_0 {v : rfE} {p : Program} {l : Launch} {e : Env} {s : State} {m : MethodId} {args : Array Value} {below : List Frame} {meth : Method} {c : Code} {d : Nat} {rec : Nat → RS → List Int → Option (RS × Int)} {σ' : RS} {r : Int} (hR : rf_Rec l v d rec) (B : rf_B v p s m args meth c cX12_sortOf 4 (some .int)) : ∀ (σ : RS) (x1 : Int), inR x1 → pf_sortOf_0 rec σ x1 = some (σ', r) → ∀ (H : Heap) (locs : List Loc) (ls : Array Slot), rf_W v s σ H locs → lv_has ls 4 [(0, .ref (rf_h v)), (1, .int (rI x1))] → W p l e (rf_rm (d + 1)) s m args below meth c H locs 0 0 (MQ below (rf_Q v σ' (some (.int (rI r)))) args s 0 0 (rf_F v)) (F0 m 0 ls []) := by
  obtain ⟨hx, hb, hr, hml, hown, hts, hlk, hK, hD⟩ := id B
  intro σ x1 ix1 hf H locs ls hw hl
  unfold pf_sortOf_0 at hf
  refine lv_iconst (v := rI (-1)) hx hb dX12_sortOf_0 rfl ?_
  refine lv_istore_n (lv' := [(2, .int (rI (-1))), (0, .ref (rf_h v)), (1, .int (rI x1))]) hx hb dX12_sortOf_1 rfl hl (by decide) rfl (fun ls hl => ?_)
  refine lv_iconst (v := rI 0) hx hb dX12_sortOf_2 rfl ?_
  refine lv_istore_n (lv' := [(3, .int (rI 0)), (2, .int (rI (-1))), (0, .ref (rf_h v)), (1, .int (rI x1))]) hx hb dX12_sortOf_3 rfl hl (by decide) rfl (fun ls hl => ?_)
  exact ps_sortOf_4 hR B 200000 σ x1 (-1) 0 ix1 ⟨by decide, by decide⟩ ⟨by decide, by decide⟩ hf _ _ _ hw (lv_sub hl [2, 3, 1, 0] rfl)

set_option maxHeartbeats 4000000 in
set_option maxRecDepth 100000 in
theorem pm_sortOf {v : rfE} (hD : rf_D v) {l : Launch} {d : Nat} {rec : Nat → RS → List Int → Option (RS × Int)} (hR : rf_Rec l v d rec) (σ σ' : RS) (x1 r : Int) (ix1 : inR x1) (hf : pf_sortOf_0 rec σ x1 = some (σ', r)) : rf_Met l v yX12_sortOf cX12_sortOf 4 (some .int) (d + 1) [.ref (rf_h v), .int (rI x1)] σ σ' (some (.int (rI r))) := by
  refine Met.ofW (cc := cX12_sortOf) (maxL := 4) (ret := (some .int)) (by decide +kernel) rfl ?_
  intro p e s m args below meth c s₁ B hml hv
  obtain ⟨rfl, hM, hK⟩ := hv
  have hts := atoms_spec (ws := Cond.code yX12_sortOf cX12_sortOf 4 (some .int) :: rf_bw) B.pre
  have hB : rf_B v p s m _ meth c cX12_sortOf 4 (some .int) := ⟨B.exec, B.bytes, B.returns, hml, findClass_of_methodNamed B.named, fun w h => hts w (List.mem_cons_of_mem _ h), B.notSynchronized, hK, hD⟩
  have hl := lv_entry ([.ref (rf_h v), .int (rI x1)]) (n := 4) (Nat.le_of_ble_eq_true rfl)
  rw [lg_entry_eq]
  generalize (lg_sl ([.ref (rf_h v), .int (rI x1)]) ++ List.replicate (4 - (lg_sl ([.ref (rf_h v), .int (rI x1)])).length) Slot.unset).toArray = ls at hl ⊢
  exact ps_sortOf_0 hR hB σ x1 ix1 hf _ _ _ ⟨hM, rfl, fun _ _ => rfl, fun q h => by cases h⟩ (lv_sub hl [0, 1] rfl)

set_option maxHeartbeats 4000000 in
set_option maxRecDepth 100000 in
theorem ps_knownOf_47 {v : rfE} {p : Program} {l : Launch} {e : Env} {s : State} {m : MethodId} {args : Array Value} {below : List Frame} {meth : Method} {c : Code} {d : Nat} {rec : Nat → RS → List Int → Option (RS × Int)} {σ' : RS} {r : Int} (hR : rf_Rec l v d rec) (B : rf_B v p s m args meth c cX12_knownOf 4 (some .int)) (k4 : RS → Int → Int → Int → Option (RS × Int)) (hk4 : ∀ (σ : RS) (x1 x2 x3 : Int), inR x1 → inR x2 → inR x3 → k4 σ x1 x2 x3 = some (σ', r) → ∀ (H : Heap) (locs : List Loc) (ls : Array Slot), rf_W v s σ H locs → lv_has ls 4 [(0, .ref (rf_h v)), (1, .int (rI x1)), (2, .int (rI x2)), (3, .int (rI x3))] → W p l e (rf_rm (d + 1)) s m args below meth c H locs 0 0 (MQ below (rf_Q v σ' (some (.int (rI r)))) args s 0 0 (rf_F v)) (F0 m 4 ls [])) : ∀ (σ : RS) (x1 x2 x3 : Int), inR x1 → inR x2 → inR x3 → pf_knownOf_47 rec k4 σ x1 x2 x3 = some (σ', r) → ∀ (H : Heap) (locs : List Loc) (ls : Array Slot), rf_W v s σ H locs → lv_has ls 4 [(0, .ref (rf_h v)), (1, .int (rI x1)), (2, .int (rI x2)), (3, .int (rI x3))] → W p l e (rf_rm (d + 1)) s m args below meth c H locs 0 0 (MQ below (rf_Q v σ' (some (.int (rI r)))) args s 0 0 (rf_F v)) (F0 m 47 ls []) := by
  obtain ⟨hx, hb, hr, hml, hown, hts, hlk, hK, hD⟩ := id B
  intro σ x1 x2 x3 ix1 ix2 ix3 hf H locs ls hw hl
  unfold pf_knownOf_47 at hf
  obtain ⟨z1, ez1, iz1, hf⟩ := rf_ck_s hf
  refine lv_iinc (v := rI z1) (lv' := [(3, .int (rI z1)), (0, .ref (rf_h v)), (1, .int (rI x1)), (2, .int (rI x2))]) hx hb dX12_knownOf_47 hl (k := 3) rfl (by rw [ez1]; exact rI_add _ _) (by decide) rfl (fun ls hl => ?_)
  refine lv_goto (tgt := 4) hx hb dX12_knownOf_50 (by decide) ?_
  exact hk4 σ x1 x2 z1 ix1 ix2 iz1 hf _ _ _ hw (lv_sub hl [1, 2, 3, 0] rfl)

set_option maxHeartbeats 4000000 in
set_option maxRecDepth 100000 in
theorem ps_knownOf_4 {v : rfE} {p : Program} {l : Launch} {e : Env} {s : State} {m : MethodId} {args : Array Value} {below : List Frame} {meth : Method} {c : Code} {d : Nat} {rec : Nat → RS → List Int → Option (RS × Int)} {σ' : RS} {r : Int} (hR : rf_Rec l v d rec) (B : rf_B v p s m args meth c cX12_knownOf 4 (some .int)) : ∀ (n : Nat) (σ : RS) (x1 x2 x3 : Int), inR x1 → inR x2 → inR x3 → pf_knownOf_4 rec n σ x1 x2 x3 = some (σ', r) → ∀ (H : Heap) (locs : List Loc) (ls : Array Slot), rf_W v s σ H locs → lv_has ls 4 [(0, .ref (rf_h v)), (1, .int (rI x1)), (2, .int (rI x2)), (3, .int (rI x3))] → W p l e (rf_rm (d + 1)) s m args below meth c H locs 0 0 (MQ below (rf_Q v σ' (some (.int (rI r)))) args s 0 0 (rf_F v)) (F0 m 4 ls []) := by
  obtain ⟨hx, hb, hr, hml, hown, hts, hlk, hK, hD⟩ := id B
  intro n
  induction n with
  | zero => intro σ x1 x2 x3 ix1 ix2 ix3 hf; cases hf
  | succ n ih =>
    intro σ x1 x2 x3 ix1 ix2 ix3 hf H locs ls hw hl
    unfold pf_knownOf_4 at hf
    refine lv_iload_n hx hb dX12_knownOf_4 rfl (lv_at hl 3 rfl) ?_
    refine lv_aload_n hx hb dX12_knownOf_5 rfl (lv_at hl 0 rfl) ?_
    obtain ⟨z1, ez1, iz1, hf⟩ := rf_gi_s hw hf
    refine rf_geti B hw 27 (by decide) rfl lk_167 ez1 dX12_knownOf_6 ?_
    refine rn_icmp_ge (a := x3) (b := z1) (tgt := 53) hx hb ix3 iz1 dX12_knownOf_9 (by decide) (fun c2 => ?_) (fun c2 => ?_)
    · replace hf := rf_if_t hf c2
      refine lv_iload_n hx hb dX12_knownOf_53 rfl (lv_at hl 2 rfl) ?_
      exact rf_reti B hf hw dX12_knownOf_54
    · replace hf := rf_if_f hf c2
      refine lv_aload_n hx hb dX12_knownOf_12 rfl (lv_at hl 0 rfl) ?_
      refine lv_aload_n hx hb dX12_knownOf_13 rfl (lv_at hl 0 rfl) ?_
      refine rf_get (val := .ref (rf_ad v 31)) B hw 31 (by decide) lk_79 rfl dX12_knownOf_14 ?_
      refine lv_iload_n hx hb dX12_knownOf_17 rfl (lv_at hl 1 rfl) ?_
      obtain ⟨z3, ez3, iz3, rz3, hf⟩ := rf_rd_s hw hf
      refine rf_ald B hw ix1 rz3 ez3 dX12_knownOf_18 ?_
      refine lv_aload_n hx hb dX12_knownOf_19 rfl (lv_at hl 0 rfl) ?_
      refine rf_get (val := .ref (rf_ad v 32)) B hw 32 (by decide) lk_82 rfl dX12_knownOf_20 ?_
      refine lv_iload_n hx hb dX12_knownOf_23 rfl (lv_at hl 1 rfl) ?_
      obtain ⟨z4, ez4, iz4, rz4, hf⟩ := rf_rd_s hw hf
      refine rf_ald B hw ix1 rz4 ez4 dX12_knownOf_24 ?_
      refine lv_aload_n hx hb dX12_knownOf_25 rfl (lv_at hl 0 rfl) ?_
      refine rf_get (val := .ref (rf_ad v 21)) B hw 21 (by decide) lk_54 rfl dX12_knownOf_26 ?_
      refine lv_bipush (v := rI 12) hx hb dX12_knownOf_29 (by decide +kernel) ?_
      refine lv_iload_n hx hb dX12_knownOf_31 rfl (lv_at hl 3 rfl) ?_
      obtain ⟨z5, ez5, iz5, hf⟩ := rf_ck_s hf
      refine rn_mul hx hb ez5 dX12_knownOf_32 ?_
      refine lv_aload_n hx hb dX12_knownOf_33 rfl (lv_at hl 0 rfl) ?_
      refine rf_get (val := .ref (rf_ad v 22)) B hw 22 (by decide) lk_57 rfl dX12_knownOf_34 ?_
      refine lv_iload_n hx hb dX12_knownOf_37 rfl (lv_at hl 3 rfl) ?_
      obtain ⟨z6, ez6, iz6, rz6, hf⟩ := rf_rd_s hw hf
      refine rf_ald B hw ix3 rz6 ez6 dX12_knownOf_38 ?_
      obtain ⟨σ7, z8, hσ7, hf⟩ := rf_cl_s hf
      obtain ⟨iz8, mσ7⟩ := hR 42 σ [z3, z4, 21, z5, z6] σ7 z8 hσ7
      have mσ7 : rf_Met l v yX12_sameName cX12_sameName 8 (some .boolean) d [.ref (rf_h v), .int (rI z3), .int (rI z4), .ref (rf_ad v 21), .int (rI z5), .int (rI z6)] σ σ7 (some (.int (rI z8))) := mσ7 iz3 iz4 iz5 iz6
      refine rf_cv (n := 5) (rest := []) (As := [.int (rI z3), .int (rI z4), .ref (rf_ad v 21), .int (rI z5), .int (rI z6)]) B mσ7 g_399_sameName (by decide +kernel) (by decide) rfl hl.1 (Nat.le_of_ble_eq_true rfl) dX12_knownOf_39 rfl hw (fun H locs hw => ?_)
      refine rn_if_eq (a := z8) (tgt := 47) hx hb iz8 dX12_knownOf_42 (by decide) (fun c9 => ?_) (fun c9 => ?_)
      · replace hf := rf_if_t hf c9
        exact ps_knownOf_47 hR B (pf_knownOf_4 rec n) ih σ7 x1 x2 x3 ix1 ix2 ix3 hf _ _ _ hw (lv_sub hl [0, 1, 2, 3] rfl)
      · replace hf := rf_if_f hf c9
        refine lv_iload_n hx hb dX12_knownOf_45 rfl (lv_at hl 3 rfl) ?_
        refine lv_istore_n (lv' := [(2, .int (rI x3)), (0, .ref (rf_h v)), (1, .int (rI x1)), (3, .int (rI x3))]) hx hb dX12_knownOf_46 rfl hl (by decide) rfl (fun ls hl => ?_)
        exact ps_knownOf_47 hR B (pf_knownOf_4 rec n) ih σ7 x1 x3 x3 ix1 ix3 ix3 hf _ _ _ hw (lv_sub hl [1, 2, 0, 3] rfl)

set_option maxHeartbeats 4000000 in
set_option maxRecDepth 100000 in
theorem ps_knownOf_0 {v : rfE} {p : Program} {l : Launch} {e : Env} {s : State} {m : MethodId} {args : Array Value} {below : List Frame} {meth : Method} {c : Code} {d : Nat} {rec : Nat → RS → List Int → Option (RS × Int)} {σ' : RS} {r : Int} (hR : rf_Rec l v d rec) (B : rf_B v p s m args meth c cX12_knownOf 4 (some .int)) : ∀ (σ : RS) (x1 : Int), inR x1 → pf_knownOf_0 rec σ x1 = some (σ', r) → ∀ (H : Heap) (locs : List Loc) (ls : Array Slot), rf_W v s σ H locs → lv_has ls 4 [(0, .ref (rf_h v)), (1, .int (rI x1))] → W p l e (rf_rm (d + 1)) s m args below meth c H locs 0 0 (MQ below (rf_Q v σ' (some (.int (rI r)))) args s 0 0 (rf_F v)) (F0 m 0 ls []) := by
  obtain ⟨hx, hb, hr, hml, hown, hts, hlk, hK, hD⟩ := id B
  intro σ x1 ix1 hf H locs ls hw hl
  unfold pf_knownOf_0 at hf
  refine lv_iconst (v := rI (-1)) hx hb dX12_knownOf_0 rfl ?_
  refine lv_istore_n (lv' := [(2, .int (rI (-1))), (0, .ref (rf_h v)), (1, .int (rI x1))]) hx hb dX12_knownOf_1 rfl hl (by decide) rfl (fun ls hl => ?_)
  refine lv_iconst (v := rI 0) hx hb dX12_knownOf_2 rfl ?_
  refine lv_istore_n (lv' := [(3, .int (rI 0)), (2, .int (rI (-1))), (0, .ref (rf_h v)), (1, .int (rI x1))]) hx hb dX12_knownOf_3 rfl hl (by decide) rfl (fun ls hl => ?_)
  exact ps_knownOf_4 hR B 200000 σ x1 (-1) 0 ix1 ⟨by decide, by decide⟩ ⟨by decide, by decide⟩ hf _ _ _ hw (lv_sub hl [2, 3, 1, 0] rfl)

set_option maxHeartbeats 4000000 in
set_option maxRecDepth 100000 in
theorem pm_knownOf {v : rfE} (hD : rf_D v) {l : Launch} {d : Nat} {rec : Nat → RS → List Int → Option (RS × Int)} (hR : rf_Rec l v d rec) (σ σ' : RS) (x1 r : Int) (ix1 : inR x1) (hf : pf_knownOf_0 rec σ x1 = some (σ', r)) : rf_Met l v yX12_knownOf cX12_knownOf 4 (some .int) (d + 1) [.ref (rf_h v), .int (rI x1)] σ σ' (some (.int (rI r))) := by
  refine Met.ofW (cc := cX12_knownOf) (maxL := 4) (ret := (some .int)) (by decide +kernel) rfl ?_
  intro p e s m args below meth c s₁ B hml hv
  obtain ⟨rfl, hM, hK⟩ := hv
  have hts := atoms_spec (ws := Cond.code yX12_knownOf cX12_knownOf 4 (some .int) :: rf_bw) B.pre
  have hB : rf_B v p s m _ meth c cX12_knownOf 4 (some .int) := ⟨B.exec, B.bytes, B.returns, hml, findClass_of_methodNamed B.named, fun w h => hts w (List.mem_cons_of_mem _ h), B.notSynchronized, hK, hD⟩
  have hl := lv_entry ([.ref (rf_h v), .int (rI x1)]) (n := 4) (Nat.le_of_ble_eq_true rfl)
  rw [lg_entry_eq]
  generalize (lg_sl ([.ref (rf_h v), .int (rI x1)]) ++ List.replicate (4 - (lg_sl ([.ref (rf_h v), .int (rI x1)])).length) Slot.unset).toArray = ls at hl ⊢
  exact ps_knownOf_0 hR hB σ x1 ix1 hf _ _ _ ⟨hM, rfl, fun _ _ => rfl, fun q h => by cases h⟩ (lv_sub hl [0, 1] rfl)

set_option maxHeartbeats 4000000 in
set_option maxRecDepth 100000 in
theorem ps_becomes_0 {v : rfE} {p : Program} {l : Launch} {e : Env} {s : State} {m : MethodId} {args : Array Value} {below : List Frame} {meth : Method} {c : Code} {d : Nat} {rec : Nat → RS → List Int → Option (RS × Int)} {σ' : RS} {r : Int} (hR : rf_Rec l v d rec) (B : rf_B v p s m args meth c cX12_becomes 3 none) : ∀ (σ : RS) (x1 x2 : Int), inR x1 → inR x2 → pf_becomes_0 rec σ x1 x2 = some (σ', r) → ∀ (H : Heap) (locs : List Loc) (ls : Array Slot), rf_W v s σ H locs → lv_has ls 3 [(0, .ref (rf_h v)), (1, .int (rI x1)), (2, .int (rI x2))] → W p l e (rf_rm (d + 1)) s m args below meth c H locs 0 0 (MQ below (rf_Q v σ' none) args s 0 0 (rf_F v)) (F0 m 0 ls []) := by
  obtain ⟨hx, hb, hr, hml, hown, hts, hlk, hK, hD⟩ := id B
  intro σ x1 x2 ix1 ix2 hf H locs ls hw hl
  unfold pf_becomes_0 at hf
  refine lv_aload_n hx hb dX12_becomes_0 rfl (lv_at hl 0 rfl) ?_
  refine lv_iload_n hx hb dX12_becomes_1 rfl (lv_at hl 1 rfl) ?_
  obtain ⟨σ1, eσ1, hf⟩ := rf_pi_s hf
  refine rf_put B hw 60 (by decide) rfl rfl lk_403 ix1 eσ1 rfl rfl dX12_becomes_2 (fun H locs hw => ?_)
  refine lv_aload_n hx hb dX12_becomes_5 rfl (lv_at hl 0 rfl) ?_
  refine lv_iload_n hx hb dX12_becomes_6 rfl (lv_at hl 2 rfl) ?_
  obtain ⟨σ2, eσ2, hf⟩ := rf_pi_s hf
  refine rf_put B hw 61 (by decide) rfl rfl lk_406 ix2 eσ2 rfl rfl dX12_becomes_7 (fun H locs hw => ?_)
  exact rf_retv B hf hw dX12_becomes_10

set_option maxHeartbeats 4000000 in
set_option maxRecDepth 100000 in
theorem pm_becomes {v : rfE} (hD : rf_D v) {l : Launch} {d : Nat} {rec : Nat → RS → List Int → Option (RS × Int)} (hR : rf_Rec l v d rec) (σ σ' : RS) (x1 x2 r : Int) (ix1 : inR x1) (ix2 : inR x2) (hf : pf_becomes_0 rec σ x1 x2 = some (σ', r)) : rf_Met l v yX12_becomes cX12_becomes 3 none (d + 1) [.ref (rf_h v), .int (rI x1), .int (rI x2)] σ σ' none := by
  refine Met.ofW (cc := cX12_becomes) (maxL := 3) (ret := none) (by decide +kernel) rfl ?_
  intro p e s m args below meth c s₁ B hml hv
  obtain ⟨rfl, hM, hK⟩ := hv
  have hts := atoms_spec (ws := Cond.code yX12_becomes cX12_becomes 3 none :: rf_bw) B.pre
  have hB : rf_B v p s m _ meth c cX12_becomes 3 none := ⟨B.exec, B.bytes, B.returns, hml, findClass_of_methodNamed B.named, fun w h => hts w (List.mem_cons_of_mem _ h), B.notSynchronized, hK, hD⟩
  have hl := lv_entry ([.ref (rf_h v), .int (rI x1), .int (rI x2)]) (n := 3) (Nat.le_of_ble_eq_true rfl)
  rw [lg_entry_eq]
  generalize (lg_sl ([.ref (rf_h v), .int (rI x1), .int (rI x2)]) ++ List.replicate (3 - (lg_sl ([.ref (rf_h v), .int (rI x1), .int (rI x2)])).length) Slot.unset).toArray = ls at hl ⊢
  exact ps_becomes_0 hR hB σ x1 x2 ix1 ix2 hf _ _ _ ⟨hM, rfl, fun _ _ => rfl, fun q h => by cases h⟩ (lv_sub hl [0, 1, 2] rfl)

set_option maxHeartbeats 4000000 in
set_option maxRecDepth 100000 in
theorem ps_judgeName_104 {v : rfE} {p : Program} {l : Launch} {e : Env} {s : State} {m : MethodId} {args : Array Value} {below : List Frame} {meth : Method} {c : Code} {d : Nat} {rec : Nat → RS → List Int → Option (RS × Int)} {σ' : RS} {r : Int} (hR : rf_Rec l v d rec) (B : rf_B v p s m args meth c cX12_judgeName 7 none) (k4 : RS → Int → Int → Int → Option (RS × Int)) (k51 : RS → Int → Int → Int → Int → Int → Int → Option (RS × Int)) (hk4 : ∀ (σ : RS) (x1 x2 x3 : Int), inR x1 → inR x2 → inR x3 → k4 σ x1 x2 x3 = some (σ', r) → ∀ (H : Heap) (locs : List Loc) (ls : Array Slot), rf_W v s σ H locs → lv_has ls 7 [(0, .ref (rf_h v)), (1, .int (rI x1)), (2, .int (rI x2)), (3, .int (rI x3))] → W p l e (rf_rm (d + 1)) s m args below meth c H locs 0 0 (MQ below (rf_Q v σ' none) args s 0 0 (rf_F v)) (F0 m 4 ls [])) (hk51 : ∀ (σ : RS) (x1 x2 x3 x4 x5 x6 : Int), inR x1 → inR x2 → inR x3 → inR x4 → inR x5 → inR x6 → k51 σ x1 x2 x3 x4 x5 x6 = some (σ', r) → ∀ (H : Heap) (locs : List Loc) (ls : Array Slot), rf_W v s σ H locs → lv_has ls 7 [(0, .ref (rf_h v)), (1, .int (rI x1)), (2, .int (rI x2)), (3, .int (rI x3)), (4, .int (rI x4)), (5, .int (rI x5)), (6, .int (rI x6))] → W p l e (rf_rm (d + 1)) s m args below meth c H locs 0 0 (MQ below (rf_Q v σ' none) args s 0 0 (rf_F v)) (F0 m 51 ls [])) : ∀ (σ : RS) (x1 x2 x3 x4 x6 t0 : Int), inR x1 → inR x2 → inR x3 → inR x4 → inR x6 → inR t0 → pf_judgeName_104 rec k4 k51 σ x1 x2 x3 x4 x6 t0 = some (σ', r) → ∀ (H : Heap) (locs : List Loc) (ls : Array Slot), rf_W v s σ H locs → lv_has ls 7 [(0, .ref (rf_h v)), (1, .int (rI x1)), (2, .int (rI x2)), (3, .int (rI x3)), (4, .int (rI x4)), (6, .int (rI x6))] → W p l e (rf_rm (d + 1)) s m args below meth c H locs 0 0 (MQ below (rf_Q v σ' none) args s 0 0 (rf_F v)) (F0 m 104 ls [.int (rI t0)]) := by
  obtain ⟨hx, hb, hr, hml, hown, hts, hlk, hK, hD⟩ := id B
  intro σ x1 x2 x3 x4 x6 t0 ix1 ix2 ix3 ix4 ix6 it0 hf H locs ls hw hl
  unfold pf_judgeName_104 at hf
  refine lv_istore (lv' := [(5, .int (rI t0)), (0, .ref (rf_h v)), (1, .int (rI x1)), (2, .int (rI x2)), (3, .int (rI x3)), (4, .int (rI x4)), (6, .int (rI x6))]) hx hb dX12_judgeName_104 hl (by decide) rfl (fun ls hl => ?_)
  obtain ⟨z1, ez1, iz1, hf⟩ := rf_ck_s hf
  refine lv_iinc (v := rI z1) (lv' := [(6, .int (rI z1)), (5, .int (rI t0)), (0, .ref (rf_h v)), (1, .int (rI x1)), (2, .int (rI x2)), (3, .int (rI x3)), (4, .int (rI x4))]) hx hb dX12_judgeName_106 hl (k := 6) rfl (by rw [ez1]; exact rI_add _ _) (by decide) rfl (fun ls hl => ?_)
  refine lv_goto (tgt := 51) hx hb dX12_judgeName_109 (by decide) ?_
  exact hk51 σ x1 x2 x3 x4 t0 z1 ix1 ix2 ix3 ix4 it0 iz1 hf _ _ _ hw (lv_sub hl [2, 3, 4, 5, 6, 1, 0] rfl)

set_option maxHeartbeats 4000000 in
set_option maxRecDepth 100000 in
theorem ps_judgeName_124 {v : rfE} {p : Program} {l : Launch} {e : Env} {s : State} {m : MethodId} {args : Array Value} {below : List Frame} {meth : Method} {c : Code} {d : Nat} {rec : Nat → RS → List Int → Option (RS × Int)} {σ' : RS} {r : Int} (hR : rf_Rec l v d rec) (B : rf_B v p s m args meth c cX12_judgeName 7 none) (k4 : RS → Int → Int → Int → Option (RS × Int)) (hk4 : ∀ (σ : RS) (x1 x2 x3 : Int), inR x1 → inR x2 → inR x3 → k4 σ x1 x2 x3 = some (σ', r) → ∀ (H : Heap) (locs : List Loc) (ls : Array Slot), rf_W v s σ H locs → lv_has ls 7 [(0, .ref (rf_h v)), (1, .int (rI x1)), (2, .int (rI x2)), (3, .int (rI x3))] → W p l e (rf_rm (d + 1)) s m args below meth c H locs 0 0 (MQ below (rf_Q v σ' none) args s 0 0 (rf_F v)) (F0 m 4 ls [])) : ∀ (σ : RS) (x1 x2 x3 : Int), inR x1 → inR x2 → inR x3 → pf_judgeName_124 rec k4 σ x1 x2 x3 = some (σ', r) → ∀ (H : Heap) (locs : List Loc) (ls : Array Slot), rf_W v s σ H locs → lv_has ls 7 [(0, .ref (rf_h v)), (1, .int (rI x1)), (2, .int (rI x2)), (3, .int (rI x3))] → W p l e (rf_rm (d + 1)) s m args below meth c H locs 0 0 (MQ below (rf_Q v σ' none) args s 0 0 (rf_F v)) (F0 m 124 ls []) := by
  obtain ⟨hx, hb, hr, hml, hown, hts, hlk, hK, hD⟩ := id B
  intro σ x1 x2 x3 ix1 ix2 ix3 hf H locs ls hw hl
  unfold pf_judgeName_124 at hf
  obtain ⟨z1, ez1, iz1, hf⟩ := rf_ck_s hf
  refine lv_iinc (v := rI z1) (lv' := [(3, .int (rI z1)), (0, .ref (rf_h v)), (1, .int (rI x1)), (2, .int (rI x2))]) hx hb dX12_judgeName_124 hl (k := 3) rfl (by rw [ez1]; exact rI_add _ _) (by decide) rfl (fun ls hl => ?_)
  refine lv_goto (tgt := 4) hx hb dX12_judgeName_127 (by decide) ?_
  exact hk4 σ x1 x2 z1 ix1 ix2 iz1 hf _ _ _ hw (lv_sub hl [1, 2, 3, 0] rfl)

set_option maxHeartbeats 4000000 in
set_option maxRecDepth 100000 in
theorem ps_judgeName_112 {v : rfE} {p : Program} {l : Launch} {e : Env} {s : State} {m : MethodId} {args : Array Value} {below : List Frame} {meth : Method} {c : Code} {d : Nat} {rec : Nat → RS → List Int → Option (RS × Int)} {σ' : RS} {r : Int} (hR : rf_Rec l v d rec) (B : rf_B v p s m args meth c cX12_judgeName 7 none) (k4 : RS → Int → Int → Int → Option (RS × Int)) (hk4 : ∀ (σ : RS) (x1 x2 x3 : Int), inR x1 → inR x2 → inR x3 → k4 σ x1 x2 x3 = some (σ', r) → ∀ (H : Heap) (locs : List Loc) (ls : Array Slot), rf_W v s σ H locs → lv_has ls 7 [(0, .ref (rf_h v)), (1, .int (rI x1)), (2, .int (rI x2)), (3, .int (rI x3))] → W p l e (rf_rm (d + 1)) s m args below meth c H locs 0 0 (MQ below (rf_Q v σ' none) args s 0 0 (rf_F v)) (F0 m 4 ls [])) : ∀ (σ : RS) (x1 x2 x3 x5 : Int), inR x1 → inR x2 → inR x3 → inR x5 → pf_judgeName_112 rec k4 σ x1 x2 x3 x5 = some (σ', r) → ∀ (H : Heap) (locs : List Loc) (ls : Array Slot), rf_W v s σ H locs → lv_has ls 7 [(0, .ref (rf_h v)), (1, .int (rI x1)), (2, .int (rI x2)), (3, .int (rI x3)), (5, .int (rI x5))] → W p l e (rf_rm (d + 1)) s m args below meth c H locs 0 0 (MQ below (rf_Q v σ' none) args s 0 0 (rf_F v)) (F0 m 112 ls []) := by
  obtain ⟨hx, hb, hr, hml, hown, hts, hlk, hK, hD⟩ := id B
  intro σ x1 x2 x3 x5 ix1 ix2 ix3 ix5 hf H locs ls hw hl
  unfold pf_judgeName_112 at hf
  refine lv_iload hx hb dX12_judgeName_112 (lv_at hl 4 rfl) ?_
  refine rn_if_eq (a := x5) (tgt := 124) hx hb ix5 dX12_judgeName_114 (by decide) (fun c1 => ?_) (fun c1 => ?_)
  · replace hf := rf_if_t hf c1
    exact ps_judgeName_124 hR B k4 hk4 σ x1 x2 x3 ix1 ix2 ix3 hf _ _ _ hw (lv_sub hl [0, 1, 2, 3] rfl)
  · replace hf := rf_if_f hf c1
    refine lv_aload_n hx hb dX12_judgeName_117 rfl (lv_at hl 0 rfl) ?_
    refine rf_get (val := .ref (rf_ad v 42)) B hw 42 (by decide) lk_109 rfl dX12_judgeName_118 ?_
    refine lv_iload_n hx hb dX12_judgeName_121 rfl (lv_at hl 3 rfl) ?_
    obtain ⟨z2, ez2, iz2, rz2, hf⟩ := rf_rd_s hw hf
    refine rf_ald B hw ix3 rz2 ez2 dX12_judgeName_122 ?_
    refine lv_istore_n (lv' := [(2, .int (rI z2)), (0, .ref (rf_h v)), (1, .int (rI x1)), (3, .int (rI x3)), (5, .int (rI x5))]) hx hb dX12_judgeName_123 rfl hl (by decide) rfl (fun ls hl => ?_)
    exact ps_judgeName_124 hR B k4 hk4 σ x1 z2 x3 ix1 iz2 ix3 hf _ _ _ hw (lv_sub hl [1, 2, 0, 3] rfl)

set_option maxHeartbeats 4000000 in
set_option maxRecDepth 100000 in
theorem ps_judgeName_51 {v : rfE} {p : Program} {l : Launch} {e : Env} {s : State} {m : MethodId} {args : Array Value} {below : List Frame} {meth : Method} {c : Code} {d : Nat} {rec : Nat → RS → List Int → Option (RS × Int)} {σ' : RS} {r : Int} (hR : rf_Rec l v d rec) (B : rf_B v p s m args meth c cX12_judgeName 7 none) (k4 : RS → Int → Int → Int → Option (RS × Int)) (hk4 : ∀ (σ : RS) (x1 x2 x3 : Int), inR x1 → inR x2 → inR x3 → k4 σ x1 x2 x3 = some (σ', r) → ∀ (H : Heap) (locs : List Loc) (ls : Array Slot), rf_W v s σ H locs → lv_has ls 7 [(0, .ref (rf_h v)), (1, .int (rI x1)), (2, .int (rI x2)), (3, .int (rI x3))] → W p l e (rf_rm (d + 1)) s m args below meth c H locs 0 0 (MQ below (rf_Q v σ' none) args s 0 0 (rf_F v)) (F0 m 4 ls [])) : ∀ (n : Nat) (σ : RS) (x1 x2 x3 x4 x5 x6 : Int), inR x1 → inR x2 → inR x3 → inR x4 → inR x5 → inR x6 → pf_judgeName_51 rec k4 n σ x1 x2 x3 x4 x5 x6 = some (σ', r) → ∀ (H : Heap) (locs : List Loc) (ls : Array Slot), rf_W v s σ H locs → lv_has ls 7 [(0, .ref (rf_h v)), (1, .int (rI x1)), (2, .int (rI x2)), (3, .int (rI x3)), (4, .int (rI x4)), (5, .int (rI x5)), (6, .int (rI x6))] → W p l e (rf_rm (d + 1)) s m args below meth c H locs 0 0 (MQ below (rf_Q v σ' none) args s 0 0 (rf_F v)) (F0 m 51 ls []) := by
  obtain ⟨hx, hb, hr, hml, hown, hts, hlk, hK, hD⟩ := id B
  intro n
  induction n with
  | zero => intro σ x1 x2 x3 x4 x5 x6 ix1 ix2 ix3 ix4 ix5 ix6 hf; cases hf
  | succ n ih =>
    intro σ x1 x2 x3 x4 x5 x6 ix1 ix2 ix3 ix4 ix5 ix6 hf H locs ls hw hl
    unfold pf_judgeName_51 at hf
    refine lv_iload hx hb dX12_judgeName_51 (lv_at hl 5 rfl) ?_
    refine rn_if_eq (a := x5) (tgt := 112) hx hb ix5 dX12_judgeName_53 (by decide) (fun c1 => ?_) (fun c1 => ?_)
    · replace hf := rf_if_t hf c1
      exact ps_judgeName_112 hR B k4 hk4 σ x1 x2 x3 x5 ix1 ix2 ix3 ix5 hf _ _ _ hw (lv_sub hl [0, 1, 2, 3, 5] rfl)
    · replace hf := rf_if_f hf c1
      refine lv_iload hx hb dX12_judgeName_56 (lv_at hl 6 rfl) ?_
      refine lv_aload_n hx hb dX12_judgeName_58 rfl (lv_at hl 0 rfl) ?_
      refine rf_get (val := .ref (rf_ad v 32)) B hw 32 (by decide) lk_82 rfl dX12_judgeName_59 ?_
      refine lv_iload_n hx hb dX12_judgeName_62 rfl (lv_at hl 1 rfl) ?_
      obtain ⟨z2, ez2, iz2, rz2, hf⟩ := rf_rd_s hw hf
      refine rf_ald B hw ix1 rz2 ez2 dX12_judgeName_63 ?_
      refine rn_icmp_ge (a := x6) (b := z2) (tgt := 112) hx hb ix6 iz2 dX12_judgeName_64 (by decide) (fun c3 => ?_) (fun c3 => ?_)
      · replace hf := rf_if_t hf c3
        exact ps_judgeName_112 hR B k4 hk4 σ x1 x2 x3 x5 ix1 ix2 ix3 ix5 hf _ _ _ hw (lv_sub hl [0, 1, 2, 3, 5] rfl)
      · replace hf := rf_if_f hf c3
        refine lv_aload_n hx hb dX12_judgeName_67 rfl (lv_at hl 0 rfl) ?_
        refine rf_get (val := .ref (rf_ad v 4)) B hw 4 (by decide) lk_37 rfl dX12_judgeName_68 ?_
        refine lv_aload_n hx hb dX12_judgeName_71 rfl (lv_at hl 0 rfl) ?_
        refine rf_get (val := .ref (rf_ad v 31)) B hw 31 (by decide) lk_79 rfl dX12_judgeName_72 ?_
        refine lv_iload_n hx hb dX12_judgeName_75 rfl (lv_at hl 1 rfl) ?_
        obtain ⟨z4, ez4, iz4, rz4, hf⟩ := rf_rd_s hw hf
        refine rf_ald B hw ix1 rz4 ez4 dX12_judgeName_76 ?_
        refine lv_iload hx hb dX12_judgeName_77 (lv_at hl 6 rfl) ?_
        obtain ⟨z5, ez5, iz5, hf⟩ := rf_ck_s hf
        refine rn_add hx hb ez5 dX12_judgeName_79 ?_
        obtain ⟨z6, ez6, iz6, rz6, hf⟩ := rf_rd_s hw hf
        refine rf_ald B hw iz5 rz6 ez6 dX12_judgeName_80 ?_
        refine lv_aload_n hx hb dX12_judgeName_81 rfl (lv_at hl 0 rfl) ?_
        refine rf_get (val := .ref (rf_ad v 4)) B hw 4 (by decide) lk_37 rfl dX12_judgeName_82 ?_
        refine lv_aload_n hx hb dX12_judgeName_85 rfl (lv_at hl 0 rfl) ?_
        refine rf_get (val := .ref (rf_ad v 31)) B hw 31 (by decide) lk_79 rfl dX12_judgeName_86 ?_
        refine lv_iload hx hb dX12_judgeName_89 (lv_at hl 4 rfl) ?_
        obtain ⟨z7, ez7, iz7, rz7, hf⟩ := rf_rd_s hw hf
        refine rf_ald B hw ix4 rz7 ez7 dX12_judgeName_91 ?_
        refine lv_iload hx hb dX12_judgeName_92 (lv_at hl 6 rfl) ?_
        obtain ⟨z8, ez8, iz8, hf⟩ := rf_ck_s hf
        refine rn_add hx hb ez8 dX12_judgeName_94 ?_
        obtain ⟨z9, ez9, iz9, rz9, hf⟩ := rf_rd_s hw hf
        refine rf_ald B hw iz8 rz9 ez9 dX12_judgeName_95 ?_
        refine rn_icmp_ne (a := z6) (b := z9) (tgt := 103) hx hb iz6 iz9 dX12_judgeName_96 (by decide) (fun c10 => ?_) (fun c10 => ?_)
        · replace hf := rf_if_t hf c10
          refine lv_iconst (v := rI 0) hx hb dX12_judgeName_103 rfl ?_
          exact ps_judgeName_104 hR B k4 (pf_judgeName_51 rec k4 n) hk4 ih σ x1 x2 x3 x4 x6 0 ix1 ix2 ix3 ix4 ix6 ⟨by decide, by decide⟩ hf _ _ _ hw (lv_sub hl [0, 1, 2, 3, 4, 6] rfl)
        · replace hf := rf_if_f hf c10
          refine lv_iconst (v := rI 1) hx hb dX12_judgeName_99 rfl ?_
          refine lv_goto (tgt := 104) hx hb dX12_judgeName_100 (by decide) ?_
          exact ps_judgeName_104 hR B k4 (pf_judgeName_51 rec k4 n) hk4 ih σ x1 x2 x3 x4 x6 1 ix1 ix2 ix3 ix4 ix6 ⟨by decide, by decide⟩ hf _ _ _ hw (lv_sub hl [0, 1, 2, 3, 4, 6] rfl)

set_option maxHeartbeats 4000000 in
set_option maxRecDepth 100000 in
theorem ps_judgeName_46 {v : rfE} {p : Program} {l : Launch} {e : Env} {s : State} {m : MethodId} {args : Array Value} {below : List Frame} {meth : Method} {c : Code} {d : Nat} {rec : Nat → RS → List Int → Option (RS × Int)} {σ' : RS} {r : Int} (hR : rf_Rec l v d rec) (B : rf_B v p s m args meth c cX12_judgeName 7 none) (k4 : RS → Int → Int → Int → Option (RS × Int)) (hk4 : ∀ (σ : RS) (x1 x2 x3 : Int), inR x1 → inR x2 → inR x3 → k4 σ x1 x2 x3 = some (σ', r) → ∀ (H : Heap) (locs : List Loc) (ls : Array Slot), rf_W v s σ H locs → lv_has ls 7 [(0, .ref (rf_h v)), (1, .int (rI x1)), (2, .int (rI x2)), (3, .int (rI x3))] → W p l e (rf_rm (d + 1)) s m args below meth c H locs 0 0 (MQ below (rf_Q v σ' none) args s 0 0 (rf_F v)) (F0 m 4 ls [])) : ∀ (σ : RS) (x1 x2 x3 x4 t0 : Int), inR x1 → inR x2 → inR x3 → inR x4 → inR t0 → pf_judgeName_46 rec k4 σ x1 x2 x3 x4 t0 = some (σ', r) → ∀ (H : Heap) (locs : List Loc) (ls : Array Slot), rf_W v s σ H locs → lv_has ls 7 [(0, .ref (rf_h v)), (1, .int (rI x1)), (2, .int (rI x2)), (3, .int (rI x3)), (4, .int (rI x4))] → W p l e (rf_rm (d + 1)) s m args below meth c H locs 0 0 (MQ below (rf_Q v σ' none) args s 0 0 (rf_F v)) (F0 m 46 ls [.int (rI t0)]) := by
  obtain ⟨hx, hb, hr, hml, hown, hts, hlk, hK, hD⟩ := id B
  intro σ x1 x2 x3 x4 t0 ix1 ix2 ix3 ix4 it0 hf H locs ls hw hl
  unfold pf_judgeName_46 at hf
  refine lv_istore (lv' := [(5, .int (rI t0)), (0, .ref (rf_h v)), (1, .int (rI x1)), (2, .int (rI x2)), (3, .int (rI x3)), (4, .int (rI x4))]) hx hb dX12_judgeName_46 hl (by decide) rfl (fun ls hl => ?_)
  refine lv_iconst (v := rI 0) hx hb dX12_judgeName_48 rfl ?_
  refine lv_istore (lv' := [(6, .int (rI 0)), (5, .int (rI t0)), (0, .ref (rf_h v)), (1, .int (rI x1)), (2, .int (rI x2)), (3, .int (rI x3)), (4, .int (rI x4))]) hx hb dX12_judgeName_49 hl (by decide) rfl (fun ls hl => ?_)
  exact ps_judgeName_51 hR B k4 hk4 200000 σ x1 x2 x3 x4 t0 0 ix1 ix2 ix3 ix4 it0 ⟨by decide, by decide⟩ hf _ _ _ hw (lv_sub hl [2, 3, 4, 5, 6, 1, 0] rfl)

set_option maxHeartbeats 4000000 in
set_option maxRecDepth 100000 in
theorem ps_judgeName_184 {v : rfE} {p : Program} {l : Launch} {e : Env} {s : State} {m : MethodId} {args : Array Value} {below : List Frame} {meth : Method} {c : Code} {d : Nat} {rec : Nat → RS → List Int → Option (RS × Int)} {σ' : RS} {r : Int} (hR : rf_Rec l v d rec) (B : rf_B v p s m args meth c cX12_judgeName 7 none) : ∀ (σ : RS) (x1 x3 t0 : Int), inR x1 → inR x3 → inR t0 → pf_judgeName_184 rec σ x1 x3 t0 = some (σ', r) → ∀ (H : Heap) (locs : List Loc) (ls : Array Slot), rf_W v s σ H locs → lv_has ls 7 [(0, .ref (rf_h v)), (1, .int (rI x1)), (3, .int (rI x3))] → W p l e (rf_rm (d + 1)) s m args below meth c H locs 0 0 (MQ below (rf_Q v σ' none) args s 0 0 (rf_F v)) (F0 m 184 ls [.int (rI t0)]) := by
  obtain ⟨hx, hb, hr, hml, hown, hts, hlk, hK, hD⟩ := id B
  intro σ x1 x3 t0 ix1 ix3 it0 hf H locs ls hw hl
  unfold pf_judgeName_184 at hf
  refine lv_istore (lv' := [(4, .int (rI t0)), (0, .ref (rf_h v)), (1, .int (rI x1)), (3, .int (rI x3))]) hx hb dX12_judgeName_184 hl (by decide) rfl (fun ls hl => ?_)
  refine lv_iload_n hx hb dX12_judgeName_186 rfl (lv_at hl 3 rfl) ?_
  refine rn_if_lt (a := x3) (tgt := 223) hx hb ix3 dX12_judgeName_187 (by decide) (fun c1 => ?_) (fun c1 => ?_)
  · replace hf := rf_if_t hf c1
    refine lv_iload hx hb dX12_judgeName_223 (lv_at hl 0 rfl) ?_
    refine rn_if_ge (a := t0) (tgt := 242) hx hb it0 dX12_judgeName_225 (by decide) (fun c2 => ?_) (fun c2 => ?_)
    · replace hf := rf_if_t hf c2
      refine lv_aload_n hx hb dX12_judgeName_242 rfl (lv_at hl 1 rfl) ?_
      refine rf_get (val := .ref (rf_ad v 18)) B hw 18 (by decide) lk_50 rfl dX12_judgeName_243 ?_
      refine lv_iload hx hb dX12_judgeName_246 (lv_at hl 0 rfl) ?_
      obtain ⟨z3, ez3, iz3, rz3, hf⟩ := rf_rd_s hw hf
      refine rf_ald B hw it0 rz3 ez3 dX12_judgeName_248 ?_
      refine rn_if_ge (a := z3) (tgt := 267) hx hb iz3 dX12_judgeName_249 (by decide) (fun c4 => ?_) (fun c4 => ?_)
      · replace hf := rf_if_t hf c4
        refine lv_aload_n hx hb dX12_judgeName_267 rfl (lv_at hl 1 rfl) ?_
        refine rf_get (val := .ref (rf_ad v 30)) B hw 30 (by decide) lk_76 rfl dX12_judgeName_268 ?_
        refine lv_iload_n hx hb dX12_judgeName_271 rfl (lv_at hl 2 rfl) ?_
        refine lv_iconst (v := rI 3) hx hb dX12_judgeName_272 rfl ?_
        obtain ⟨σ5, eσ5, rσ5, hf⟩ := rf_wr_s hf
        refine rf_ast B hw ix1 ⟨by decide, by decide⟩ rσ5 eσ5 dX12_judgeName_273 (fun H locs hw => ?_)
        refine lv_aload_n hx hb dX12_judgeName_274 rfl (lv_at hl 1 rfl) ?_
        refine rf_get (val := .ref (rf_ad v 31)) B hw 31 (by decide) lk_79 rfl dX12_judgeName_275 ?_
        refine lv_iload_n hx hb dX12_judgeName_278 rfl (lv_at hl 2 rfl) ?_
        refine lv_iload hx hb dX12_judgeName_279 (lv_at hl 0 rfl) ?_
        obtain ⟨σ6, eσ6, rσ6, hf⟩ := rf_wr_s hf
        refine rf_ast B hw ix1 it0 rσ6 eσ6 dX12_judgeName_281 (fun H locs hw => ?_)
        refine lv_aload_n hx hb dX12_judgeName_282 rfl (lv_at hl 1 rfl) ?_
        refine lv_aload_n hx hb dX12_judgeName_283 rfl (lv_at hl 1 rfl) ?_
        refine rf_get (val := .ref (rf_ad v 18)) B hw 18 (by decide) lk_50 rfl dX12_judgeName_284 ?_
        refine lv_iload hx hb dX12_judgeName_287 (lv_at hl 0 rfl) ?_
        obtain ⟨z7, ez7, iz7, rz7, hf⟩ := rf_rd_s hw hf
        refine rf_ald B hw it0 rz7 ez7 dX12_judgeName_289 ?_
        refine lv_aload_n hx hb dX12_judgeName_290 rfl (lv_at hl 1 rfl) ?_
        refine rf_get (val := .ref (rf_ad v 18)) B hw 18 (by decide) lk_50 rfl dX12_judgeName_291 ?_
        refine lv_aload_n hx hb dX12_judgeName_294 rfl (lv_at hl 1 rfl) ?_
        refine rf_get (val := .ref (rf_ad v 18)) B hw 18 (by decide) lk_50 rfl dX12_judgeName_295 ?_
        refine lv_iload hx hb dX12_judgeName_298 (lv_at hl 0 rfl) ?_
        obtain ⟨z8, ez8, iz8, rz8, hf⟩ := rf_rd_s hw hf
        refine rf_ald B hw it0 rz8 ez8 dX12_judgeName_300 ?_
        obtain ⟨z9, ez9, iz9, rz9, hf⟩ := rf_rd_s hw hf
        refine rf_ald B hw iz8 rz9 ez9 dX12_judgeName_301 ?_
        obtain ⟨σ10, z11, hσ10, hf⟩ := rf_cl_s hf
        obtain ⟨iz11, mσ10⟩ := hR 45 σ6 [z7, z9] σ10 z11 hσ10
        have mσ10 : rf_Met l v yX12_becomes cX12_becomes 3 none d [.ref (rf_h v), .int (rI z7), .int (rI z9)] σ6 σ10 none := mσ10 iz7 iz9
        refine rf_cv (n := 2) (rest := []) (As := [.int (rI z7), .int (rI z9)]) B mσ10 g_412_becomes (by decide +kernel) (by decide) rfl hl.1 (Nat.le_of_ble_eq_true rfl) dX12_judgeName_302 rfl hw (fun H locs hw => ?_)
        exact rf_retv B hf hw dX12_judgeName_305
      · replace hf := rf_if_f hf c4
        refine lv_aload_n hx hb dX12_judgeName_252 rfl (lv_at hl 1 rfl) ?_
        refine lv_bipush (v := rI 7) hx hb dX12_judgeName_253 (by decide +kernel) ?_
        refine lv_aload_n hx hb dX12_judgeName_255 rfl (lv_at hl 1 rfl) ?_
        refine rf_get (val := .ref (rf_ad v 31)) B hw 31 (by decide) lk_79 rfl dX12_judgeName_256 ?_
        refine lv_iload_n hx hb dX12_judgeName_259 rfl (lv_at hl 2 rfl) ?_
        obtain ⟨z12, ez12, iz12, rz12, hf⟩ := rf_rd_s hw hf
        refine rf_ald B hw ix1 rz12 ez12 dX12_judgeName_260 ?_
        obtain ⟨σ13, z14, hσ13, hf⟩ := rf_cl_s hf
        obtain ⟨iz14, mσ13⟩ := hR 3 σ [7, z12] σ13 z14 hσ13
        have mσ13 : rf_Met l v yX12_wrong cX12_wrong 3 none d [.ref (rf_h v), .int (rI 7), .int (rI z12)] σ σ13 none := mσ13 ⟨by decide, by decide⟩ iz12
        refine rf_cv (n := 2) (rest := []) (As := [.int (rI 7), .int (rI z12)]) B mσ13 g_218_wrong (by decide +kernel) (by decide) rfl hl.1 (Nat.le_of_ble_eq_true rfl) dX12_judgeName_261 rfl hw (fun H locs hw => ?_)
        refine lv_goto (tgt := 305) hx hb dX12_judgeName_264 (by decide) ?_
        exact rf_retv B hf hw dX12_judgeName_305
    · replace hf := rf_if_f hf c2
      refine lv_aload_n hx hb dX12_judgeName_228 rfl (lv_at hl 1 rfl) ?_
      refine lv_iconst (v := rI 3) hx hb dX12_judgeName_229 rfl ?_
      refine lv_aload_n hx hb dX12_judgeName_230 rfl (lv_at hl 1 rfl) ?_
      refine rf_get (val := .ref (rf_ad v 31)) B hw 31 (by decide) lk_79 rfl dX12_judgeName_231 ?_
      refine lv_iload_n hx hb dX12_judgeName_234 rfl (lv_at hl 2 rfl) ?_
      obtain ⟨z15, ez15, iz15, rz15, hf⟩ := rf_rd_s hw hf
      refine rf_ald B hw ix1 rz15 ez15 dX12_judgeName_235 ?_
      obtain ⟨σ16, z17, hσ16, hf⟩ := rf_cl_s hf
      obtain ⟨iz17, mσ16⟩ := hR 3 σ [3, z15] σ16 z17 hσ16
      have mσ16 : rf_Met l v yX12_wrong cX12_wrong 3 none d [.ref (rf_h v), .int (rI 3), .int (rI z15)] σ σ16 none := mσ16 ⟨by decide, by decide⟩ iz15
      refine rf_cv (n := 2) (rest := []) (As := [.int (rI 3), .int (rI z15)]) B mσ16 g_218_wrong (by decide +kernel) (by decide) rfl hl.1 (Nat.le_of_ble_eq_true rfl) dX12_judgeName_236 rfl hw (fun H locs hw => ?_)
      refine lv_goto (tgt := 305) hx hb dX12_judgeName_239 (by decide) ?_
      exact rf_retv B hf hw dX12_judgeName_305
  · replace hf := rf_if_f hf c1
    refine lv_aload_n hx hb dX12_judgeName_190 rfl (lv_at hl 1 rfl) ?_
    refine rf_get (val := .ref (rf_ad v 30)) B hw 30 (by decide) lk_76 rfl dX12_judgeName_191 ?_
    refine lv_iload_n hx hb dX12_judgeName_194 rfl (lv_at hl 2 rfl) ?_
    refine lv_iconst (v := rI 2) hx hb dX12_judgeName_195 rfl ?_
    obtain ⟨σ18, eσ18, rσ18, hf⟩ := rf_wr_s hf
    refine rf_ast B hw ix1 ⟨by decide, by decide⟩ rσ18 eσ18 dX12_judgeName_196 (fun H locs hw => ?_)
    refine lv_aload_n hx hb dX12_judgeName_197 rfl (lv_at hl 1 rfl) ?_
    refine rf_get (val := .ref (rf_ad v 31)) B hw 31 (by decide) lk_79 rfl dX12_judgeName_198 ?_
    refine lv_iload_n hx hb dX12_judgeName_201 rfl (lv_at hl 2 rfl) ?_
    refine lv_iload_n hx hb dX12_judgeName_202 rfl (lv_at hl 3 rfl) ?_
    obtain ⟨σ19, eσ19, rσ19, hf⟩ := rf_wr_s hf
    refine rf_ast B hw ix1 ix3 rσ19 eσ19 dX12_judgeName_203 (fun H locs hw => ?_)
    refine lv_aload_n hx hb dX12_judgeName_204 rfl (lv_at hl 1 rfl) ?_
    refine lv_aload_n hx hb dX12_judgeName_205 rfl (lv_at hl 1 rfl) ?_
    refine rf_get (val := .ref (rf_ad v 23)) B hw 23 (by decide) lk_60 rfl dX12_judgeName_206 ?_
    refine lv_iload_n hx hb dX12_judgeName_209 rfl (lv_at hl 3 rfl) ?_
    obtain ⟨z20, ez20, iz20, rz20, hf⟩ := rf_rd_s hw hf
    refine rf_ald B hw ix3 rz20 ez20 dX12_judgeName_210 ?_
    refine lv_aload_n hx hb dX12_judgeName_211 rfl (lv_at hl 1 rfl) ?_
    refine rf_get (val := .ref (rf_ad v 24)) B hw 24 (by decide) lk_63 rfl dX12_judgeName_212 ?_
    refine lv_iload_n hx hb dX12_judgeName_215 rfl (lv_at hl 3 rfl) ?_
    obtain ⟨z21, ez21, iz21, rz21, hf⟩ := rf_rd_s hw hf
    refine rf_ald B hw ix3 rz21 ez21 dX12_judgeName_216 ?_
    obtain ⟨σ22, z23, hσ22, hf⟩ := rf_cl_s hf
    obtain ⟨iz23, mσ22⟩ := hR 45 σ19 [z20, z21] σ22 z23 hσ22
    have mσ22 : rf_Met l v yX12_becomes cX12_becomes 3 none d [.ref (rf_h v), .int (rI z20), .int (rI z21)] σ19 σ22 none := mσ22 iz20 iz21
    refine rf_cv (n := 2) (rest := []) (As := [.int (rI z20), .int (rI z21)]) B mσ22 g_412_becomes (by decide +kernel) (by decide) rfl hl.1 (Nat.le_of_ble_eq_true rfl) dX12_judgeName_217 rfl hw (fun H locs hw => ?_)
    refine lv_goto (tgt := 305) hx hb dX12_judgeName_220 (by decide) ?_
    exact rf_retv B hf hw dX12_judgeName_305

set_option maxHeartbeats 4000000 in
set_option maxRecDepth 100000 in
theorem ps_judgeName_4 {v : rfE} {p : Program} {l : Launch} {e : Env} {s : State} {m : MethodId} {args : Array Value} {below : List Frame} {meth : Method} {c : Code} {d : Nat} {rec : Nat → RS → List Int → Option (RS × Int)} {σ' : RS} {r : Int} (hR : rf_Rec l v d rec) (B : rf_B v p s m args meth c cX12_judgeName 7 none) : ∀ (n : Nat) (σ : RS) (x1 x2 x3 : Int), inR x1 → inR x2 → inR x3 → pf_judgeName_4 rec n σ x1 x2 x3 = some (σ', r) → ∀ (H : Heap) (locs : List Loc) (ls : Array Slot), rf_W v s σ H locs → lv_has ls 7 [(0, .ref (rf_h v)), (1, .int (rI x1)), (2, .int (rI x2)), (3, .int (rI x3))] → W p l e (rf_rm (d + 1)) s m args below meth c H locs 0 0 (MQ below (rf_Q v σ' none) args s 0 0 (rf_F v)) (F0 m 4 ls []) := by
  obtain ⟨hx, hb, hr, hml, hown, hts, hlk, hK, hD⟩ := id B
  intro n
  induction n with
  | zero => intro σ x1 x2 x3 ix1 ix2 ix3 hf; cases hf
  | succ n ih =>
    intro σ x1 x2 x3 ix1 ix2 ix3 hf H locs ls hw hl
    unfold pf_judgeName_4 at hf
    refine lv_iload_n hx hb dX12_judgeName_4 rfl (lv_at hl 3 rfl) ?_
    refine lv_aload_n hx hb dX12_judgeName_5 rfl (lv_at hl 0 rfl) ?_
    obtain ⟨z1, ez1, iz1, hf⟩ := rf_gi_s hw hf
    refine rf_geti B hw 43 (by decide) rfl lk_409 ez1 dX12_judgeName_6 ?_
    refine rn_icmp_ge (a := x3) (b := z1) (tgt := 130) hx hb ix3 iz1 dX12_judgeName_9 (by decide) (fun c2 => ?_) (fun c2 => ?_)
    · replace hf := rf_if_t hf c2
      refine lv_iload_n hx hb dX12_judgeName_130 rfl (lv_at hl 2 rfl) ?_
      refine rn_if_lt (a := x2) (tgt := 165) hx hb ix2 dX12_judgeName_131 (by decide) (fun c3 => ?_) (fun c3 => ?_)
      · replace hf := rf_if_t hf c3
        refine lv_aload_n hx hb dX12_judgeName_165 rfl (lv_at hl 0 rfl) ?_
        refine lv_iload_n hx hb dX12_judgeName_166 rfl (lv_at hl 1 rfl) ?_
        obtain ⟨σ4, z5, hσ4, hf⟩ := rf_cl_s hf
        obtain ⟨iz5, mσ4⟩ := hR 44 σ [x1] σ4 z5 hσ4
        have mσ4 : rf_Met l v yX12_knownOf cX12_knownOf 4 (some .int) d [.ref (rf_h v), .int (rI x1)] σ σ4 (some (.int (rI z5))) := mσ4 ix1
        refine rf_cv (n := 1) (rest := []) (As := [.int (rI x1)]) B mσ4 g_415_knownOf (by decide +kernel) (by decide) rfl hl.1 (Nat.le_of_ble_eq_true rfl) dX12_judgeName_167 rfl hw (fun H locs hw => ?_)
        refine lv_istore_n (lv' := [(3, .int (rI z5)), (0, .ref (rf_h v)), (1, .int (rI x1)), (2, .int (rI x2))]) hx hb dX12_judgeName_170 rfl hl (by decide) rfl (fun ls hl => ?_)
        refine lv_iload_n hx hb dX12_judgeName_171 rfl (lv_at hl 0 rfl) ?_
        refine rn_if_lt (a := z5) (tgt := 179) hx hb iz5 dX12_judgeName_172 (by decide) (fun c6 => ?_) (fun c6 => ?_)
        · replace hf := rf_if_t hf c6
          refine lv_aload_n hx hb dX12_judgeName_179 rfl (lv_at hl 1 rfl) ?_
          refine lv_iload_n hx hb dX12_judgeName_180 rfl (lv_at hl 2 rfl) ?_
          obtain ⟨σ7, z8, hσ7, hf⟩ := rf_cl_s hf
          obtain ⟨iz8, mσ7⟩ := hR 43 σ4 [x1] σ7 z8 hσ7
          have mσ7 : rf_Met l v yX12_sortOf cX12_sortOf 4 (some .int) d [.ref (rf_h v), .int (rI x1)] σ4 σ7 (some (.int (rI z8))) := mσ7 ix1
          refine rf_cv (n := 1) (rest := []) (As := [.int (rI x1)]) B mσ7 g_418_sortOf (by decide +kernel) (by decide) rfl hl.1 (Nat.le_of_ble_eq_true rfl) dX12_judgeName_181 rfl hw (fun H locs hw => ?_)
          exact ps_judgeName_184 hR B σ7 x1 z5 z8 ix1 iz5 iz8 hf _ _ _ hw (lv_sub hl [1, 2, 0] rfl)
        · replace hf := rf_if_f hf c6
          refine lv_iconst (v := rI (-1)) hx hb dX12_judgeName_175 rfl ?_
          refine lv_goto (tgt := 184) hx hb dX12_judgeName_176 (by decide) ?_
          exact ps_judgeName_184 hR B σ4 x1 z5 (-1) ix1 iz5 ⟨by decide, by decide⟩ hf _ _ _ hw (lv_sub hl [1, 2, 0] rfl)
      · replace hf := rf_if_f hf c3
        refine lv_aload_n hx hb dX12_judgeName_134 rfl (lv_at hl 0 rfl) ?_
        refine rf_get (val := .ref (rf_ad v 30)) B hw 30 (by decide) lk_76 rfl dX12_judgeName_135 ?_
        refine lv_iload_n hx hb dX12_judgeName_138 rfl (lv_at hl 1 rfl) ?_
        refine lv_iconst (v := rI 1) hx hb dX12_judgeName_139 rfl ?_
        obtain ⟨σ9, eσ9, rσ9, hf⟩ := rf_wr_s hf
        refine rf_ast B hw ix1 ⟨by decide, by decide⟩ rσ9 eσ9 dX12_judgeName_140 (fun H locs hw => ?_)
        refine lv_aload_n hx hb dX12_judgeName_141 rfl (lv_at hl 0 rfl) ?_
        refine rf_get (val := .ref (rf_ad v 31)) B hw 31 (by decide) lk_79 rfl dX12_judgeName_142 ?_
        refine lv_iload_n hx hb dX12_judgeName_145 rfl (lv_at hl 1 rfl) ?_
        refine lv_iload_n hx hb dX12_judgeName_146 rfl (lv_at hl 2 rfl) ?_
        obtain ⟨σ10, eσ10, rσ10, hf⟩ := rf_wr_s hf
        refine rf_ast B hw ix1 ix2 rσ10 eσ10 dX12_judgeName_147 (fun H locs hw => ?_)
        refine lv_aload_n hx hb dX12_judgeName_148 rfl (lv_at hl 0 rfl) ?_
        refine lv_aload_n hx hb dX12_judgeName_149 rfl (lv_at hl 0 rfl) ?_
        refine rf_get (val := .ref (rf_ad v 40)) B hw 40 (by decide) lk_103 rfl dX12_judgeName_150 ?_
        refine lv_iload_n hx hb dX12_judgeName_153 rfl (lv_at hl 2 rfl) ?_
        obtain ⟨z11, ez11, iz11, rz11, hf⟩ := rf_rd_s hw hf
        refine rf_ald B hw ix2 rz11 ez11 dX12_judgeName_154 ?_
        refine lv_aload_n hx hb dX12_judgeName_155 rfl (lv_at hl 0 rfl) ?_
        refine rf_get (val := .ref (rf_ad v 41)) B hw 41 (by decide) lk_106 rfl dX12_judgeName_156 ?_
        refine lv_iload_n hx hb dX12_judgeName_159 rfl (lv_at hl 2 rfl) ?_
        obtain ⟨z12, ez12, iz12, rz12, hf⟩ := rf_rd_s hw hf
        refine rf_ald B hw ix2 rz12 ez12 dX12_judgeName_160 ?_
        obtain ⟨σ13, z14, hσ13, hf⟩ := rf_cl_s hf
        obtain ⟨iz14, mσ13⟩ := hR 45 σ10 [z11, z12] σ13 z14 hσ13
        have mσ13 : rf_Met l v yX12_becomes cX12_becomes 3 none d [.ref (rf_h v), .int (rI z11), .int (rI z12)] σ10 σ13 none := mσ13 iz11 iz12
        refine rf_cv (n := 2) (rest := []) (As := [.int (rI z11), .int (rI z12)]) B mσ13 g_412_becomes (by decide +kernel) (by decide) rfl hl.1 (Nat.le_of_ble_eq_true rfl) dX12_judgeName_161 rfl hw (fun H locs hw => ?_)
        exact rf_retv B hf hw dX12_judgeName_164
    · replace hf := rf_if_f hf c2
      refine lv_aload_n hx hb dX12_judgeName_12 rfl (lv_at hl 0 rfl) ?_
      refine rf_get (val := .ref (rf_ad v 31)) B hw 31 (by decide) lk_79 rfl dX12_judgeName_13 ?_
      refine lv_aload_n hx hb dX12_judgeName_16 rfl (lv_at hl 0 rfl) ?_
      refine rf_get (val := .ref (rf_ad v 42)) B hw 42 (by decide) lk_109 rfl dX12_judgeName_17 ?_
      refine lv_iload_n hx hb dX12_judgeName_20 rfl (lv_at hl 3 rfl) ?_
      obtain ⟨z15, ez15, iz15, rz15, hf⟩ := rf_rd_s hw hf
      refine rf_ald B hw ix3 rz15 ez15 dX12_judgeName_21 ?_
      obtain ⟨z16, ez16, iz16, rz16, hf⟩ := rf_rd_s hw hf
      refine rf_ald B hw iz15 rz16 ez16 dX12_judgeName_22 ?_
      refine lv_istore (lv' := [(4, .int (rI z16)), (0, .ref (rf_h v)), (1, .int (rI x1)), (2, .int (rI x2)), (3, .int (rI x3))]) hx hb dX12_judgeName_23 hl (by decide) rfl (fun ls hl => ?_)
      refine lv_aload_n hx hb dX12_judgeName_25 rfl (lv_at hl 1 rfl) ?_
      refine rf_get (val := .ref (rf_ad v 32)) B hw 32 (by decide) lk_82 rfl dX12_judgeName_26 ?_
      refine lv_iload_n hx hb dX12_judgeName_29 rfl (lv_at hl 2 rfl) ?_
      obtain ⟨z17, ez17, iz17, rz17, hf⟩ := rf_rd_s hw hf
      refine rf_ald B hw ix1 rz17 ez17 dX12_judgeName_30 ?_
      refine lv_aload_n hx hb dX12_judgeName_31 rfl (lv_at hl 1 rfl) ?_
      refine rf_get (val := .ref (rf_ad v 32)) B hw 32 (by decide) lk_82 rfl dX12_judgeName_32 ?_
      refine lv_iload hx hb dX12_judgeName_35 (lv_at hl 0 rfl) ?_
      obtain ⟨z18, ez18, iz18, rz18, hf⟩ := rf_rd_s hw hf
      refine rf_ald B hw iz16 rz18 ez18 dX12_judgeName_37 ?_
      refine rn_icmp_ne (a := z17) (b := z18) (tgt := 45) hx hb iz17 iz18 dX12_judgeName_38 (by decide) (fun c19 => ?_) (fun c19 => ?_)
      · replace hf := rf_if_t hf c19
        refine lv_iconst (v := rI 0) hx hb dX12_judgeName_45 rfl ?_
        exact ps_judgeName_46 hR B (pf_judgeName_4 rec n) ih σ x1 x2 x3 z16 0 ix1 ix2 ix3 iz16 ⟨by decide, by decide⟩ hf _ _ _ hw (lv_sub hl [1, 2, 3, 4, 0] rfl)
      · replace hf := rf_if_f hf c19
        refine lv_iconst (v := rI 1) hx hb dX12_judgeName_41 rfl ?_
        refine lv_goto (tgt := 46) hx hb dX12_judgeName_42 (by decide) ?_
        exact ps_judgeName_46 hR B (pf_judgeName_4 rec n) ih σ x1 x2 x3 z16 1 ix1 ix2 ix3 iz16 ⟨by decide, by decide⟩ hf _ _ _ hw (lv_sub hl [1, 2, 3, 4, 0] rfl)

set_option maxHeartbeats 4000000 in
set_option maxRecDepth 100000 in
theorem ps_judgeName_0 {v : rfE} {p : Program} {l : Launch} {e : Env} {s : State} {m : MethodId} {args : Array Value} {below : List Frame} {meth : Method} {c : Code} {d : Nat} {rec : Nat → RS → List Int → Option (RS × Int)} {σ' : RS} {r : Int} (hR : rf_Rec l v d rec) (B : rf_B v p s m args meth c cX12_judgeName 7 none) : ∀ (σ : RS) (x1 : Int), inR x1 → pf_judgeName_0 rec σ x1 = some (σ', r) → ∀ (H : Heap) (locs : List Loc) (ls : Array Slot), rf_W v s σ H locs → lv_has ls 7 [(0, .ref (rf_h v)), (1, .int (rI x1))] → W p l e (rf_rm (d + 1)) s m args below meth c H locs 0 0 (MQ below (rf_Q v σ' none) args s 0 0 (rf_F v)) (F0 m 0 ls []) := by
  obtain ⟨hx, hb, hr, hml, hown, hts, hlk, hK, hD⟩ := id B
  intro σ x1 ix1 hf H locs ls hw hl
  unfold pf_judgeName_0 at hf
  refine lv_iconst (v := rI (-1)) hx hb dX12_judgeName_0 rfl ?_
  refine lv_istore_n (lv' := [(2, .int (rI (-1))), (0, .ref (rf_h v)), (1, .int (rI x1))]) hx hb dX12_judgeName_1 rfl hl (by decide) rfl (fun ls hl => ?_)
  refine lv_iconst (v := rI 0) hx hb dX12_judgeName_2 rfl ?_
  refine lv_istore_n (lv' := [(3, .int (rI 0)), (2, .int (rI (-1))), (0, .ref (rf_h v)), (1, .int (rI x1))]) hx hb dX12_judgeName_3 rfl hl (by decide) rfl (fun ls hl => ?_)
  exact ps_judgeName_4 hR B 200000 σ x1 (-1) 0 ix1 ⟨by decide, by decide⟩ ⟨by decide, by decide⟩ hf _ _ _ hw (lv_sub hl [2, 3, 1, 0] rfl)

set_option maxHeartbeats 4000000 in
set_option maxRecDepth 100000 in
theorem pm_judgeName {v : rfE} (hD : rf_D v) {l : Launch} {d : Nat} {rec : Nat → RS → List Int → Option (RS × Int)} (hR : rf_Rec l v d rec) (σ σ' : RS) (x1 r : Int) (ix1 : inR x1) (hf : pf_judgeName_0 rec σ x1 = some (σ', r)) : rf_Met l v yX12_judgeName cX12_judgeName 7 none (d + 1) [.ref (rf_h v), .int (rI x1)] σ σ' none := by
  refine Met.ofW (cc := cX12_judgeName) (maxL := 7) (ret := none) (by decide +kernel) rfl ?_
  intro p e s m args below meth c s₁ B hml hv
  obtain ⟨rfl, hM, hK⟩ := hv
  have hts := atoms_spec (ws := Cond.code yX12_judgeName cX12_judgeName 7 none :: rf_bw) B.pre
  have hB : rf_B v p s m _ meth c cX12_judgeName 7 none := ⟨B.exec, B.bytes, B.returns, hml, findClass_of_methodNamed B.named, fun w h => hts w (List.mem_cons_of_mem _ h), B.notSynchronized, hK, hD⟩
  have hl := lv_entry ([.ref (rf_h v), .int (rI x1)]) (n := 7) (Nat.le_of_ble_eq_true rfl)
  rw [lg_entry_eq]
  generalize (lg_sl ([.ref (rf_h v), .int (rI x1)]) ++ List.replicate (7 - (lg_sl ([.ref (rf_h v), .int (rI x1)])).length) Slot.unset).toArray = ls at hl ⊢
  exact ps_judgeName_0 hR hB σ x1 ix1 hf _ _ _ ⟨hM, rfl, fun _ _ => rfl, fun q h => by cases h⟩ (lv_sub hl [0, 1] rfl)

set_option maxHeartbeats 4000000 in
set_option maxRecDepth 100000 in
theorem ps_judgeSort_48 {v : rfE} {p : Program} {l : Launch} {e : Env} {s : State} {m : MethodId} {args : Array Value} {below : List Frame} {meth : Method} {c : Code} {d : Nat} {rec : Nat → RS → List Int → Option (RS × Int)} {σ' : RS} {r : Int} (hR : rf_Rec l v d rec) (B : rf_B v p s m args meth c cX12_judgeSort 4 (some .int)) : ∀ (σ : RS) (x3 : Int), inR x3 → pf_judgeSort_48 rec σ x3 = some (σ', r) → ∀ (H : Heap) (locs : List Loc) (ls : Array Slot), rf_W v s σ H locs → lv_has ls 4 [(0, .ref (rf_h v)), (3, .int (rI x3))] → W p l e (rf_rm (d + 1)) s m args below meth c H locs 0 0 (MQ below (rf_Q v σ' (some (.int (rI r)))) args s 0 0 (rf_F v)) (F0 m 48 ls []) := by
  obtain ⟨hx, hb, hr, hml, hown, hts, hlk, hK, hD⟩ := id B
  intro σ x3 ix3 hf H locs ls hw hl
  unfold pf_judgeSort_48 at hf
  refine lv_iload_n hx hb dX12_judgeSort_48 rfl (lv_at hl 1 rfl) ?_
  refine rn_if_eq (a := x3) (tgt := 64) hx hb ix3 dX12_judgeSort_49 (by decide) (fun c1 => ?_) (fun c1 => ?_)
  · replace hf := rf_if_t hf c1
    refine lv_iconst (v := rI 0) hx hb dX12_judgeSort_64 rfl ?_
    exact rf_reti B hf hw dX12_judgeSort_65
  · replace hf := rf_if_f hf c1
    refine lv_aload_n hx hb dX12_judgeSort_52 rfl (lv_at hl 0 rfl) ?_
    refine rf_get (val := .ref (rf_ad v 31)) B hw 31 (by decide) lk_79 rfl dX12_judgeSort_53 ?_
    refine lv_aload_n hx hb dX12_judgeSort_56 rfl (lv_at hl 0 rfl) ?_
    obtain ⟨z2, ez2, iz2, hf⟩ := rf_gi_s hw hf
    refine rf_geti B hw 60 (by decide) rfl lk_403 ez2 dX12_judgeSort_57 ?_
    obtain ⟨z3, ez3, iz3, rz3, hf⟩ := rf_rd_s hw hf
    refine rf_ald B hw iz2 rz3 ez3 dX12_judgeSort_60 ?_
    refine lv_goto (tgt := 65) hx hb dX12_judgeSort_61 (by decide) ?_
    exact rf_reti B hf hw dX12_judgeSort_65

set_option maxHeartbeats 4000000 in
set_option maxRecDepth 100000 in
theorem ps_judgeSort_31 {v : rfE} {p : Program} {l : Launch} {e : Env} {s : State} {m : MethodId} {args : Array Value} {below : List Frame} {meth : Method} {c : Code} {d : Nat} {rec : Nat → RS → List Int → Option (RS × Int)} {σ' : RS} {r : Int} (hR : rf_Rec l v d rec) (B : rf_B v p s m args meth c cX12_judgeSort 4 (some .int)) : ∀ (σ : RS) (x1 t0 : Int), inR x1 → inR t0 → pf_judgeSort_31 rec σ x1 t0 = some (σ', r) → ∀ (H : Heap) (locs : List Loc) (ls : Array Slot), rf_W v s σ H locs → lv_has ls 4 [(0, .ref (rf_h v)), (1, .int (rI x1))] → W p l e (rf_rm (d + 1)) s m args below meth c H locs 0 0 (MQ below (rf_Q v σ' (some (.int (rI r)))) args s 0 0 (rf_F v)) (F0 m 31 ls [.int (rI t0)]) := by
  obtain ⟨hx, hb, hr, hml, hown, hts, hlk, hK, hD⟩ := id B
  intro σ x1 t0 ix1 it0 hf H locs ls hw hl
  unfold pf_judgeSort_31 at hf
  refine lv_istore_n (lv' := [(3, .int (rI t0)), (0, .ref (rf_h v)), (1, .int (rI x1))]) hx hb dX12_judgeSort_31 rfl hl (by decide) rfl (fun ls hl => ?_)
  refine lv_iload_n hx hb dX12_judgeSort_32 rfl (lv_at hl 0 rfl) ?_
  refine rn_if_ne (a := t0) (tgt := 48) hx hb it0 dX12_judgeSort_33 (by decide) (fun c1 => ?_) (fun c1 => ?_)
  · replace hf := rf_if_t hf c1
    exact ps_judgeSort_48 hR B σ t0 it0 hf _ _ _ hw (lv_sub hl [1, 0] rfl)
  · replace hf := rf_if_f hf c1
    refine lv_aload_n hx hb dX12_judgeSort_36 rfl (lv_at hl 1 rfl) ?_
    refine lv_bipush (v := rI 8) hx hb dX12_judgeSort_37 (by decide +kernel) ?_
    refine lv_aload_n hx hb dX12_judgeSort_39 rfl (lv_at hl 1 rfl) ?_
    refine rf_get (val := .ref (rf_ad v 34)) B hw 34 (by decide) lk_88 rfl dX12_judgeSort_40 ?_
    refine lv_iload_n hx hb dX12_judgeSort_43 rfl (lv_at hl 2 rfl) ?_
    obtain ⟨z2, ez2, iz2, rz2, hf⟩ := rf_rd_s hw hf
    refine rf_ald B hw ix1 rz2 ez2 dX12_judgeSort_44 ?_
    obtain ⟨σ3, z4, hσ3, hf⟩ := rf_cl_s hf
    obtain ⟨iz4, mσ3⟩ := hR 3 σ [8, z2] σ3 z4 hσ3
    have mσ3 : rf_Met l v yX12_wrong cX12_wrong 3 none d [.ref (rf_h v), .int (rI 8), .int (rI z2)] σ σ3 none := mσ3 ⟨by decide, by decide⟩ iz2
    refine rf_cv (n := 2) (rest := []) (As := [.int (rI 8), .int (rI z2)]) B mσ3 g_218_wrong (by decide +kernel) (by decide) rfl hl.1 (Nat.le_of_ble_eq_true rfl) dX12_judgeSort_45 rfl hw (fun H locs hw => ?_)
    exact ps_judgeSort_48 hR B σ3 t0 it0 hf _ _ _ hw (lv_sub hl [1, 0] rfl)

set_option maxHeartbeats 4000000 in
set_option maxRecDepth 100000 in
theorem ps_judgeSort_30 {v : rfE} {p : Program} {l : Launch} {e : Env} {s : State} {m : MethodId} {args : Array Value} {below : List Frame} {meth : Method} {c : Code} {d : Nat} {rec : Nat → RS → List Int → Option (RS × Int)} {σ' : RS} {r : Int} (hR : rf_Rec l v d rec) (B : rf_B v p s m args meth c cX12_judgeSort 4 (some .int)) : ∀ (σ : RS) (x1 : Int), inR x1 → pf_judgeSort_30 rec σ x1 = some (σ', r) → ∀ (H : Heap) (locs : List Loc) (ls : Array Slot), rf_W v s σ H locs → lv_has ls 4 [(0, .ref (rf_h v)), (1, .int (rI x1))] → W p l e (rf_rm (d + 1)) s m args below meth c H locs 0 0 (MQ below (rf_Q v σ' (some (.int (rI r)))) args s 0 0 (rf_F v)) (F0 m 30 ls []) := by
  obtain ⟨hx, hb, hr, hml, hown, hts, hlk, hK, hD⟩ := id B
  intro σ x1 ix1 hf H locs ls hw hl
  unfold pf_judgeSort_30 at hf
  refine lv_iconst (v := rI 0) hx hb dX12_judgeSort_30 rfl ?_
  exact ps_judgeSort_31 hR B σ x1 0 ix1 ⟨by decide, by decide⟩ hf _ _ _ hw (lv_sub hl [0, 1] rfl)

set_option maxHeartbeats 4000000 in
set_option maxRecDepth 100000 in
theorem ps_judgeSort_0 {v : rfE} {p : Program} {l : Launch} {e : Env} {s : State} {m : MethodId} {args : Array Value} {below : List Frame} {meth : Method} {c : Code} {d : Nat} {rec : Nat → RS → List Int → Option (RS × Int)} {σ' : RS} {r : Int} (hR : rf_Rec l v d rec) (B : rf_B v p s m args meth c cX12_judgeSort 4 (some .int)) : ∀ (σ : RS) (x1 x2 : Int), inR x1 → inR x2 → pf_judgeSort_0 rec σ x1 x2 = some (σ', r) → ∀ (H : Heap) (locs : List Loc) (ls : Array Slot), rf_W v s σ H locs → lv_has ls 4 [(0, .ref (rf_h v)), (1, .int (rI x1)), (2, .int (rI x2))] → W p l e (rf_rm (d + 1)) s m args below meth c H locs 0 0 (MQ below (rf_Q v σ' (some (.int (rI r)))) args s 0 0 (rf_F v)) (F0 m 0 ls []) := by
  obtain ⟨hx, hb, hr, hml, hown, hts, hlk, hK, hD⟩ := id B
  intro σ x1 x2 ix1 ix2 hf H locs ls hw hl
  unfold pf_judgeSort_0 at hf
  refine lv_aload_n hx hb dX12_judgeSort_0 rfl (lv_at hl 0 rfl) ?_
  refine lv_iload_n hx hb dX12_judgeSort_1 rfl (lv_at hl 1 rfl) ?_
  refine lv_iload_n hx hb dX12_judgeSort_2 rfl (lv_at hl 2 rfl) ?_
  obtain ⟨σ1, z2, hσ1, hf⟩ := rf_cl_s hf
  obtain ⟨iz2, mσ1⟩ := hR 49 σ [x1, x2] σ1 z2 hσ1
  have mσ1 : rf_Met l v yX12_judge cX12_judge 3 none d [.ref (rf_h v), .int (rI x1), .int (rI x2)] σ σ1 none := mσ1 ix1 ix2
  refine rf_cv (n := 2) (rest := []) (As := [.int (rI x1), .int (rI x2)]) B mσ1 g_421_judge (by decide +kernel) (by decide) rfl hl.1 (Nat.le_of_ble_eq_true rfl) dX12_judgeSort_3 rfl hw (fun H locs hw => ?_)
  refine lv_aload_n hx hb dX12_judgeSort_6 rfl (lv_at hl 0 rfl) ?_
  obtain ⟨z3, ez3, iz3, hf⟩ := rf_gi_s hw hf
  refine rf_geti B hw 72 (by decide) rfl lk_150 ez3 dX12_judgeSort_7 ?_
  refine rn_if_ne (a := z3) (tgt := 30) hx hb iz3 dX12_judgeSort_10 (by decide) (fun c4 => ?_) (fun c4 => ?_)
  · replace hf := rf_if_t hf c4
    exact ps_judgeSort_30 hR B σ1 x1 ix1 hf _ _ _ hw (lv_sub hl [0, 1] rfl)
  · replace hf := rf_if_f hf c4
    refine lv_aload_n hx hb dX12_judgeSort_13 rfl (lv_at hl 0 rfl) ?_
    refine rf_get (val := .ref (rf_ad v 30)) B hw 30 (by decide) lk_76 rfl dX12_judgeSort_14 ?_
    refine lv_aload_n hx hb dX12_judgeSort_17 rfl (lv_at hl 0 rfl) ?_
    obtain ⟨z5, ez5, iz5, hf⟩ := rf_gi_s hw hf
    refine rf_geti B hw 60 (by decide) rfl lk_403 ez5 dX12_judgeSort_18 ?_
    obtain ⟨z6, ez6, iz6, rz6, hf⟩ := rf_rd_s hw hf
    refine rf_ald B hw iz5 rz6 ez6 dX12_judgeSort_21 ?_
    refine lv_iconst (v := rI 3) hx hb dX12_judgeSort_22 rfl ?_
    refine rn_icmp_ne (a := z6) (b := 3) (tgt := 30) hx hb iz6 ⟨by decide, by decide⟩ dX12_judgeSort_23 (by decide) (fun c7 => ?_) (fun c7 => ?_)
    · replace hf := rf_if_t hf c7
      exact ps_judgeSort_30 hR B σ1 x1 ix1 hf _ _ _ hw (lv_sub hl [0, 1] rfl)
    · replace hf := rf_if_f hf c7
      refine lv_iconst (v := rI 1) hx hb dX12_judgeSort_26 rfl ?_
      refine lv_goto (tgt := 31) hx hb dX12_judgeSort_27 (by decide) ?_
      exact ps_judgeSort_31 hR B σ1 x1 1 ix1 ⟨by decide, by decide⟩ hf _ _ _ hw (lv_sub hl [0, 1] rfl)

set_option maxHeartbeats 4000000 in
set_option maxRecDepth 100000 in
theorem pm_judgeSort {v : rfE} (hD : rf_D v) {l : Launch} {d : Nat} {rec : Nat → RS → List Int → Option (RS × Int)} (hR : rf_Rec l v d rec) (σ σ' : RS) (x1 x2 r : Int) (ix1 : inR x1) (ix2 : inR x2) (hf : pf_judgeSort_0 rec σ x1 x2 = some (σ', r)) : rf_Met l v yX12_judgeSort cX12_judgeSort 4 (some .int) (d + 1) [.ref (rf_h v), .int (rI x1), .int (rI x2)] σ σ' (some (.int (rI r))) := by
  refine Met.ofW (cc := cX12_judgeSort) (maxL := 4) (ret := (some .int)) (by decide +kernel) rfl ?_
  intro p e s m args below meth c s₁ B hml hv
  obtain ⟨rfl, hM, hK⟩ := hv
  have hts := atoms_spec (ws := Cond.code yX12_judgeSort cX12_judgeSort 4 (some .int) :: rf_bw) B.pre
  have hB : rf_B v p s m _ meth c cX12_judgeSort 4 (some .int) := ⟨B.exec, B.bytes, B.returns, hml, findClass_of_methodNamed B.named, fun w h => hts w (List.mem_cons_of_mem _ h), B.notSynchronized, hK, hD⟩
  have hl := lv_entry ([.ref (rf_h v), .int (rI x1), .int (rI x2)]) (n := 4) (Nat.le_of_ble_eq_true rfl)
  rw [lg_entry_eq]
  generalize (lg_sl ([.ref (rf_h v), .int (rI x1), .int (rI x2)]) ++ List.replicate (4 - (lg_sl ([.ref (rf_h v), .int (rI x1), .int (rI x2)])).length) Slot.unset).toArray = ls at hl ⊢
  exact ps_judgeSort_0 hR hB σ x1 x2 ix1 ix2 hf _ _ _ ⟨hM, rfl, fun _ _ => rfl, fun q h => by cases h⟩ (lv_sub hl [0, 1, 2] rfl)

set_option maxHeartbeats 4000000 in
set_option maxRecDepth 100000 in
theorem ps_bind_0 {v : rfE} {p : Program} {l : Launch} {e : Env} {s : State} {m : MethodId} {args : Array Value} {below : List Frame} {meth : Method} {c : Code} {d : Nat} {rec : Nat → RS → List Int → Option (RS × Int)} {σ' : RS} {r : Int} (hR : rf_Rec l v d rec) (B : rf_B v p s m args meth c cX12_bind 4 none) : ∀ (σ : RS) (x1 x2 x3 : Int), inR x1 → inR x2 → inR x3 → pf_bind_0 rec σ x1 x2 x3 = some (σ', r) → ∀ (H : Heap) (locs : List Loc) (ls : Array Slot), rf_W v s σ H locs → lv_has ls 4 [(0, .ref (rf_h v)), (1, .int (rI x1)), (2, .int (rI x2)), (3, .int (rI x3))] → W p l e (rf_rm (d + 1)) s m args below meth c H locs 0 0 (MQ below (rf_Q v σ' none) args s 0 0 (rf_F v)) (F0 m 0 ls []) := by
  obtain ⟨hx, hb, hr, hml, hown, hts, hlk, hK, hD⟩ := id B
  intro σ x1 x2 x3 ix1 ix2 ix3 hf H locs ls hw hl
  unfold pf_bind_0 at hf
  refine lv_aload_n hx hb dX12_bind_0 rfl (lv_at hl 0 rfl) ?_
  refine rf_get (val := .ref (rf_ad v 40)) B hw 40 (by decide) lk_103 rfl dX12_bind_1 ?_
  refine lv_iload_n hx hb dX12_bind_4 rfl (lv_at hl 1 rfl) ?_
  refine lv_iload_n hx hb dX12_bind_5 rfl (lv_at hl 2 rfl) ?_
  obtain ⟨σ1, eσ1, rσ1, hf⟩ := rf_wr_s hf
  refine rf_ast B hw ix1 ix2 rσ1 eσ1 dX12_bind_6 (fun H locs hw => ?_)
  refine lv_aload_n hx hb dX12_bind_7 rfl (lv_at hl 0 rfl) ?_
  refine rf_get (val := .ref (rf_ad v 41)) B hw 41 (by decide) lk_106 rfl dX12_bind_8 ?_
  refine lv_iload_n hx hb dX12_bind_11 rfl (lv_at hl 1 rfl) ?_
  refine lv_iload_n hx hb dX12_bind_12 rfl (lv_at hl 3 rfl) ?_
  obtain ⟨σ2, eσ2, rσ2, hf⟩ := rf_wr_s hf
  refine rf_ast B hw ix1 ix3 rσ2 eσ2 dX12_bind_13 (fun H locs hw => ?_)
  refine lv_aload_n hx hb dX12_bind_14 rfl (lv_at hl 0 rfl) ?_
  refine rf_get (val := .ref (rf_ad v 42)) B hw 42 (by decide) lk_109 rfl dX12_bind_15 ?_
  refine lv_aload_n hx hb dX12_bind_18 rfl (lv_at hl 0 rfl) ?_
  obtain ⟨z3, ez3, iz3, hf⟩ := rf_gi_s hw hf
  refine rf_geti B hw 43 (by decide) rfl lk_409 ez3 dX12_bind_19 ?_
  refine lv_iload_n hx hb dX12_bind_22 rfl (lv_at hl 1 rfl) ?_
  obtain ⟨σ4, eσ4, rσ4, hf⟩ := rf_wr_s hf
  refine rf_ast B hw iz3 ix1 rσ4 eσ4 dX12_bind_23 (fun H locs hw => ?_)
  refine lv_aload_n hx hb dX12_bind_24 rfl (lv_at hl 0 rfl) ?_
  refine lv_dup hx hb dX12_bind_25 rfl ?_
  obtain ⟨z5, ez5, iz5, hf⟩ := rf_gi_s hw hf
  refine rf_geti B hw 43 (by decide) rfl lk_409 ez5 dX12_bind_26 ?_
  refine lv_iconst (v := rI 1) hx hb dX12_bind_29 rfl ?_
  obtain ⟨z6, ez6, iz6, hf⟩ := rf_ck_s hf
  refine rn_add hx hb ez6 dX12_bind_30 ?_
  obtain ⟨σ7, eσ7, hf⟩ := rf_pi_s hf
  refine rf_put B hw 43 (by decide) rfl rfl lk_409 iz6 eσ7 rfl rfl dX12_bind_31 (fun H locs hw => ?_)
  exact rf_retv B hf hw dX12_bind_34

set_option maxHeartbeats 4000000 in
set_option maxRecDepth 100000 in
theorem pm_bind {v : rfE} (hD : rf_D v) {l : Launch} {d : Nat} {rec : Nat → RS → List Int → Option (RS × Int)} (hR : rf_Rec l v d rec) (σ σ' : RS) (x1 x2 x3 r : Int) (ix1 : inR x1) (ix2 : inR x2) (ix3 : inR x3) (hf : pf_bind_0 rec σ x1 x2 x3 = some (σ', r)) : rf_Met l v yX12_bind cX12_bind 4 none (d + 1) [.ref (rf_h v), .int (rI x1), .int (rI x2), .int (rI x3)] σ σ' none := by
  refine Met.ofW (cc := cX12_bind) (maxL := 4) (ret := none) (by decide +kernel) rfl ?_
  intro p e s m args below meth c s₁ B hml hv
  obtain ⟨rfl, hM, hK⟩ := hv
  have hts := atoms_spec (ws := Cond.code yX12_bind cX12_bind 4 none :: rf_bw) B.pre
  have hB : rf_B v p s m _ meth c cX12_bind 4 none := ⟨B.exec, B.bytes, B.returns, hml, findClass_of_methodNamed B.named, fun w h => hts w (List.mem_cons_of_mem _ h), B.notSynchronized, hK, hD⟩
  have hl := lv_entry ([.ref (rf_h v), .int (rI x1), .int (rI x2), .int (rI x3)]) (n := 4) (Nat.le_of_ble_eq_true rfl)
  rw [lg_entry_eq]
  generalize (lg_sl ([.ref (rf_h v), .int (rI x1), .int (rI x2), .int (rI x3)]) ++ List.replicate (4 - (lg_sl ([.ref (rf_h v), .int (rI x1), .int (rI x2), .int (rI x3)])).length) Slot.unset).toArray = ls at hl ⊢
  exact ps_bind_0 hR hB σ x1 x2 x3 ix1 ix2 ix3 hf _ _ _ ⟨hM, rfl, fun _ _ => rfl, fun q h => by cases h⟩ (lv_sub hl [0, 1, 2, 3] rfl)

set_option maxHeartbeats 4000000 in
set_option maxRecDepth 100000 in
theorem ps_judge_0 {v : rfE} {p : Program} {l : Launch} {e : Env} {s : State} {m : MethodId} {args : Array Value} {below : List Frame} {meth : Method} {c : Code} {d : Nat} {rec : Nat → RS → List Int → Option (RS × Int)} {σ' : RS} {r : Int} (hR : rf_Rec l v d rec) (B : rf_B v p s m args meth c cX12_judge 3 none) : ∀ (σ : RS) (x1 x2 : Int), inR x1 → inR x2 → pf_judge_0 rec σ x1 x2 = some (σ', r) → ∀ (H : Heap) (locs : List Loc) (ls : Array Slot), rf_W v s σ H locs → lv_has ls 3 [(0, .ref (rf_h v)), (1, .int (rI x1)), (2, .int (rI x2))] → W p l e (rf_rm (d + 1)) s m args below meth c H locs 0 0 (MQ below (rf_Q v σ' none) args s 0 0 (rf_F v)) (F0 m 0 ls []) := by
  obtain ⟨hx, hb, hr, hml, hown, hts, hlk, hK, hD⟩ := id B
  intro σ x1 x2 ix1 ix2 hf H locs ls hw hl
  unfold pf_judge_0 at hf
  refine lv_aload_n hx hb dX12_judge_0 rfl (lv_at hl 0 rfl) ?_
  obtain ⟨z1, ez1, iz1, hf⟩ := rf_gi_s hw hf
  refine rf_geti B hw 72 (by decide) rfl lk_150 ez1 dX12_judge_1 ?_
  refine rn_if_eq (a := z1) (tgt := 8) hx hb iz1 dX12_judge_4 (by decide) (fun c2 => ?_) (fun c2 => ?_)
  · replace hf := rf_if_t hf c2
    refine lv_aload_n hx hb dX12_judge_8 rfl (lv_at hl 0 rfl) ?_
    refine rf_get (val := .ref (rf_ad v 30)) B hw 30 (by decide) lk_76 rfl dX12_judge_9 ?_
    refine lv_iload_n hx hb dX12_judge_12 rfl (lv_at hl 1 rfl) ?_
    obtain ⟨z3, ez3, iz3, rz3, hf⟩ := rf_rd_s hw hf
    refine rf_ald B hw ix1 rz3 ez3 dX12_judge_13 ?_
    by_cases c4 : z3 = 4
    · replace hf := rf_if_t hf c4
      refine rn_tab (n := 4) (tgt := 44) hx hb iz3 c4 dX12_judge_14 (by decide) (by decide) rfl (by decide) ?_
      refine lv_aload_n hx hb dX12_judge_44 rfl (lv_at hl 0 rfl) ?_
      refine lv_iload_n hx hb dX12_judge_45 rfl (lv_at hl 1 rfl) ?_
      refine lv_iload_n hx hb dX12_judge_46 rfl (lv_at hl 2 rfl) ?_
      obtain ⟨σ5, z6, hσ5, hf⟩ := rf_cl_s hf
      obtain ⟨iz6, mσ5⟩ := hR 51 σ [x1, x2] σ5 z6 hσ5
      have mσ5 : rf_Met l v yX12_judgeLambda cX12_judgeLambda 8 none d [.ref (rf_h v), .int (rI x1), .int (rI x2)] σ σ5 none := mσ5 ix1 ix2
      refine rf_cv (n := 2) (rest := []) (As := [.int (rI x1), .int (rI x2)]) B mσ5 g_424_judgeLambda (by decide +kernel) (by decide) rfl hl.1 (Nat.le_of_ble_eq_true rfl) dX12_judge_47 rfl hw (fun H locs hw => ?_)
      refine lv_goto (tgt := 144) hx hb dX12_judge_50 (by decide) ?_
      exact rf_retv B hf hw dX12_judge_144
    · replace hf := rf_if_f hf c4
      by_cases c7 : z3 = 5
      · replace hf := rf_if_t hf c7
        refine rn_tab (n := 5) (tgt := 53) hx hb iz3 c7 dX12_judge_14 (by decide) (by decide) rfl (by decide) ?_
        refine lv_aload_n hx hb dX12_judge_53 rfl (lv_at hl 0 rfl) ?_
        refine lv_iload_n hx hb dX12_judge_54 rfl (lv_at hl 1 rfl) ?_
        refine lv_iload_n hx hb dX12_judge_55 rfl (lv_at hl 2 rfl) ?_
        obtain ⟨σ8, z9, hσ8, hf⟩ := rf_cl_s hf
        obtain ⟨iz9, mσ8⟩ := hR 50 σ [x1, x2] σ8 z9 hσ8
        have mσ8 : rf_Met l v yX12_judgeProduct cX12_judgeProduct 8 none d [.ref (rf_h v), .int (rI x1), .int (rI x2)] σ σ8 none := mσ8 ix1 ix2
        refine rf_cv (n := 2) (rest := []) (As := [.int (rI x1), .int (rI x2)]) B mσ8 g_427_judgeProduct (by decide +kernel) (by decide) rfl hl.1 (Nat.le_of_ble_eq_true rfl) dX12_judge_56 rfl hw (fun H locs hw => ?_)
        refine lv_goto (tgt := 144) hx hb dX12_judge_59 (by decide) ?_
        exact rf_retv B hf hw dX12_judge_144
      · replace hf := rf_if_f hf c7
        by_cases c10 : z3 = 6
        · replace hf := rf_if_t hf c10
          refine rn_tab (n := 6) (tgt := 62) hx hb iz3 c10 dX12_judge_14 (by decide) (by decide) rfl (by decide) ?_
          refine lv_aload_n hx hb dX12_judge_62 rfl (lv_at hl 0 rfl) ?_
          refine lv_aload_n hx hb dX12_judge_63 rfl (lv_at hl 0 rfl) ?_
          refine rf_get (val := .ref (rf_ad v 32)) B hw 32 (by decide) lk_82 rfl dX12_judge_64 ?_
          refine lv_iload_n hx hb dX12_judge_67 rfl (lv_at hl 1 rfl) ?_
          obtain ⟨z11, ez11, iz11, rz11, hf⟩ := rf_rd_s hw hf
          refine rf_ald B hw ix1 rz11 ez11 dX12_judge_68 ?_
          refine lv_iload_n hx hb dX12_judge_69 rfl (lv_at hl 2 rfl) ?_
          obtain ⟨σ12, z13, hσ12, hf⟩ := rf_cl_s hf
          obtain ⟨iz13, mσ12⟩ := hR 49 σ [z11, x2] σ12 z13 hσ12
          have mσ12 : rf_Met l v yX12_judge cX12_judge 3 none d [.ref (rf_h v), .int (rI z11), .int (rI x2)] σ σ12 none := mσ12 iz11 ix2
          refine rf_cv (n := 2) (rest := []) (As := [.int (rI z11), .int (rI x2)]) B mσ12 g_421_judge (by decide +kernel) (by decide) rfl hl.1 (Nat.le_of_ble_eq_true rfl) dX12_judge_70 rfl hw (fun H locs hw => ?_)
          refine lv_aload_n hx hb dX12_judge_73 rfl (lv_at hl 0 rfl) ?_
          obtain ⟨z14, ez14, iz14, hf⟩ := rf_gi_s hw hf
          refine rf_geti B hw 72 (by decide) rfl lk_150 ez14 dX12_judge_74 ?_
          refine rn_if_eq (a := z14) (tgt := 81) hx hb iz14 dX12_judge_77 (by decide) (fun c15 => ?_) (fun c15 => ?_)
          · replace hf := rf_if_t hf c15
            refine lv_aload_n hx hb dX12_judge_81 rfl (lv_at hl 0 rfl) ?_
            refine lv_iload_n hx hb dX12_judge_82 rfl (lv_at hl 1 rfl) ?_
            refine lv_aload_n hx hb dX12_judge_83 rfl (lv_at hl 0 rfl) ?_
            obtain ⟨z16, ez16, iz16, hf⟩ := rf_gi_s hw hf
            refine rf_geti B hw 60 (by decide) rfl lk_403 ez16 dX12_judge_84 ?_
            refine lv_aload_n hx hb dX12_judge_87 rfl (lv_at hl 0 rfl) ?_
            obtain ⟨z17, ez17, iz17, hf⟩ := rf_gi_s hw hf
            refine rf_geti B hw 61 (by decide) rfl lk_406 ez17 dX12_judge_88 ?_
            obtain ⟨σ18, z19, hσ18, hf⟩ := rf_cl_s hf
            obtain ⟨iz19, mσ18⟩ := hR 48 σ12 [x1, z16, z17] σ18 z19 hσ18
            have mσ18 : rf_Met l v yX12_bind cX12_bind 4 none d [.ref (rf_h v), .int (rI x1), .int (rI z16), .int (rI z17)] σ12 σ18 none := mσ18 ix1 iz16 iz17
            refine rf_cv (n := 3) (rest := []) (As := [.int (rI x1), .int (rI z16), .int (rI z17)]) B mσ18 g_430_bind (by decide +kernel) (by decide) rfl hl.1 (Nat.le_of_ble_eq_true rfl) dX12_judge_91 rfl hw (fun H locs hw => ?_)
            refine lv_aload_n hx hb dX12_judge_94 rfl (lv_at hl 0 rfl) ?_
            refine lv_aload_n hx hb dX12_judge_95 rfl (lv_at hl 0 rfl) ?_
            refine rf_get (val := .ref (rf_ad v 33)) B hw 33 (by decide) lk_85 rfl dX12_judge_96 ?_
            refine lv_iload_n hx hb dX12_judge_99 rfl (lv_at hl 1 rfl) ?_
            obtain ⟨z20, ez20, iz20, rz20, hf⟩ := rf_rd_s hw hf
            refine rf_ald B hw ix1 rz20 ez20 dX12_judge_100 ?_
            refine lv_aload_n hx hb dX12_judge_101 rfl (lv_at hl 0 rfl) ?_
            refine lv_iload_n hx hb dX12_judge_102 rfl (lv_at hl 2 rfl) ?_
            refine lv_iload_n hx hb dX12_judge_103 rfl (lv_at hl 1 rfl) ?_
            refine lv_aload_n hx hb dX12_judge_104 rfl (lv_at hl 0 rfl) ?_
            refine rf_get (val := .ref (rf_ad v 32)) B hw 32 (by decide) lk_82 rfl dX12_judge_105 ?_
            refine lv_iload_n hx hb dX12_judge_108 rfl (lv_at hl 1 rfl) ?_
            obtain ⟨z21, ez21, iz21, rz21, hf⟩ := rf_rd_s hw hf
            refine rf_ald B hw ix1 rz21 ez21 dX12_judge_109 ?_
            refine lv_iload_n hx hb dX12_judge_110 rfl (lv_at hl 2 rfl) ?_
            obtain ⟨σ22, z23, hσ22, hf⟩ := rf_cl_s hf
            obtain ⟨iz23, mσ22⟩ := hR 30 σ18 [x2, x1, z21, x2] σ22 z23 hσ22
            have mσ22 : rf_Met l v yX12_cell cX12_cell 5 (some .int) d [.ref (rf_h v), .int (rI x2), .int (rI x1), .int (rI z21), .int (rI x2)] σ18 σ22 (some (.int (rI z23))) := mσ22 ix2 ix1 iz21 ix2
            refine rf_cv (n := 4) (rest := [.int (rI z20), .ref (rf_h v)]) (As := [.int (rI x2), .int (rI x1), .int (rI z21), .int (rI x2)]) B mσ22 g_342_cell (by decide +kernel) (by decide) rfl hl.1 (Nat.le_of_ble_eq_true rfl) dX12_judge_111 rfl hw (fun H locs hw => ?_)
            obtain ⟨σ24, z25, hσ24, hf⟩ := rf_cl_s hf
            obtain ⟨iz25, mσ24⟩ := hR 49 σ22 [z20, z23] σ24 z25 hσ24
            have mσ24 : rf_Met l v yX12_judge cX12_judge 3 none d [.ref (rf_h v), .int (rI z20), .int (rI z23)] σ22 σ24 none := mσ24 iz20 iz23
            refine rf_cv (n := 2) (rest := []) (As := [.int (rI z20), .int (rI z23)]) B mσ24 g_421_judge (by decide +kernel) (by decide) rfl hl.1 (Nat.le_of_ble_eq_true rfl) dX12_judge_114 rfl hw (fun H locs hw => ?_)
            refine lv_aload_n hx hb dX12_judge_117 rfl (lv_at hl 0 rfl) ?_
            refine lv_dup hx hb dX12_judge_118 rfl ?_
            obtain ⟨z26, ez26, iz26, hf⟩ := rf_gi_s hw hf
            refine rf_geti B hw 43 (by decide) rfl lk_409 ez26 dX12_judge_119 ?_
            refine lv_iconst (v := rI 1) hx hb dX12_judge_122 rfl ?_
            obtain ⟨z27, ez27, iz27, hf⟩ := rf_ck_s hf
            refine rn_sub hx hb ez27 dX12_judge_123 ?_
            obtain ⟨σ28, eσ28, hf⟩ := rf_pi_s hf
            refine rf_put B hw 43 (by decide) rfl rfl lk_409 iz27 eσ28 rfl rfl dX12_judge_124 (fun H locs hw => ?_)
            refine lv_goto (tgt := 144) hx hb dX12_judge_127 (by decide) ?_
            exact rf_retv B hf hw dX12_judge_144
          · replace hf := rf_if_f hf c15
            exact rf_retv B hf hw dX12_judge_80
        · replace hf := rf_if_f hf c10
          by_cases c29 : z3 = 7
          · replace hf := rf_if_t hf c29
            refine rn_tab (n := 7) (tgt := 130) hx hb iz3 c29 dX12_judge_14 (by decide) (by decide) rfl (by decide) ?_
            refine lv_aload_n hx hb dX12_judge_130 rfl (lv_at hl 0 rfl) ?_
            refine lv_iload_n hx hb dX12_judge_131 rfl (lv_at hl 1 rfl) ?_
            refine lv_iload_n hx hb dX12_judge_132 rfl (lv_at hl 2 rfl) ?_
            obtain ⟨σ30, z31, hσ30, hf⟩ := rf_cl_s hf
            obtain ⟨iz31, mσ30⟩ := hR 52 σ [x1, x2] σ30 z31 hσ30
            have mσ30 : rf_Met l v yX12_judgeUse cX12_judgeUse 6 none d [.ref (rf_h v), .int (rI x1), .int (rI x2)] σ σ30 none := mσ30 ix1 ix2
            refine rf_cv (n := 2) (rest := []) (As := [.int (rI x1), .int (rI x2)]) B mσ30 g_434_judgeUse (by decide +kernel) (by decide) rfl hl.1 (Nat.le_of_ble_eq_true rfl) dX12_judge_133 rfl hw (fun H locs hw => ?_)
            refine lv_goto (tgt := 144) hx hb dX12_judge_136 (by decide) ?_
            exact rf_retv B hf hw dX12_judge_144
          · replace hf := rf_if_f hf c29
            refine rn_tabO (tgt := 139) hx hb iz3 dX12_judge_14 (by omega) (by decide) ?_
            refine lv_aload_n hx hb dX12_judge_139 rfl (lv_at hl 0 rfl) ?_
            refine lv_iload_n hx hb dX12_judge_140 rfl (lv_at hl 1 rfl) ?_
            obtain ⟨σ32, z33, hσ32, hf⟩ := rf_cl_s hf
            obtain ⟨iz33, mσ32⟩ := hR 46 σ [x1] σ32 z33 hσ32
            have mσ32 : rf_Met l v yX12_judgeName cX12_judgeName 7 none d [.ref (rf_h v), .int (rI x1)] σ σ32 none := mσ32 ix1
            refine rf_cv (n := 1) (rest := []) (As := [.int (rI x1)]) B mσ32 g_437_judgeName (by decide +kernel) (by decide) rfl hl.1 (Nat.le_of_ble_eq_true rfl) dX12_judge_141 rfl hw (fun H locs hw => ?_)
            exact rf_retv B hf hw dX12_judge_144
  · replace hf := rf_if_f hf c2
    exact rf_retv B hf hw dX12_judge_7

