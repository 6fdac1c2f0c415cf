set_option maxHeartbeats 4000000 in
set_option maxRecDepth 100000 in
theorem pw_J15_checkIndex_7cf53_0 {v : cwE} {bd : cBd} {p : Program} {l : Launch} {e : Env} {s : State} {m : MethodId} {args : Array Value} {below : List Frame} {meth : Method} {c : Code} {d : Nat} {rec : Nat → CS → List Int → CO} {σ0 σ' : CS} {kd : Nat} {r : Int} (hbd : bd = cw_bd v) (hR : cw_Rec l v d rec) (htr : l.stackTraces = false) (hd5 : 5 ≤ d) (B : cw_B v RJ15 p s m args meth c cJ15_checkIndex_7cf53 2 (some .int)) (hnh : ∀ x ∈ c.exceptionTable.toList, False) : ∀ (σ : CS) (x0 x1 : Int), inR x0 → inR x1 → pc_J15_checkIndex_7cf53_0 rec bd σ x0 x1 = some (σ', kd, r) → ∀ (H : Heap) (locs : List Loc) (cells slots : Nat) (ls : Array Slot), cw_W v s σ0 σ H locs cells slots → cl_has ls 2 [(0, .int (rI x0)), (1, .int (rI x1))] → W p l e (cw_rm v (d + 1) σ0) s m args below meth c H locs cells slots (cw_Z below v σ0 σ' kd (some (.int (rI r))) args s) (F0 m 0 ls []) := by
  subst hbd
  obtain ⟨hx, hb, hr, hml, hown, hts, hlk, hK⟩ := id B
  intro σ x0 x1 ix0 ix1 hf H locs cells slots ls hw hl
  unfold pc_J15_checkIndex_7cf53_0 at hf
  refine lv_iload_n hx hb dJ15_checkIndex_7cf53_0 rfl (lv_at hl.1 0 rfl) ?_
  refine lv_iload_n hx hb dJ15_checkIndex_7cf53_1 rfl (lv_at hl.1 1 rfl) ?_
  refine cl_null (v := v) hx hb dJ15_checkIndex_7cf53_2 ?_
  obtain ⟨σ1, z3, hσ1, hf⟩ := cc_cn_s hf
  obtain ⟨iz3, mσ1⟩ := hR 1 σ [x0, x1, (-1)] σ1 0 z3 hσ1
  have mσ1 : cw_Met l v yJ3_checkIndex_8e157 cJ3_checkIndex_8e157 3 (some .int) d [.int (rI x0), .int (rI x1), cR v (-1)] σ σ1 0 (some (.int (rI z3))) := mσ1 ix0 ix1 ⟨by decide, by decide⟩
  refine cw_cs (n := 3) (rest := []) (As := [.int (rI x0), .int (rI x1), cR v (-1)]) B mσ1 cgo_yJ3_checkIndex_8e157 cml_J15_105 cst_yJ3_checkIndex_8e157 (by decide +kernel) (by decide) rfl hl.1.1 (Nat.le_of_ble_eq_true rfl) dJ15_checkIndex_7cf53_3 rfl hw (fun h0 H locs cells slots hw => ?_) (fun h0 H locs cells slots q ce hw h1 h2 h3 => ?_)
  · skip
    exact cw_reti B hf hw dJ15_checkIndex_7cf53_6
  · exact absurd rfl h0

set_option maxHeartbeats 4000000 in
set_option maxRecDepth 100000 in
theorem pm_J15_checkIndex_7cf53 {v : cwE} {bd : cBd} {l : Launch} {d : Nat} {rec : Nat → CS → List Int → CO} (hbd : bd = cw_bd v) (hR : cw_Rec l v d rec) (htr : l.stackTraces = false) (hd5 : 5 ≤ d) (σ σ' : CS) (x0 x1 : Int) (kd : Nat) (r : Int) (ix0 : inR x0) (ix1 : inR x1) (hf : pc_J15_checkIndex_7cf53_0 rec bd σ x0 x1 = some (σ', kd, r)) : cw_Met l v yJ15_checkIndex_7cf53 cJ15_checkIndex_7cf53 2 (some .int) (d + 1) [.int (rI x0), .int (rI x1)] σ σ' kd (some (.int (rI r))) := by
  refine cw_ofW (by decide +kernel) ?_
  intro p e s m args below meth c s₁ B hml hv
  obtain ⟨rfl, hM, hK⟩ := hv
  have hts := atoms_spec (ws := Cond.code yJ15_checkIndex_7cf53 cJ15_checkIndex_7cf53 2 (some .int) :: cw_bw) B.pre
  have hB : cw_B v RJ15 p s m _ meth c cJ15_checkIndex_7cf53 2 (some .int) := ⟨B.exec, B.bytes, B.returns, hml, findClass_of_methodNamed B.named, fun w h => hts w (List.mem_cons_of_mem _ h), B.notSynchronized, hK⟩
  have hnh := cc_nh B (hts _ List.mem_cons_self)
  rw [lg_entry_eq]
  obtain ⟨ls, hls, hl⟩ := cl_ent [.int (rI x0), .int (rI x1)] 2 (cl_1i (cl_1i cl_10)) (Nat.le_of_ble_eq_true rfl)
  rw [hls]
  exact pw_J15_checkIndex_7cf53_0 hbd hR htr hd5 hB hnh σ x0 x1 ix0 ix1 hf _ _ _ _ _ (cw_W0 hM) (cl_sub hl [0, 1] rfl)

set_option maxHeartbeats 4000000 in
set_option maxRecDepth 100000 in
theorem pw_J3_checkIndex_8e157_9 {v : cwE} {bd : cBd} {p : Program} {l : Launch} {e : Env} {s : State} {m : MethodId} {args : Array Value} {below : List Frame} {meth : Method} {c : Code} {d : Nat} {rec : Nat → CS → List Int → CO} {σ0 σ' : CS} {kd : Nat} {r : Int} (hbd : bd = cw_bd v) (hR : cw_Rec l v d rec) (htr : l.stackTraces = false) (hd5 : 5 ≤ d) (B : cw_B v RJ3 p s m args meth c cJ3_checkIndex_8e157 3 (some .int)) (hnh : ∀ x ∈ c.exceptionTable.toList, False) : ∀ (σ : CS) (x0 x1 x2 : Int), inR x0 → inR x1 → inR x2 → pc_J3_checkIndex_8e157_9 rec bd σ x0 x1 x2 = some (σ', kd, r) → ∀ (H : Heap) (locs : List Loc) (cells slots : Nat) (ls : Array Slot), cw_W v s σ0 σ H locs cells slots → cl_has ls 3 [(0, .int (rI x0)), (1, .int (rI x1)), (2, cR v x2)] → W p l e (cw_rm v (d + 1) σ0) s m args below meth c H locs cells slots (cw_Z below v σ0 σ' kd (some (.int (rI r))) args s) (F0 m 9 ls []) := by
  subst hbd
  obtain ⟨hx, hb, hr, hml, hown, hts, hlk, hK⟩ := id B
  intro σ x0 x1 x2 ix0 ix1 ix2 hf H locs cells slots ls hw hl
  unfold pc_J3_checkIndex_8e157_9 at hf
  refine cl_aload_n hx hb dJ3_checkIndex_8e157_9 rfl (lv_at hl.1 2 rfl) ?_
  refine lv_iload_n hx hb dJ3_checkIndex_8e157_10 rfl (lv_at hl.1 0 rfl) ?_
  refine lv_iload_n hx hb dJ3_checkIndex_8e157_11 rfl (lv_at hl.1 1 rfl) ?_
  cases hf

set_option maxHeartbeats 4000000 in
set_option maxRecDepth 100000 in
theorem pw_J3_checkIndex_8e157_0 {v : cwE} {bd : cBd} {p : Program} {l : Launch} {e : Env} {s : State} {m : MethodId} {args : Array Value} {below : List Frame} {meth : Method} {c : Code} {d : Nat} {rec : Nat → CS → List Int → CO} {σ0 σ' : CS} {kd : Nat} {r : Int} (hbd : bd = cw_bd v) (hR : cw_Rec l v d rec) (htr : l.stackTraces = false) (hd5 : 5 ≤ d) (B : cw_B v RJ3 p s m args meth c cJ3_checkIndex_8e157 3 (some .int)) (hnh : ∀ x ∈ c.exceptionTable.toList, False) : ∀ (σ : CS) (x0 x1 x2 : Int), inR x0 → inR x1 → inR x2 → pc_J3_checkIndex_8e157_0 rec bd σ x0 x1 x2 = some (σ', kd, r) → ∀ (H : Heap) (locs : List Loc) (cells slots : Nat) (ls : Array Slot), cw_W v s σ0 σ H locs cells slots → cl_has ls 3 [(0, .int (rI x0)), (1, .int (rI x1)), (2, cR v x2)] → W p l e (cw_rm v (d + 1) σ0) s m args below meth c H locs cells slots (cw_Z below v σ0 σ' kd (some (.int (rI r))) args s) (F0 m 0 ls []) := by
  subst hbd
  obtain ⟨hx, hb, hr, hml, hown, hts, hlk, hK⟩ := id B
  intro σ x0 x1 x2 ix0 ix1 ix2 hf H locs cells slots ls hw hl
  unfold pc_J3_checkIndex_8e157_0 at hf
  refine lv_iload_n hx hb dJ3_checkIndex_8e157_0 rfl (lv_at hl.1 0 rfl) ?_
  refine rn_if_lt (a := x0) (tgt := 9) hx hb ix0 dJ3_checkIndex_8e157_1 (by decide) (fun c1 => ?_) (fun c1 => ?_)
  · replace hf := cc_if_t hf c1
    exact pw_J3_checkIndex_8e157_9 rfl hR htr hd5 B hnh σ x0 x1 x2 ix0 ix1 ix2 hf _ _ _ _ _ hw (cl_sub hl [0, 1, 2] rfl)
  · replace hf := cc_if_f hf c1
    refine lv_iload_n hx hb dJ3_checkIndex_8e157_4 rfl (lv_at hl.1 0 rfl) ?_
    refine lv_iload_n hx hb dJ3_checkIndex_8e157_5 rfl (lv_at hl.1 1 rfl) ?_
    refine rn_icmp_lt (a := x0) (b := x1) (tgt := 16) hx hb ix0 ix1 dJ3_checkIndex_8e157_6 (by decide) (fun c2 => ?_) (fun c2 => ?_)
    · replace hf := cc_if_t hf c2
      refine lv_iload_n hx hb dJ3_checkIndex_8e157_16 rfl (lv_at hl.1 0 rfl) ?_
      exact cw_reti B hf hw dJ3_checkIndex_8e157_17
    · replace hf := cc_if_f hf c2
      exact pw_J3_checkIndex_8e157_9 rfl hR htr hd5 B hnh σ x0 x1 x2 ix0 ix1 ix2 hf _ _ _ _ _ hw (cl_sub hl [0, 1, 2] rfl)

set_option maxHeartbeats 4000000 in
set_option maxRecDepth 100000 in
theorem pm_J3_checkIndex_8e157 {v : cwE} {bd : cBd} {l : Launch} {d : Nat} {rec : Nat → CS → List Int → CO} (hbd : bd = cw_bd v) (hR : cw_Rec l v d rec) (htr : l.stackTraces = false) (hd5 : 5 ≤ d) (σ σ' : CS) (x0 x1 x2 : Int) (kd : Nat) (r : Int) (ix0 : inR x0) (ix1 : inR x1) (ix2 : inR x2) (hf : pc_J3_checkIndex_8e157_0 rec bd σ x0 x1 x2 = some (σ', kd, r)) : cw_Met l v yJ3_checkIndex_8e157 cJ3_checkIndex_8e157 3 (some .int) (d + 1) [.int (rI x0), .int (rI x1), cR v x2] σ σ' kd (some (.int (rI r))) := by
  refine cw_ofW (by decide +kernel) ?_
  intro p e s m args below meth c s₁ B hml hv
  obtain ⟨rfl, hM, hK⟩ := hv
  have hts := atoms_spec (ws := Cond.code yJ3_checkIndex_8e157 cJ3_checkIndex_8e157 3 (some .int) :: cw_bw) B.pre
  have hB : cw_B v RJ3 p s m _ meth c cJ3_checkIndex_8e157 3 (some .int) := ⟨B.exec, B.bytes, B.returns, hml, findClass_of_methodNamed B.named, fun w h => hts w (List.mem_cons_of_mem _ h), B.notSynchronized, hK⟩
  have hnh := cc_nh B (hts _ List.mem_cons_self)
  rw [lg_entry_eq]
  obtain ⟨ls, hls, hl⟩ := cl_ent [.int (rI x0), .int (rI x1), cR v x2] 3 (cl_1i (cl_1i (cl_1r cl_10))) (Nat.le_of_ble_eq_true rfl)
  rw [hls]
  exact pw_J3_checkIndex_8e157_0 hbd hR htr hd5 hB hnh σ x0 x1 x2 ix0 ix1 ix2 hf _ _ _ _ _ (cw_W0 hM) (cl_sub hl [0, 1, 2] rfl)

set_option maxHeartbeats 4000000 in
set_option maxRecDepth 100000 in
theorem pw_J7_copyOf_1904c_0 {v : cwE} {bd : cBd} {p : Program} {l : Launch} {e : Env} {s : State} {m : MethodId} {args : Array Value} {below : List Frame} {meth : Method} {c : Code} {d : Nat} {rec : Nat → CS → List Int → CO} {σ0 σ' : CS} {kd : Nat} {r : Int} (hbd : bd = cw_bd v) (hR : cw_Rec l v d rec) (htr : l.stackTraces = false) (hd5 : 5 ≤ d) (B : cw_B v RJ7 p s m args meth c cJ7_copyOf_1904c 2 (some (.array (.object "java/lang/Object")))) (hnh : ∀ x ∈ c.exceptionTable.toList, False) : ∀ (σ : CS) (x0 x1 : Int), inR x0 → inR x1 → pc_J7_copyOf_1904c_0 rec bd σ x0 x1 = some (σ', kd, r) → ∀ (H : Heap) (locs : List Loc) (cells slots : Nat) (ls : Array Slot), cw_W v s σ0 σ H locs cells slots → cl_has ls 2 [(0, cR v x0), (1, .int (rI x1))] → W p l e (cw_rm v (d + 1) σ0) s m args below meth c H locs cells slots (cw_Z below v σ0 σ' kd (some (cR v r)) args s) (F0 m 0 ls []) := by
  subst hbd
  obtain ⟨hx, hb, hr, hml, hown, hts, hlk, hK⟩ := id B
  intro σ x0 x1 ix0 ix1 hf H locs cells slots ls hw hl
  unfold pc_J7_copyOf_1904c_0 at hf
  refine cl_aload_n hx hb dJ7_copyOf_1904c_0 rfl (lv_at hl.1 0 rfl) ?_
  refine lv_iload_n hx hb dJ7_copyOf_1904c_1 rfl (lv_at hl.1 1 rfl) ?_
  refine cl_aload_n hx hb dJ7_copyOf_1904c_2 rfl (lv_at hl.1 0 rfl) ?_
  obtain ⟨q2, hf⟩ := cc_t_s hf
  obtain ⟨z1, ez1, iz1, hf⟩ := cc_gs_s hf
  refine cw_getcl B hw q2 ez1 cnm_J7_86 cgc_s cgc_i cgc_n hl.1.1 (cl_cs (cl_1i (cl_1r cl_10)) (Nat.le_of_ble_eq_true rfl)) dJ7_copyOf_1904c_3 ?_
  obtain ⟨σ3, z5, hσ3, hf⟩ := cc_cn_s hf
  obtain ⟨iz5, mσ3⟩ := hR 3 σ [x0, x1, z1] σ3 0 z5 hσ3
  have mσ3 : cw_Met l v yJ7_copyOf_6403c cJ7_copyOf_6403c 4 (some (.array (.object "java/lang/Object"))) d [cR v x0, .int (rI x1), cR v z1] σ σ3 0 (some (cR v z5)) := mσ3 ix0 ix1 iz1
  refine cw_cs (n := 3) (rest := []) (As := [cR v x0, .int (rI x1), cR v z1]) B mσ3 cgo_yJ7_copyOf_6403c cml_J7_300 cst_yJ7_copyOf_6403c (by decide +kernel) (by decide) rfl hl.1.1 (Nat.le_of_ble_eq_true rfl) dJ7_copyOf_1904c_6 rfl hw (fun h0 H locs cells slots hw => ?_) (fun h0 H locs cells slots q ce hw h1 h2 h3 => ?_)
  · skip
    exact cw_retA B hf hw dJ7_copyOf_1904c_9
  · exact absurd rfl h0

set_option maxHeartbeats 4000000 in
set_option maxRecDepth 100000 in
theorem pm_J7_copyOf_1904c {v : cwE} {bd : cBd} {l : Launch} {d : Nat} {rec : Nat → CS → List Int → CO} (hbd : bd = cw_bd v) (hR : cw_Rec l v d rec) (htr : l.stackTraces = false) (hd5 : 5 ≤ d) (σ σ' : CS) (x0 x1 : Int) (kd : Nat) (r : Int) (ix0 : inR x0) (ix1 : inR x1) (hf : pc_J7_copyOf_1904c_0 rec bd σ x0 x1 = some (σ', kd, r)) : cw_Met l v yJ7_copyOf_1904c cJ7_copyOf_1904c 2 (some (.array (.object "java/lang/Object"))) (d + 1) [cR v x0, .int (rI x1)] σ σ' kd (some (cR v r)) := by
  refine cw_ofW (by decide +kernel) ?_
  intro p e s m args below meth c s₁ B hml hv
  obtain ⟨rfl, hM, hK⟩ := hv
  have hts := atoms_spec (ws := Cond.code yJ7_copyOf_1904c cJ7_copyOf_1904c 2 (some (.array (.object "java/lang/Object"))) :: cw_bw) B.pre
  have hB : cw_B v RJ7 p s m _ meth c cJ7_copyOf_1904c 2 (some (.array (.object "java/lang/Object"))) := ⟨B.exec, B.bytes, B.returns, hml, findClass_of_methodNamed B.named, fun w h => hts w (List.mem_cons_of_mem _ h), B.notSynchronized, hK⟩
  have hnh := cc_nh B (hts _ List.mem_cons_self)
  rw [lg_entry_eq]
  obtain ⟨ls, hls, hl⟩ := cl_ent [cR v x0, .int (rI x1)] 2 (cl_1r (cl_1i cl_10)) (Nat.le_of_ble_eq_true rfl)
  rw [hls]
  exact pw_J7_copyOf_1904c_0 hbd hR htr hd5 hB hnh σ x0 x1 ix0 ix1 hf _ _ _ _ _ (cw_W0 hM) (cl_sub hl [0, 1] rfl)

set_option maxHeartbeats 4000000 in
set_option maxRecDepth 100000 in
theorem pw_J7_copyOf_6403c_0 {v : cwE} {bd : cBd} {p : Program} {l : Launch} {e : Env} {s : State} {m : MethodId} {args : Array Value} {below : List Frame} {meth : Method} {c : Code} {d : Nat} {rec : Nat → CS → List Int → CO} {σ0 σ' : CS} {kd : Nat} {r : Int} (hbd : bd = cw_bd v) (hR : cw_Rec l v d rec) (htr : l.stackTraces = false) (hd5 : 5 ≤ d) (B : cw_B v RJ7 p s m args meth c cJ7_copyOf_6403c 4 (some (.array (.object "java/lang/Object")))) (hnh : ∀ x ∈ c.exceptionTable.toList, False) : ∀ (σ : CS) (x0 x1 x2 : Int), inR x0 → inR x1 → inR x2 → pc_J7_copyOf_6403c_0 rec bd σ x0 x1 x2 = some (σ', kd, r) → ∀ (H : Heap) (locs : List Loc) (cells slots : Nat) (ls : Array Slot), cw_W v s σ0 σ H locs cells slots → cl_has ls 4 [(0, cR v x0), (1, .int (rI x1)), (2, cR v x2)] → W p l e (cw_rm v (d + 1) σ0) s m args below meth c H locs cells slots (cw_Z below v σ0 σ' kd (some (cR v r)) args s) (F0 m 0 ls []) := by
  subst hbd
  obtain ⟨hx, hb, hr, hml, hown, hts, hlk, hK⟩ := id B
  intro σ x0 x1 x2 ix0 ix1 ix2 hf H locs cells slots ls hw hl
  unfold pc_J7_copyOf_6403c_0 at hf
  refine cl_aload_n hx hb dJ7_copyOf_6403c_0 rfl (lv_at hl.1 2 rfl) ?_
  obtain ⟨z1, ez1, iz1, hf⟩ := cc_gs_s hf
  refine cw_ldcc B ccl_J7_110 ez1 dJ7_copyOf_6403c_1 ?_
  obtain ⟨q3, hf⟩ := cc_ac_s hf
  refine cl_acmp_ne (tgt := 13) hx hb hw q3 dJ7_copyOf_6403c_3 (by decide) (fun c2 => ?_) (fun c2 => ?_)
  · replace hf := cc_if_t hf c2
    refine cl_aload_n hx hb dJ7_copyOf_6403c_13 rfl (lv_at hl.1 2 rfl) ?_
    cases hf
  · replace hf := cc_if_f hf c2
    refine lv_iload_n hx hb dJ7_copyOf_6403c_6 rfl (lv_at hl.1 1 rfl) ?_
    obtain ⟨σ4, z5, eσ4, ez5, iz5, qσ4, rσ4, hf⟩ := cc_na_s hf
    refine cw_anew (t := 23) B hw (Or.inr ⟨rfl, rfl⟩) ccl_J7_2 ix1 qσ4.1 qσ4.2 rσ4 eσ4 ez5 dJ7_copyOf_6403c_7 (fun H hw => ?_)
    refine lv_goto (tgt := 24) hx hb dJ7_copyOf_6403c_10 (by decide) ?_
    refine cl_astore_n (lv' := [(3, cR v z5), (0, cR v x0), (1, .int (rI x1)), (2, cR v x2)]) hx hb dJ7_copyOf_6403c_24 rfl hl (by decide) rfl (fun ls hl => ?_)
    refine cl_aload_n hx hb dJ7_copyOf_6403c_25 rfl (lv_at hl.1 1 rfl) ?_
    refine lv_iconst (v := rI 0) hx hb dJ7_copyOf_6403c_26 rfl ?_
    refine cl_aload_n hx hb dJ7_copyOf_6403c_27 rfl (lv_at hl.1 0 rfl) ?_
    refine lv_iconst (v := rI 0) hx hb dJ7_copyOf_6403c_28 rfl ?_
    refine cl_aload_n hx hb dJ7_copyOf_6403c_29 rfl (lv_at hl.1 1 rfl) ?_
    obtain ⟨z6, ez6, iz6, rz6, hf⟩ := cc_l_s hf
    refine cw_len B hw rz6 (by decide) ez6 iz6 dJ7_copyOf_6403c_30 ?_
    refine lv_iload_n hx hb dJ7_copyOf_6403c_31 rfl (lv_at hl.1 2 rfl) ?_
    obtain ⟨z7, ez7, iz7, hf⟩ := cc_mn_s iz6 ix1 hf
    refine cw_mmin B hw iz6 ix1 ez7 cml_J7_304 cma_min_s cma_i cma_min_c hl.1.1 (cl_cs (cl_1i (cl_1r (cl_1i (cl_1r cl_10)))) (Nat.le_of_ble_eq_true rfl)) dJ7_copyOf_6403c_32 ?_
    obtain ⟨σ8, eσ8, qσ8, hf⟩ := cc_ay_s hf
    refine cw_acopy B hw qσ8 iz7 eσ8 cnm_J7_150 cay_n cay_s cay_i hl.1.1 (Nat.le_of_ble_eq_true rfl) dJ7_copyOf_6403c_35 (fun H locs hw => ?_)
    refine cl_aload_n hx hb dJ7_copyOf_6403c_38 rfl (lv_at hl.1 0 rfl) ?_
    exact cw_retA B hf hw dJ7_copyOf_6403c_39

set_option maxHeartbeats 4000000 in
set_option maxRecDepth 100000 in
theorem pm_J7_copyOf_6403c {v : cwE} {bd : cBd} {l : Launch} {d : Nat} {rec : Nat → CS → List Int → CO} (hbd : bd = cw_bd v) (hR : cw_Rec l v d rec) (htr : l.stackTraces = false) (hd5 : 5 ≤ d) (σ σ' : CS) (x0 x1 x2 : Int) (kd : Nat) (r : Int) (ix0 : inR x0) (ix1 : inR x1) (ix2 : inR x2) (hf : pc_J7_copyOf_6403c_0 rec bd σ x0 x1 x2 = some (σ', kd, r)) : cw_Met l v yJ7_copyOf_6403c cJ7_copyOf_6403c 4 (some (.array (.object "java/lang/Object"))) (d + 1) [cR v x0, .int (rI x1), cR v x2] σ σ' kd (some (cR v r)) := by
  refine cw_ofW (by decide +kernel) ?_
  intro p e s m args below meth c s₁ B hml hv
  obtain ⟨rfl, hM, hK⟩ := hv
  have hts := atoms_spec (ws := Cond.code yJ7_copyOf_6403c cJ7_copyOf_6403c 4 (some (.array (.object "java/lang/Object"))) :: cw_bw) B.pre
  have hB : cw_B v RJ7 p s m _ meth c cJ7_copyOf_6403c 4 (some (.array (.object "java/lang/Object"))) := ⟨B.exec, B.bytes, B.returns, hml, findClass_of_methodNamed B.named, fun w h => hts w (List.mem_cons_of_mem _ h), B.notSynchronized, hK⟩
  have hnh := cc_nh B (hts _ List.mem_cons_self)
  rw [lg_entry_eq]
  obtain ⟨ls, hls, hl⟩ := cl_ent [cR v x0, .int (rI x1), cR v x2] 4 (cl_1r (cl_1i (cl_1r cl_10))) (Nat.le_of_ble_eq_true rfl)
  rw [hls]
  exact pw_J7_copyOf_6403c_0 hbd hR htr hd5 hB hnh σ x0 x1 x2 ix0 ix1 ix2 hf _ _ _ _ _ (cw_W0 hM) (cl_sub hl [0, 1, 2] rfl)

set_option maxHeartbeats 4000000 in
set_option maxRecDepth 100000 in
theorem pw_J8_hugeLength_7cf53_0 {v : cwE} {bd : cBd} {p : Program} {l : Launch} {e : Env} {s : State} {m : MethodId} {args : Array Value} {below : List Frame} {meth : Method} {c : Code} {d : Nat} {rec : Nat → CS → List Int → CO} {σ0 σ' : CS} {kd : Nat} {r : Int} (hbd : bd = cw_bd v) (hR : cw_Rec l v d rec) (htr : l.stackTraces = false) (hd5 : 5 ≤ d) (B : cw_B v RJ8 p s m args meth c cJ8_hugeLength_7cf53 3 (some .int)) (hnh : ∀ x ∈ c.exceptionTable.toList, False) : ∀ (σ : CS) (x0 x1 : Int), inR x0 → inR x1 → pc_J8_hugeLength_7cf53_0 rec bd σ x0 x1 = some (σ', kd, r) → ∀ (H : Heap) (locs : List Loc) (cells slots : Nat) (ls : Array Slot), cw_W v s σ0 σ H locs cells slots → cl_has ls 3 [(0, .int (rI x0)), (1, .int (rI x1))] → W p l e (cw_rm v (d + 1) σ0) s m args below meth c H locs cells slots (cw_Z below v σ0 σ' kd (some (.int (rI r))) args s) (F0 m 0 ls []) := by
  subst hbd
  obtain ⟨hx, hb, hr, hml, hown, hts, hlk, hK⟩ := id B
  intro σ x0 x1 ix0 ix1 hf H locs cells slots ls hw hl
  unfold pc_J8_hugeLength_7cf53_0 at hf
  refine lv_iload_n hx hb dJ8_hugeLength_7cf53_0 rfl (lv_at hl.1 0 rfl) ?_
  refine lv_iload_n hx hb dJ8_hugeLength_7cf53_1 rfl (lv_at hl.1 1 rfl) ?_
  obtain ⟨z1, ez1, iz1, hf⟩ := cc_ck_s hf
  refine rn_add hx hb ez1 dJ8_hugeLength_7cf53_2 ?_
  refine cl_istore_n (lv' := [(2, .int (rI z1)), (0, .int (rI x0)), (1, .int (rI x1))]) hx hb dJ8_hugeLength_7cf53_3 rfl hl (by decide) rfl (fun ls hl => ?_)
  refine lv_iload_n hx hb dJ8_hugeLength_7cf53_4 rfl (lv_at hl.1 0 rfl) ?_
  refine rn_if_ge (a := z1) (tgt := 49) hx hb iz1 dJ8_hugeLength_7cf53_5 (by decide) (fun c2 => ?_) (fun c2 => ?_)
  · replace hf := cc_if_t hf c2
    refine lv_iload_n hx hb dJ8_hugeLength_7cf53_49 rfl (lv_at hl.1 0 rfl) ?_
    refine lv_ldc (v := rI 2147483639) hx hb hown (hts _ clc_J8_200) dJ8_hugeLength_7cf53_50 ?_
    refine rn_icmp_gt (a := z1) (b := 2147483639) (tgt := 58) hx hb iz1 ⟨by decide, by decide⟩ dJ8_hugeLength_7cf53_52 (by decide) (fun c3 => ?_) (fun c3 => ?_)
    · replace hf := cc_if_t hf c3
      refine lv_iload_n hx hb dJ8_hugeLength_7cf53_58 rfl (lv_at hl.1 0 rfl) ?_
      exact cw_reti B hf hw dJ8_hugeLength_7cf53_59
    · replace hf := cc_if_f hf c3
      refine lv_ldc (v := rI 2147483639) hx hb hown (hts _ clc_J8_200) dJ8_hugeLength_7cf53_55 ?_
      exact cw_reti B hf hw dJ8_hugeLength_7cf53_57
  · replace hf := cc_if_f hf c2
    cases hf

set_option maxHeartbeats 4000000 in
set_option maxRecDepth 100000 in
theorem pm_J8_hugeLength_7cf53 {v : cwE} {bd : cBd} {l : Launch} {d : Nat} {rec : Nat → CS → List Int → CO} (hbd : bd = cw_bd v) (hR : cw_Rec l v d rec) (htr : l.stackTraces = false) (hd5 : 5 ≤ d) (σ σ' : CS) (x0 x1 : Int) (kd : Nat) (r : Int) (ix0 : inR x0) (ix1 : inR x1) (hf : pc_J8_hugeLength_7cf53_0 rec bd σ x0 x1 = some (σ', kd, r)) : cw_Met l v yJ8_hugeLength_7cf53 cJ8_hugeLength_7cf53 3 (some .int) (d + 1) [.int (rI x0), .int (rI x1)] σ σ' kd (some (.int (rI r))) := by
  refine cw_ofW (by decide +kernel) ?_
  intro p e s m args below meth c s₁ B hml hv
  obtain ⟨rfl, hM, hK⟩ := hv
  have hts := atoms_spec (ws := Cond.code yJ8_hugeLength_7cf53 cJ8_hugeLength_7cf53 3 (some .int) :: cw_bw) B.pre
  have hB : cw_B v RJ8 p s m _ meth c cJ8_hugeLength_7cf53 3 (some .int) := ⟨B.exec, B.bytes, B.returns, hml, findClass_of_methodNamed B.named, fun w h => hts w (List.mem_cons_of_mem _ h), B.notSynchronized, hK⟩
  have hnh := cc_nh B (hts _ List.mem_cons_self)
  rw [lg_entry_eq]
  obtain ⟨ls, hls, hl⟩ := cl_ent [.int (rI x0), .int (rI x1)] 3 (cl_1i (cl_1i cl_10)) (Nat.le_of_ble_eq_true rfl)
  rw [hls]
  exact pw_J8_hugeLength_7cf53_0 hbd hR htr hd5 hB hnh σ x0 x1 ix0 ix1 hf _ _ _ _ _ (cw_W0 hM) (cl_sub hl [0, 1] rfl)

set_option maxHeartbeats 4000000 in
set_option maxRecDepth 100000 in
theorem pw_J8_newLength_cabcc_21 {v : cwE} {bd : cBd} {p : Program} {l : Launch} {e : Env} {s : State} {m : MethodId} {args : Array Value} {below : List Frame} {meth : Method} {c : Code} {d : Nat} {rec : Nat → CS → List Int → CO} {σ0 σ' : CS} {kd : Nat} {r : Int} (hbd : bd = cw_bd v) (hR : cw_Rec l v d rec) (htr : l.stackTraces = false) (hd5 : 5 ≤ d) (B : cw_B v RJ8 p s m args meth c cJ8_newLength_cabcc 4 (some .int)) (hnh : ∀ x ∈ c.exceptionTable.toList, False) : ∀ (σ : CS) (x0 x1 : Int), inR x0 → inR x1 → pc_J8_newLength_cabcc_21 rec bd σ x0 x1 = some (σ', kd, r) → ∀ (H : Heap) (locs : List Loc) (cells slots : Nat) (ls : Array Slot), cw_W v s σ0 σ H locs cells slots → cl_has ls 4 [(0, .int (rI x0)), (1, .int (rI x1))] → W p l e (cw_rm v (d + 1) σ0) s m args below meth c H locs cells slots (cw_Z below v σ0 σ' kd (some (.int (rI r))) args s) (F0 m 21 ls []) := by
  subst hbd
  obtain ⟨hx, hb, hr, hml, hown, hts, hlk, hK⟩ := id B
  intro σ x0 x1 ix0 ix1 hf H locs cells slots ls hw hl
  unfold pc_J8_newLength_cabcc_21 at hf
  refine lv_iload_n hx hb dJ8_newLength_cabcc_21 rfl (lv_at hl.1 0 rfl) ?_
  refine lv_iload_n hx hb dJ8_newLength_cabcc_22 rfl (lv_at hl.1 1 rfl) ?_
  obtain ⟨σ1, z3, hσ1, hf⟩ := cc_cn_s hf
  obtain ⟨iz3, mσ1⟩ := hR 4 σ [x0, x1] σ1 0 z3 hσ1
  have mσ1 : cw_Met l v yJ8_hugeLength_7cf53 cJ8_hugeLength_7cf53 3 (some .int) d [.int (rI x0), .int (rI x1)] σ σ1 0 (some (.int (rI z3))) := mσ1 ix0 ix1
  refine cw_cs (n := 2) (rest := []) (As := [.int (rI x0), .int (rI x1)]) B mσ1 cgo_yJ8_hugeLength_7cf53 cml_J8_201 cst_yJ8_hugeLength_7cf53 (by decide +kernel) (by decide) rfl hl.1.1 (Nat.le_of_ble_eq_true rfl) dJ8_newLength_cabcc_23 rfl hw (fun h0 H locs cells slots hw => ?_) (fun h0 H locs cells slots q ce hw h1 h2 h3 => ?_)
  · skip
    exact cw_reti B hf hw dJ8_newLength_cabcc_26
  · exact absurd rfl h0

set_option maxHeartbeats 4000000 in
set_option maxRecDepth 100000 in
theorem pw_J8_newLength_cabcc_0 {v : cwE} {bd : cBd} {p : Program} {l : Launch} {e : Env} {s : State} {m : MethodId} {args : Array Value} {below : List Frame} {meth : Method} {c : Code} {d : Nat} {rec : Nat → CS → List Int → CO} {σ0 σ' : CS} {kd : Nat} {r : Int} (hbd : bd = cw_bd v) (hR : cw_Rec l v d rec) (htr : l.stackTraces = false) (hd5 : 5 ≤ d) (B : cw_B v RJ8 p s m args meth c cJ8_newLength_cabcc 4 (some .int)) (hnh : ∀ x ∈ c.exceptionTable.toList, False) : ∀ (σ : CS) (x0 x1 x2 : Int), inR x0 → inR x1 → inR x2 → pc_J8_newLength_cabcc_0 rec bd σ x0 x1 x2 = some (σ', kd, r) → ∀ (H : Heap) (locs : List Loc) (cells slots : Nat) (ls : Array Slot), cw_W v s σ0 σ H locs cells slots → cl_has ls 4 [(0, .int (rI x0)), (1, .int (rI x1)), (2, .int (rI x2))] → W p l e (cw_rm v (d + 1) σ0) s m args below meth c H locs cells slots (cw_Z below v σ0 σ' kd (some (.int (rI r))) args s) (F0 m 0 ls []) := by
  subst hbd
  obtain ⟨hx, hb, hr, hml, hown, hts, hlk, hK⟩ := id B
  intro σ x0 x1 x2 ix0 ix1 ix2 hf H locs cells slots ls hw hl
  unfold pc_J8_newLength_cabcc_0 at hf
  refine lv_iload_n hx hb dJ8_newLength_cabcc_0 rfl (lv_at hl.1 0 rfl) ?_
  refine lv_iload_n hx hb dJ8_newLength_cabcc_1 rfl (lv_at hl.1 1 rfl) ?_
  refine lv_iload_n hx hb dJ8_newLength_cabcc_2 rfl (lv_at hl.1 2 rfl) ?_
  obtain ⟨z1, ez1, iz1, hf⟩ := cc_mx_s ix1 ix2 hf
  refine cw_mmax B hw ix1 ix2 ez1 cml_J8_194 cma_max_s cma_i cma_max_c hl.1.1 (Nat.le_of_ble_eq_true rfl) dJ8_newLength_cabcc_3 ?_
  obtain ⟨z2, ez2, iz2, hf⟩ := cc_ck_s hf
  refine rn_add hx hb ez2 dJ8_newLength_cabcc_6 ?_
  refine cl_istore_n (lv' := [(3, .int (rI z2)), (0, .int (rI x0)), (1, .int (rI x1)), (2, .int (rI x2))]) hx hb dJ8_newLength_cabcc_7 rfl hl (by decide) rfl (fun ls hl => ?_)
  refine lv_iconst (v := rI 0) hx hb dJ8_newLength_cabcc_8 rfl ?_
  refine lv_iload_n hx hb dJ8_newLength_cabcc_9 rfl (lv_at hl.1 0 rfl) ?_
  refine rn_icmp_ge (a := 0) (b := z2) (tgt := 21) hx hb ⟨by decide, by decide⟩ iz2 dJ8_newLength_cabcc_10 (by decide) (fun c3 => ?_) (fun c3 => ?_)
  · replace hf := cc_if_t hf c3
    exact pw_J8_newLength_cabcc_21 rfl hR htr hd5 B hnh σ x0 x1 ix0 ix1 hf _ _ _ _ _ hw (cl_sub hl [1, 2] rfl)
  · replace hf := cc_if_f hf c3
    refine lv_iload_n hx hb dJ8_newLength_cabcc_13 rfl (lv_at hl.1 0 rfl) ?_
    refine lv_ldc (v := rI 2147483639) hx hb hown (hts _ clc_J8_200) dJ8_newLength_cabcc_14 ?_
    refine rn_icmp_gt (a := z2) (b := 2147483639) (tgt := 21) hx hb iz2 ⟨by decide, by decide⟩ dJ8_newLength_cabcc_16 (by decide) (fun c4 => ?_) (fun c4 => ?_)
    · replace hf := cc_if_t hf c4
      exact pw_J8_newLength_cabcc_21 rfl hR htr hd5 B hnh σ x0 x1 ix0 ix1 hf _ _ _ _ _ hw (cl_sub hl [1, 2] rfl)
    · replace hf := cc_if_f hf c4
      refine lv_iload_n hx hb dJ8_newLength_cabcc_19 rfl (lv_at hl.1 0 rfl) ?_
      exact cw_reti B hf hw dJ8_newLength_cabcc_20

set_option maxHeartbeats 4000000 in
set_option maxRecDepth 100000 in
theorem pm_J8_newLength_cabcc {v : cwE} {bd : cBd} {l : Launch} {d : Nat} {rec : Nat → CS → List Int → CO} (hbd : bd = cw_bd v) (hR : cw_Rec l v d rec) (htr : l.stackTraces = false) (hd5 : 5 ≤ d) (σ σ' : CS) (x0 x1 x2 : Int) (kd : Nat) (r : Int) (ix0 : inR x0) (ix1 : inR x1) (ix2 : inR x2) (hf : pc_J8_newLength_cabcc_0 rec bd σ x0 x1 x2 = some (σ', kd, r)) : cw_Met l v yJ8_newLength_cabcc cJ8_newLength_cabcc 4 (some .int) (d + 1) [.int (rI x0), .int (rI x1), .int (rI x2)] σ σ' kd (some (.int (rI r))) := by
  refine cw_ofW (by decide +kernel) ?_
  intro p e s m args below meth c s₁ B hml hv
  obtain ⟨rfl, hM, hK⟩ := hv
  have hts := atoms_spec (ws := Cond.code yJ8_newLength_cabcc cJ8_newLength_cabcc 4 (some .int) :: cw_bw) B.pre
  have hB : cw_B v RJ8 p s m _ meth c cJ8_newLength_cabcc 4 (some .int) := ⟨B.exec, B.bytes, B.returns, hml, findClass_of_methodNamed B.named, fun w h => hts w (List.mem_cons_of_mem _ h), B.notSynchronized, hK⟩
  have hnh := cc_nh B (hts _ List.mem_cons_self)
  rw [lg_entry_eq]
  obtain ⟨ls, hls, hl⟩ := cl_ent [.int (rI x0), .int (rI x1), .int (rI x2)] 4 (cl_1i (cl_1i (cl_1i cl_10))) (Nat.le_of_ble_eq_true rfl)
  rw [hls]
  exact pw_J8_newLength_cabcc_0 hbd hR htr hd5 hB hnh σ x0 x1 x2 ix0 ix1 ix2 hf _ _ _ _ _ (cw_W0 hM) (cl_sub hl [0, 1, 2] rfl)

set_option maxHeartbeats 4000000 in
set_option maxRecDepth 100000 in
theorem pw_Jx4a65c_add_72be8_11 {v : cwE} {bd : cBd} {p : Program} {l : Launch} {e : Env} {s : State} {m : MethodId} {args : Array Value} {below : List Frame} {meth : Method} {c : Code} {d : Nat} {rec : Nat → CS → List Int → CO} {σ0 σ' : CS} {kd : Nat} {r : Int} (hbd : bd = cw_bd v) (hR : cw_Rec l v d rec) (htr : l.stackTraces = false) (hd5 : 5 ≤ d) (B : cw_B v RJx4a65c p s m args meth c cJx4a65c_add_72be8 4 none) (hnh : ∀ x ∈ c.exceptionTable.toList, False) : ∀ (σ : CS) (x0 x1 x2 x3 : Int), inR x0 → inR x1 → inR x2 → inR x3 → pc_Jx4a65c_add_72be8_11 rec bd σ x0 x1 x2 x3 = some (σ', kd, r) → ∀ (H : Heap) (locs : List Loc) (cells slots : Nat) (ls : Array Slot), cw_W v s σ0 σ H locs cells slots → cl_has ls 4 [(0, cR v x0), (1, cR v x1), (2, cR v x2), (3, .int (rI x3))] → W p l e (cw_rm v (d + 1) σ0) s m args below meth c H locs cells slots (cw_Z below v σ0 σ' kd none args s) (F0 m 11 ls []) := by
  subst hbd
  obtain ⟨hx, hb, hr, hml, hown, hts, hlk, hK⟩ := id B
  intro σ x0 x1 x2 x3 ix0 ix1 ix2 ix3 hf H locs cells slots ls hw hl
  unfold pc_Jx4a65c_add_72be8_11 at hf
  refine cl_aload_n hx hb dJx4a65c_add_72be8_11 rfl (lv_at hl.1 2 rfl) ?_
  refine lv_iload_n hx hb dJx4a65c_add_72be8_12 rfl (lv_at hl.1 3 rfl) ?_
  refine cl_aload_n hx hb dJx4a65c_add_72be8_13 rfl (lv_at hl.1 1 rfl) ?_
  obtain ⟨qσ1, hf⟩ := cc_to_s hf
  obtain ⟨σ1, eσ1, rσ1, bσ1, hf⟩ := cc_w_s hf
  refine cw_astO B hw rσ1 ix3 bσ1 ix1 qσ1 eσ1 dJx4a65c_add_72be8_14 (fun H locs hw => ?_)
  refine cl_aload_n hx hb dJx4a65c_add_72be8_15 rfl (lv_at hl.1 0 rfl) ?_
  refine lv_iload_n hx hb dJx4a65c_add_72be8_16 rfl (lv_at hl.1 3 rfl) ?_
  refine lv_iconst (v := rI 1) hx hb dJx4a65c_add_72be8_17 rfl ?_
  obtain ⟨z2, ez2, iz2, hf⟩ := cc_ck_s hf
  refine rn_add hx hb ez2 dJx4a65c_add_72be8_18 ?_
  obtain ⟨σ3, eσ3, rσ3, hf⟩ := cc_p_s hf
  refine cw_put B hw rσ3 cwt_13 (by decide) rfl cfl_Jx4a65c_48 iz2 eσ3 rfl (cw_fv_n rfl rfl) dJx4a65c_add_72be8_19 (fun H locs hw => ?_)
  exact cw_retv B hf hw dJx4a65c_add_72be8_22

set_option maxHeartbeats 4000000 in
set_option maxRecDepth 100000 in
theorem pw_Jx4a65c_add_72be8_0 {v : cwE} {bd : cBd} {p : Program} {l : Launch} {e : Env} {s : State} {m : MethodId} {args : Array Value} {below : List Frame} {meth : Method} {c : Code} {d : Nat} {rec : Nat → CS → List Int → CO} {σ0 σ' : CS} {kd : Nat} {r : Int} (hbd : bd = cw_bd v) (hR : cw_Rec l v d rec) (htr : l.stackTraces = false) (hd5 : 5 ≤ d) (B : cw_B v RJx4a65c p s m args meth c cJx4a65c_add_72be8 4 none) (hnh : ∀ x ∈ c.exceptionTable.toList, False) : ∀ (σ : CS) (x0 x1 x2 x3 : Int), inR x0 → inR x1 → inR x2 → inR x3 → pc_Jx4a65c_add_72be8_0 rec bd σ x0 x1 x2 x3 = some (σ', kd, r) → ∀ (H : Heap) (locs : List Loc) (cells slots : Nat) (ls : Array Slot), cw_W v s σ0 σ H locs cells slots → cl_has ls 4 [(0, cR v x0), (1, cR v x1), (2, cR v x2), (3, .int (rI x3))] → W p l e (cw_rm v (d + 1) σ0) s m args below meth c H locs cells slots (cw_Z below v σ0 σ' kd none args s) (F0 m 0 ls []) := by
  subst hbd
  obtain ⟨hx, hb, hr, hml, hown, hts, hlk, hK⟩ := id B
  intro σ x0 x1 x2 x3 ix0 ix1 ix2 ix3 hf H locs cells slots ls hw hl
  unfold pc_Jx4a65c_add_72be8_0 at hf
  refine lv_iload_n hx hb dJx4a65c_add_72be8_0 rfl (lv_at hl.1 3 rfl) ?_
  refine cl_aload_n hx hb dJx4a65c_add_72be8_1 rfl (lv_at hl.1 2 rfl) ?_
  obtain ⟨z1, ez1, iz1, rz1, hf⟩ := cc_l_s hf
  refine cw_len B hw rz1 (by decide) ez1 iz1 dJx4a65c_add_72be8_2 ?_
  refine rn_icmp_ne (a := x3) (b := z1) (tgt := 11) hx hb ix3 iz1 dJx4a65c_add_72be8_3 (by decide) (fun c2 => ?_) (fun c2 => ?_)
  · replace hf := cc_if_t hf c2
    exact pw_Jx4a65c_add_72be8_11 rfl hR htr hd5 B hnh σ x0 x1 x2 x3 ix0 ix1 ix2 ix3 hf _ _ _ _ _ hw (cl_sub hl [0, 1, 2, 3] rfl)
  · replace hf := cc_if_f hf c2
    refine cl_aload_n hx hb dJx4a65c_add_72be8_6 rfl (lv_at hl.1 0 rfl) ?_
    obtain ⟨qσ3, hf⟩ := cc_t_s hf
    obtain ⟨σ3, z5, hσ3, hf⟩ := cc_cn_s hf
    obtain ⟨iz5, mσ3⟩ := hR 11 σ [x0] σ3 0 z5 hσ3
    have mσ3 : cw_Met l v yJx4a65c_grow_d5877 cJx4a65c_grow_d5877 1 (some (.array (.object "java/lang/Object"))) d [cR v x0] σ σ3 0 (some (cR v z5)) := mσ3 ix0
    refine cw_cv (b := x0) (t := 13) (n := 0) (rest := []) (As := []) B mσ3 qσ3 ⟨by decide, by decide⟩ cgo_yJx4a65c_grow_d5877 cml_Jx4a65c_129 cin_yJx4a65c_grow_d5877 cse_yJx4a65c_grow_d5877 (by decide +kernel) (by decide) rfl hl.1.1 (Nat.le_of_ble_eq_true rfl) dJx4a65c_add_72be8_7 rfl hw (fun h0 H locs cells slots hw => ?_) (fun h0 H locs cells slots q ce hw h1 h2 h3 => ?_)
    · skip
      refine cl_astore_n (lv' := [(2, cR v z5), (0, cR v x0), (1, cR v x1), (3, .int (rI x3))]) hx hb dJx4a65c_add_72be8_10 rfl hl (by decide) rfl (fun ls hl => ?_)
      exact pw_Jx4a65c_add_72be8_11 rfl hR htr hd5 B hnh σ3 x0 x1 z5 x3 ix0 ix1 iz5 ix3 hf _ _ _ _ _ hw (cl_sub hl [1, 2, 0, 3] rfl)
    · exact absurd rfl h0

set_option maxHeartbeats 4000000 in
set_option maxRecDepth 100000 in
theorem pm_Jx4a65c_add_72be8 {v : cwE} {bd : cBd} {l : Launch} {d : Nat} {rec : Nat → CS → List Int → CO} (hbd : bd = cw_bd v) (hR : cw_Rec l v d rec) (htr : l.stackTraces = false) (hd5 : 5 ≤ d) (σ σ' : CS) (x0 x1 x2 x3 : Int) (kd : Nat) (r : Int) (ix0 : inR x0) (ix1 : inR x1) (ix2 : inR x2) (ix3 : inR x3) (hf : pc_Jx4a65c_add_72be8_0 rec bd σ x0 x1 x2 x3 = some (σ', kd, r)) : cw_Met l v yJx4a65c_add_72be8 cJx4a65c_add_72be8 4 none (d + 1) [cR v x0, cR v x1, cR v x2, .int (rI x3)] σ σ' kd none := by
  refine cw_ofW (by decide +kernel) ?_
  intro p e s m args below meth c s₁ B hml hv
  obtain ⟨rfl, hM, hK⟩ := hv
  have hts := atoms_spec (ws := Cond.code yJx4a65c_add_72be8 cJx4a65c_add_72be8 4 none :: cw_bw) B.pre
  have hB : cw_B v RJx4a65c p s m _ meth c cJx4a65c_add_72be8 4 none := ⟨B.exec, B.bytes, B.returns, hml, findClass_of_methodNamed B.named, fun w h => hts w (List.mem_cons_of_mem _ h), B.notSynchronized, hK⟩
  have hnh := cc_nh B (hts _ List.mem_cons_self)
  rw [lg_entry_eq]
  obtain ⟨ls, hls, hl⟩ := cl_ent [cR v x0, cR v x1, cR v x2, .int (rI x3)] 4 (cl_1r (cl_1r (cl_1r (cl_1i cl_10)))) (Nat.le_of_ble_eq_true rfl)
  rw [hls]
  exact pw_Jx4a65c_add_72be8_0 hbd hR htr hd5 hB hnh σ x0 x1 x2 x3 ix0 ix1 ix2 ix3 hf _ _ _ _ _ (cw_W0 hM) (cl_sub hl [0, 1, 2, 3] rfl)

set_option maxHeartbeats 4000000 in
set_option maxRecDepth 100000 in
theorem pw_Jx4a65c_add_9ea2d_0 {v : cwE} {bd : cBd} {p : Program} {l : Launch} {e : Env} {s : State} {m : MethodId} {args : Array Value} {below : List Frame} {meth : Method} {c : Code} {d : Nat} {rec : Nat → CS → List Int → CO} {σ0 σ' : CS} {kd : Nat} {r : Int} (hbd : bd = cw_bd v) (hR : cw_Rec l v d rec) (htr : l.stackTraces = false) (hd5 : 5 ≤ d) (B : cw_B v RJx4a65c p s m args meth c cJx4a65c_add_9ea2d 2 (some .boolean)) (hnh : ∀ x ∈ c.exceptionTable.toList, False) : ∀ (σ : CS) (x0 x1 : Int), inR x0 → inR x1 → pc_Jx4a65c_add_9ea2d_0 rec bd σ x0 x1 = some (σ', kd, r) → ∀ (H : Heap) (locs : List Loc) (cells slots : Nat) (ls : Array Slot), cw_W v s σ0 σ H locs cells slots → cl_has ls 2 [(0, cR v x0), (1, cR v x1)] → W p l e (cw_rm v (d + 1) σ0) s m args below meth c H locs cells slots (cw_Z below v σ0 σ' kd (some (.int (rI r))) args s) (F0 m 0 ls []) := by
  subst hbd
  obtain ⟨hx, hb, hr, hml, hown, hts, hlk, hK⟩ := id B
  intro σ x0 x1 ix0 ix1 hf H locs cells slots ls hw hl
  unfold pc_Jx4a65c_add_9ea2d_0 at hf
  refine cl_aload_n hx hb dJx4a65c_add_9ea2d_0 rfl (lv_at hl.1 0 rfl) ?_
  refine lv_dup hx hb dJx4a65c_add_9ea2d_1 (cR_cat _) ?_
  obtain ⟨z1, ez1, iz1, rz1, hf⟩ := cc_g_s hw hf
  refine cw_getS (val := .int (rI z1)) B hw rz1 ⟨by decide, by decide⟩ (by decide) cwi_13 csf_0 cfr_Jx4a65c_63 ez1 rfl dJx4a65c_add_9ea2d_2 ?_
  refine lv_iconst (v := rI 1) hx hb dJx4a65c_add_9ea2d_5 rfl ?_
  obtain ⟨z2, ez2, iz2, hf⟩ := cc_ck_s hf
  refine rn_add hx hb ez2 dJx4a65c_add_9ea2d_6 ?_
  obtain ⟨σ3, eσ3, rσ3, hf⟩ := cc_p_s hf
  refine cw_putS B hw rσ3 cwt_13 (by decide) rfl csf_0 cfr_Jx4a65c_63 iz2 eσ3 rfl (cw_fv_n rfl rfl) dJx4a65c_add_9ea2d_7 (fun H locs hw => ?_)
  refine cl_aload_n hx hb dJx4a65c_add_9ea2d_10 rfl (lv_at hl.1 0 rfl) ?_
  refine cl_aload_n hx hb dJx4a65c_add_9ea2d_11 rfl (lv_at hl.1 1 rfl) ?_
  refine cl_aload_n hx hb dJx4a65c_add_9ea2d_12 rfl (lv_at hl.1 0 rfl) ?_
  obtain ⟨z4, ez4, iz4, rz4, hf⟩ := cc_g_s hw hf
  refine cw_get (val := cR v z4) B hw rz4 ⟨by decide, by decide⟩ (by decide) cwi_13 cfl_Jx4a65c_9 ez4 rfl dJx4a65c_add_9ea2d_13 ?_
  refine cl_aload_n hx hb dJx4a65c_add_9ea2d_16 rfl (lv_at hl.1 0 rfl) ?_
  obtain ⟨z5, ez5, iz5, rz5, hf⟩ := cc_g_s hw hf
  refine cw_get (val := .int (rI z5)) B hw rz5 ⟨by decide, by decide⟩ (by decide) cwi_13 cfl_Jx4a65c_48 ez5 rfl dJx4a65c_add_9ea2d_17 ?_
  obtain ⟨qσ6, hf⟩ := cc_t_s hf
  obtain ⟨σ6, z8, hσ6, hf⟩ := cc_cn_s hf
  obtain ⟨iz8, mσ6⟩ := hR 6 σ3 [x0, x1, z4, z5] σ6 0 z8 hσ6
  have mσ6 : cw_Met l v yJx4a65c_add_72be8 cJx4a65c_add_72be8 4 none d [cR v x0, cR v x1, cR v z4, .int (rI z5)] σ3 σ6 0 none := mσ6 ix0 ix1 iz4 iz5
  refine cw_cv (b := x0) (t := 13) (n := 3) (rest := []) (As := [cR v x1, cR v z4, .int (rI z5)]) B mσ6 qσ6 ⟨by decide, by decide⟩ cgo_yJx4a65c_add_72be8 cml_Jx4a65c_131 cin_yJx4a65c_add_72be8 cse_yJx4a65c_add_72be8 (by decide +kernel) (by decide) rfl hl.1.1 (Nat.le_of_ble_eq_true rfl) dJx4a65c_add_9ea2d_20 rfl hw (fun h0 H locs cells slots hw => ?_) (fun h0 H locs cells slots q ce hw h1 h2 h3 => ?_)
  · skip
    refine lv_iconst (v := rI 1) hx hb dJx4a65c_add_9ea2d_23 rfl ?_
    obtain ⟨h01, hf⟩ := cc_bo_s hf
    exact cw_retz B h01 hf hw dJx4a65c_add_9ea2d_24
  · exact absurd rfl h0

set_option maxHeartbeats 4000000 in
set_option maxRecDepth 100000 in
theorem pm_Jx4a65c_add_9ea2d {v : cwE} {bd : cBd} {l : Launch} {d : Nat} {rec : Nat → CS → List Int → CO} (hbd : bd = cw_bd v) (hR : cw_Rec l v d rec) (htr : l.stackTraces = false) (hd5 : 5 ≤ d) (σ σ' : CS) (x0 x1 : Int) (kd : Nat) (r : Int) (ix0 : inR x0) (ix1 : inR x1) (hf : pc_Jx4a65c_add_9ea2d_0 rec bd σ x0 x1 = some (σ', kd, r)) : cw_Met l v yJx4a65c_add_9ea2d cJx4a65c_add_9ea2d 2 (some .boolean) (d + 1) [cR v x0, cR v x1] σ σ' kd (some (.int (rI r))) := by
  refine cw_ofW (by decide +kernel) ?_
  intro p e s m args below meth c s₁ B hml hv
  obtain ⟨rfl, hM, hK⟩ := hv
  have hts := atoms_spec (ws := Cond.code yJx4a65c_add_9ea2d cJx4a65c_add_9ea2d 2 (some .boolean) :: cw_bw) B.pre
  have hB : cw_B v RJx4a65c p s m _ meth c cJx4a65c_add_9ea2d 2 (some .boolean) := ⟨B.exec, B.bytes, B.returns, hml, findClass_of_methodNamed B.named, fun w h => hts w (List.mem_cons_of_mem _ h), B.notSynchronized, hK⟩
  have hnh := cc_nh B (hts _ List.mem_cons_self)
  rw [lg_entry_eq]
  obtain ⟨ls, hls, hl⟩ := cl_ent [cR v x0, cR v x1] 2 (cl_1r (cl_1r cl_10)) (Nat.le_of_ble_eq_true rfl)
  rw [hls]
  exact pw_Jx4a65c_add_9ea2d_0 hbd hR htr hd5 hB hnh σ x0 x1 ix0 ix1 hf _ _ _ _ _ (cw_W0 hM) (cl_sub hl [0, 1] rfl)

set_option maxHeartbeats 4000000 in
set_option maxRecDepth 100000 in
theorem pw_Jx4a65c_elementData_915e3_0 {v : cwE} {bd : cBd} {p : Program} {l : Launch} {e : Env} {s : State} {m : MethodId} {args : Array Value} {below : List Frame} {meth : Method} {c : Code} {d : Nat} {rec : Nat → CS → List Int → CO} {σ0 σ' : CS} {kd : Nat} {r : Int} (hbd : bd = cw_bd v) (hR : cw_Rec l v d rec) (htr : l.stackTraces = false) (hd5 : 5 ≤ d) (B : cw_B v RJx4a65c p s m args meth c cJx4a65c_elementData_915e3 2 (some (.object "java/lang/Object"))) (hnh : ∀ x ∈ c.exceptionTable.toList, False) : ∀ (σ : CS) (x0 x1 : Int), inR x0 → inR x1 → pc_Jx4a65c_elementData_915e3_0 rec bd σ x0 x1 = some (σ', kd, r) → ∀ (H : Heap) (locs : List Loc) (cells slots : Nat) (ls : Array Slot), cw_W v s σ0 σ H locs cells slots → cl_has ls 2 [(0, cR v x0), (1, .int (rI x1))] → W p l e (cw_rm v (d + 1) σ0) s m args below meth c H locs cells slots (cw_Z below v σ0 σ' kd (some (cR v r)) args s) (F0 m 0 ls []) := by
  subst hbd
  obtain ⟨hx, hb, hr, hml, hown, hts, hlk, hK⟩ := id B
  intro σ x0 x1 ix0 ix1 hf H locs cells slots ls hw hl
  unfold pc_Jx4a65c_elementData_915e3_0 at hf
  refine cl_aload_n hx hb dJx4a65c_elementData_915e3_0 rfl (lv_at hl.1 0 rfl) ?_
  obtain ⟨z1, ez1, iz1, rz1, hf⟩ := cc_g_s hw hf
  refine cw_get (val := cR v z1) B hw rz1 ⟨by decide, by decide⟩ (by decide) cwi_13 cfl_Jx4a65c_9 ez1 rfl dJx4a65c_elementData_915e3_1 ?_
  refine lv_iload_n hx hb dJx4a65c_elementData_915e3_4 rfl (lv_at hl.1 1 rfl) ?_
  obtain ⟨z2, ez2, iz2, rz2, bz2, hf⟩ := cc_r_s hw hf
  refine cw_aldO B hw rz2 ix1 bz2 ez2 dJx4a65c_elementData_915e3_5 ?_
  exact cw_reta B hf hw dJx4a65c_elementData_915e3_6

set_option maxHeartbeats 4000000 in
set_option maxRecDepth 100000 in
theorem pm_Jx4a65c_elementData_915e3 {v : cwE} {bd : cBd} {l : Launch} {d : Nat} {rec : Nat → CS → List Int → CO} (hbd : bd = cw_bd v) (hR : cw_Rec l v d rec) (htr : l.stackTraces = false) (hd5 : 5 ≤ d) (σ σ' : CS) (x0 x1 : Int) (kd : Nat) (r : Int) (ix0 : inR x0) (ix1 : inR x1) (hf : pc_Jx4a65c_elementData_915e3_0 rec bd σ x0 x1 = some (σ', kd, r)) : cw_Met l v yJx4a65c_elementData_915e3 cJx4a65c_elementData_915e3 2 (some (.object "java/lang/Object")) (d + 1) [cR v x0, .int (rI x1)] σ σ' kd (some (cR v r)) := by
  refine cw_ofW (by decide +kernel) ?_
  intro p e s m args below meth c s₁ B hml hv
  obtain ⟨rfl, hM, hK⟩ := hv
  have hts := atoms_spec (ws := Cond.code yJx4a65c_elementData_915e3 cJx4a65c_elementData_915e3 2 (some (.object "java/lang/Object")) :: cw_bw) B.pre
  have hB : cw_B v RJx4a65c p s m _ meth c cJx4a65c_elementData_915e3 2 (some (.object "java/lang/Object")) := ⟨B.exec, B.bytes, B.returns, hml, findClass_of_methodNamed B.named, fun w h => hts w (List.mem_cons_of_mem _ h), B.notSynchronized, hK⟩
  have hnh := cc_nh B (hts _ List.mem_cons_self)
  rw [lg_entry_eq]
  obtain ⟨ls, hls, hl⟩ := cl_ent [cR v x0, .int (rI x1)] 2 (cl_1r (cl_1i cl_10)) (Nat.le_of_ble_eq_true rfl)
  rw [hls]
  exact pw_Jx4a65c_elementData_915e3_0 hbd hR htr hd5 hB hnh σ x0 x1 ix0 ix1 hf _ _ _ _ _ (cw_W0 hM) (cl_sub hl [0, 1] rfl)

set_option maxHeartbeats 4000000 in
set_option maxRecDepth 100000 in
theorem pw_Jx4a65c_get_915e3_0 {v : cwE} {bd : cBd} {p : Program} {l : Launch} {e : Env} {s : State} {m : MethodId} {args : Array Value} {below : List Frame} {meth : Method} {c : Code} {d : Nat} {rec : Nat → CS → List Int → CO} {σ0 σ' : CS} {kd : Nat} {r : Int} (hbd : bd = cw_bd v) (hR : cw_Rec l v d rec) (htr : l.stackTraces = false) (hd5 : 5 ≤ d) (B : cw_B v RJx4a65c p s m args meth c cJx4a65c_get_915e3 2 (some (.object "java/lang/Object"))) (hnh : ∀ x ∈ c.exceptionTable.toList, False) : ∀ (σ : CS) (x0 x1 : Int), inR x0 → inR x1 → pc_Jx4a65c_get_915e3_0 rec bd σ x0 x1 = some (σ', kd, r) → ∀ (H : Heap) (locs : List Loc) (cells slots : Nat) (ls : Array Slot), cw_W v s σ0 σ H locs cells slots → cl_has ls 2 [(0, cR v x0), (1, .int (rI x1))] → W p l e (cw_rm v (d + 1) σ0) s m args below meth c H locs cells slots (cw_Z below v σ0 σ' kd (some (cR v r)) args s) (F0 m 0 ls []) := by
  subst hbd
  obtain ⟨hx, hb, hr, hml, hown, hts, hlk, hK⟩ := id B
  intro σ x0 x1 ix0 ix1 hf H locs cells slots ls hw hl
  unfold pc_Jx4a65c_get_915e3_0 at hf
  refine lv_iload_n hx hb dJx4a65c_get_915e3_0 rfl (lv_at hl.1 1 rfl) ?_
  refine cl_aload_n hx hb dJx4a65c_get_915e3_1 rfl (lv_at hl.1 0 rfl) ?_
  obtain ⟨z1, ez1, iz1, rz1, hf⟩ := cc_g_s hw hf
  refine cw_get (val := .int (rI z1)) B hw rz1 ⟨by decide, by decide⟩ (by decide) cwi_13 cfl_Jx4a65c_48 ez1 rfl dJx4a65c_get_915e3_2 ?_
  obtain ⟨σ2, z4, hσ2, hf⟩ := cc_cn_s hf
  obtain ⟨iz4, mσ2⟩ := hR 0 σ [x1, z1] σ2 0 z4 hσ2
  have mσ2 : cw_Met l v yJ15_checkIndex_7cf53 cJ15_checkIndex_7cf53 2 (some .int) d [.int (rI x1), .int (rI z1)] σ σ2 0 (some (.int (rI z4))) := mσ2 ix1 iz1
  refine cw_cs (n := 2) (rest := []) (As := [.int (rI x1), .int (rI z1)]) B mσ2 cgo_yJ15_checkIndex_7cf53 cml_Jx4a65c_118 cst_yJ15_checkIndex_7cf53 (by decide +kernel) (by decide) rfl hl.1.1 (Nat.le_of_ble_eq_true rfl) dJx4a65c_get_915e3_5 rfl hw (fun h0 H locs cells slots hw => ?_) (fun h0 H locs cells slots q ce hw h1 h2 h3 => ?_)
  · skip
    refine lv_pop hx hb dJx4a65c_get_915e3_8 rfl ?_
    refine cl_aload_n hx hb dJx4a65c_get_915e3_9 rfl (lv_at hl.1 0 rfl) ?_
    refine lv_iload_n hx hb dJx4a65c_get_915e3_10 rfl (lv_at hl.1 1 rfl) ?_
    obtain ⟨qσ5, hf⟩ := cc_t_s hf
    obtain ⟨σ5, z7, hσ5, hf⟩ := cc_cn_s hf
    obtain ⟨iz7, mσ5⟩ := hR 8 σ2 [x0, x1] σ5 0 z7 hσ5
    have mσ5 : cw_Met l v yJx4a65c_elementData_915e3 cJx4a65c_elementData_915e3 2 (some (.object "java/lang/Object")) d [cR v x0, .int (rI x1)] σ2 σ5 0 (some (cR v z7)) := mσ5 ix0 ix1
    refine cw_cv (b := x0) (t := 13) (n := 1) (rest := []) (As := [.int (rI x1)]) B mσ5 qσ5 ⟨by decide, by decide⟩ cgo_yJx4a65c_elementData_915e3 cml_Jx4a65c_123 cin_yJx4a65c_elementData_915e3 cse_yJx4a65c_elementData_915e3 (by decide +kernel) (by decide) rfl hl.1.1 (Nat.le_of_ble_eq_true rfl) dJx4a65c_get_915e3_11 rfl hw (fun h0 H locs cells slots hw => ?_) (fun h0 H locs cells slots q ce hw h1 h2 h3 => ?_)
    · skip
      exact cw_reta B hf hw dJx4a65c_get_915e3_14
    · exact absurd rfl h0
  · exact absurd rfl h0

set_option maxHeartbeats 4000000 in
set_option maxRecDepth 100000 in
theorem pm_Jx4a65c_get_915e3 {v : cwE} {bd : cBd} {l : Launch} {d : Nat} {rec : Nat → CS → List Int → CO} (hbd : bd = cw_bd v) (hR : cw_Rec l v d rec) (htr : l.stackTraces = false) (hd5 : 5 ≤ d) (σ σ' : CS) (x0 x1 : Int) (kd : Nat) (r : Int) (ix0 : inR x0) (ix1 : inR x1) (hf : pc_Jx4a65c_get_915e3_0 rec bd σ x0 x1 = some (σ', kd, r)) : cw_Met l v yJx4a65c_get_915e3 cJx4a65c_get_915e3 2 (some (.object "java/lang/Object")) (d + 1) [cR v x0, .int (rI x1)] σ σ' kd (some (cR v r)) := by
  refine cw_ofW (by decide +kernel) ?_
  intro p e s m args below meth c s₁ B hml hv
  obtain ⟨rfl, hM, hK⟩ := hv
  have hts := atoms_spec (ws := Cond.code yJx4a65c_get_915e3 cJx4a65c_get_915e3 2 (some (.object "java/lang/Object")) :: cw_bw) B.pre
  have hB : cw_B v RJx4a65c p s m _ meth c cJx4a65c_get_915e3 2 (some (.object "java/lang/Object")) := ⟨B.exec, B.bytes, B.returns, hml, findClass_of_methodNamed B.named, fun w h => hts w (List.mem_cons_of_mem _ h), B.notSynchronized, hK⟩
  have hnh := cc_nh B (hts _ List.mem_cons_self)
  rw [lg_entry_eq]
  obtain ⟨ls, hls, hl⟩ := cl_ent [cR v x0, .int (rI x1)] 2 (cl_1r (cl_1i cl_10)) (Nat.le_of_ble_eq_true rfl)
  rw [hls]
  exact pw_Jx4a65c_get_915e3_0 hbd hR htr hd5 hB hnh σ x0 x1 ix0 ix1 hf _ _ _ _ _ (cw_W0 hM) (cl_sub hl [0, 1] rfl)

set_option maxHeartbeats 4000000 in
set_option maxRecDepth 100000 in
theorem pw_Jx4a65c_grow_92f84_20 {v : cwE} {bd : cBd} {p : Program} {l : Launch} {e : Env} {s : State} {m : MethodId} {args : Array Value} {below : List Frame} {meth : Method} {c : Code} {d : Nat} {rec : Nat → CS → List Int → CO} {σ0 σ' : CS} {kd : Nat} {r : Int} (hbd : bd = cw_bd v) (hR : cw_Rec l v d rec) (htr : l.stackTraces = false) (hd5 : 5 ≤ d) (B : cw_B v RJx4a65c p s m args meth c cJx4a65c_grow_92f84 4 (some (.array (.object "java/lang/Object")))) (hnh : ∀ x ∈ c.exceptionTable.toList, False) : ∀ (σ : CS) (x0 x1 x2 : Int), inR x0 → inR x1 → inR x2 → pc_Jx4a65c_grow_92f84_20 rec bd σ x0 x1 x2 = some (σ', kd, r) → ∀ (H : Heap) (locs : List Loc) (cells slots : Nat) (ls : Array Slot), cw_W v s σ0 σ H locs cells slots → cl_has ls 4 [(0, cR v x0), (1, .int (rI x1)), (2, .int (rI x2))] → W p l e (cw_rm v (d + 1) σ0) s m args below meth c H locs cells slots (cw_Z below v σ0 σ' kd (some (cR v r)) args s) (F0 m 20 ls []) := by
  subst hbd
  obtain ⟨hx, hb, hr, hml, hown, hts, hlk, hK⟩ := id B
  intro σ x0 x1 x2 ix0 ix1 ix2 hf H locs cells slots ls hw hl
  unfold pc_Jx4a65c_grow_92f84_20 at hf
  refine lv_iload_n hx hb dJx4a65c_grow_92f84_20 rfl (lv_at hl.1 2 rfl) ?_
  refine lv_iload_n hx hb dJx4a65c_grow_92f84_21 rfl (lv_at hl.1 1 rfl) ?_
  refine lv_iload_n hx hb dJx4a65c_grow_92f84_22 rfl (lv_at hl.1 2 rfl) ?_
  obtain ⟨z1, ez1, iz1, hf⟩ := cc_ck_s hf
  refine rn_sub hx hb ez1 dJx4a65c_grow_92f84_23 ?_
  refine lv_iload_n hx hb dJx4a65c_grow_92f84_24 rfl (lv_at hl.1 2 rfl) ?_
  refine lv_iconst (v := rI 1) hx hb dJx4a65c_grow_92f84_25 rfl ?_
  obtain ⟨z2, ez2, iz2, hf⟩ := cc_nm_s hf
  refine lv_ishr hx hb dJx4a65c_grow_92f84_26 ?_
  refine rn_top ez2 ?_
  obtain ⟨σ3, z5, hσ3, hf⟩ := cc_cn_s hf
  obtain ⟨iz5, mσ3⟩ := hR 5 σ [x2, z1, z2] σ3 0 z5 hσ3
  have mσ3 : cw_Met l v yJ8_newLength_cabcc cJ8_newLength_cabcc 4 (some .int) d [.int (rI x2), .int (rI z1), .int (rI z2)] σ σ3 0 (some (.int (rI z5))) := mσ3 ix2 iz1 iz2
  refine cw_cs (n := 3) (rest := []) (As := [.int (rI x2), .int (rI z1), .int (rI z2)]) B mσ3 cgo_yJ8_newLength_cabcc cml_Jx4a65c_73 cst_yJ8_newLength_cabcc (by decide +kernel) (by decide) rfl hl.1.1 (Nat.le_of_ble_eq_true rfl) dJx4a65c_grow_92f84_27 rfl hw (fun h0 H locs cells slots hw => ?_) (fun h0 H locs cells slots q ce hw h1 h2 h3 => ?_)
  · skip
    refine cl_istore_n (lv' := [(3, .int (rI z5)), (0, cR v x0), (1, .int (rI x1)), (2, .int (rI x2))]) hx hb dJx4a65c_grow_92f84_30 rfl hl (by decide) rfl (fun ls hl => ?_)
    refine cl_aload_n hx hb dJx4a65c_grow_92f84_31 rfl (lv_at hl.1 1 rfl) ?_
    refine cl_aload_n hx hb dJx4a65c_grow_92f84_32 rfl (lv_at hl.1 1 rfl) ?_
    obtain ⟨z6, ez6, iz6, rz6, hf⟩ := cc_g_s hw hf
    refine cw_get (val := cR v z6) B hw rz6 ⟨by decide, by decide⟩ (by decide) cwi_13 cfl_Jx4a65c_9 ez6 rfl dJx4a65c_grow_92f84_33 ?_
    refine lv_iload_n hx hb dJx4a65c_grow_92f84_36 rfl (lv_at hl.1 0 rfl) ?_
    obtain ⟨σ7, z9, hσ7, hf⟩ := cc_cn_s hf
    obtain ⟨iz9, mσ7⟩ := hR 2 σ3 [z6, z5] σ7 0 z9 hσ7
    have mσ7 : cw_Met l v yJ7_copyOf_1904c cJ7_copyOf_1904c 2 (some (.array (.object "java/lang/Object"))) d [cR v z6, .int (rI z5)] σ3 σ7 0 (some (cR v z9)) := mσ7 iz6 iz5
    refine cw_cs (n := 2) (rest := [cR v x0]) (As := [cR v z6, .int (rI z5)]) B mσ7 cgo_yJ7_copyOf_1904c cml_Jx4a65c_66 cst_yJ7_copyOf_1904c (by decide +kernel) (by decide) rfl hl.1.1 (cl_cs (cl_1r cl_10) (Nat.le_of_ble_eq_true rfl)) dJx4a65c_grow_92f84_37 rfl hw (fun h0 H locs cells slots hw => ?_) (fun h0 H locs cells slots q ce hw h1 h2 h3 => ?_)
    · skip
      refine lv_dup_x1 hx hb dJx4a65c_grow_92f84_40 (cR_cat _) (cR_cat _) ?_
      obtain ⟨σ10, eσ10, rσ10, hf⟩ := cc_p_s hf
      refine cw_put B hw rσ10 cwt_13 (by decide) rfl cfl_Jx4a65c_9 iz9 eσ10 rfl (cw_fv_r rfl (Or.inr ⟨_, rfl⟩)) dJx4a65c_grow_92f84_41 (fun H locs hw => ?_)
      exact cw_retA B hf hw dJx4a65c_grow_92f84_44
    · exact absurd rfl h0
  · exact absurd rfl h0

set_option maxHeartbeats 4000000 in
set_option maxRecDepth 100000 in
theorem pw_Jx4a65c_grow_92f84_0 {v : cwE} {bd : cBd} {p : Program} {l : Launch} {e : Env} {s : State} {m : MethodId} {args : Array Value} {below : List Frame} {meth : Method} {c : Code} {d : Nat} {rec : Nat → CS → List Int → CO} {σ0 σ' : CS} {kd : Nat} {r : Int} (hbd : bd = cw_bd v) (hR : cw_Rec l v d rec) (htr : l.stackTraces = false) (hd5 : 5 ≤ d) (B : cw_B v RJx4a65c p s m args meth c cJx4a65c_grow_92f84 4 (some (.array (.object "java/lang/Object")))) (hnh : ∀ x ∈ c.exceptionTable.toList, False) : ∀ (σ : CS) (x0 x1 : Int), inR x0 → inR x1 → pc_Jx4a65c_grow_92f84_0 rec bd σ x0 x1 = some (σ', kd, r) → ∀ (H : Heap) (locs : List Loc) (cells slots : Nat) (ls : Array Slot), cw_W v s σ0 σ H locs cells slots → cl_has ls 4 [(0, cR v x0), (1, .int (rI x1))] → W p l e (cw_rm v (d + 1) σ0) s m args below meth c H locs cells slots (cw_Z below v σ0 σ' kd (some (cR v r)) args s) (F0 m 0 ls []) := by
  subst hbd
  obtain ⟨hx, hb, hr, hml, hown, hts, hlk, hK⟩ := id B
  intro σ x0 x1 ix0 ix1 hf H locs cells slots ls hw hl
  unfold pc_Jx4a65c_grow_92f84_0 at hf
  refine cl_aload_n hx hb dJx4a65c_grow_92f84_0 rfl (lv_at hl.1 0 rfl) ?_
  obtain ⟨z1, ez1, iz1, rz1, hf⟩ := cc_g_s hw hf
  refine cw_get (val := cR v z1) B hw rz1 ⟨by decide, by decide⟩ (by decide) cwi_13 cfl_Jx4a65c_9 ez1 rfl dJx4a65c_grow_92f84_1 ?_
  obtain ⟨z2, ez2, iz2, rz2, hf⟩ := cc_l_s hf
  refine cw_len B hw rz2 (by decide) ez2 iz2 dJx4a65c_grow_92f84_4 ?_
  refine cl_istore_n (lv' := [(2, .int (rI z2)), (0, cR v x0), (1, .int (rI x1))]) hx hb dJx4a65c_grow_92f84_5 rfl hl (by decide) rfl (fun ls hl => ?_)
  refine lv_iload_n hx hb dJx4a65c_grow_92f84_6 rfl (lv_at hl.1 0 rfl) ?_
  refine rn_if_gt (a := z2) (tgt := 20) hx hb iz2 dJx4a65c_grow_92f84_7 (by decide) (fun c3 => ?_) (fun c3 => ?_)
  · replace hf := cc_if_t hf c3
    exact pw_Jx4a65c_grow_92f84_20 rfl hR htr hd5 B hnh σ x0 x1 z2 ix0 ix1 iz2 hf _ _ _ _ _ hw (cl_sub hl [1, 2, 0] rfl)
  · replace hf := cc_if_f hf c3
    refine cl_aload_n hx hb dJx4a65c_grow_92f84_10 rfl (lv_at hl.1 1 rfl) ?_
    obtain ⟨z4, ez4, iz4, rz4, hf⟩ := cc_g_s hw hf
    refine cw_get (val := cR v z4) B hw rz4 ⟨by decide, by decide⟩ (by decide) cwi_13 cfl_Jx4a65c_9 ez4 rfl dJx4a65c_grow_92f84_11 ?_
    obtain ⟨z5, ez5, iz5, hf⟩ := cc_gs_s hf
    refine cw_gets B hw (cw_sta_21 hK) csl_Jx4a65c_39 ez5 rfl dJx4a65c_grow_92f84_14 ?_
    obtain ⟨q7, hf⟩ := cc_ac_s hf
    refine cl_acmp_eq (tgt := 45) hx hb hw q7 dJx4a65c_grow_92f84_17 (by decide) (fun c6 => ?_) (fun c6 => ?_)
    · replace hf := cc_if_t hf c6
      refine cl_aload_n hx hb dJx4a65c_grow_92f84_45 rfl (lv_at hl.1 1 rfl) ?_
      refine lv_bipush (v := rI 10) hx hb dJx4a65c_grow_92f84_46 (by decide +kernel) ?_
      refine lv_iload_n hx hb dJx4a65c_grow_92f84_48 rfl (lv_at hl.1 2 rfl) ?_
      obtain ⟨z8, ez8, iz8, hf⟩ := cc_mx_s ⟨by decide, by decide⟩ ix1 hf
      refine cw_mmax B hw ⟨by decide, by decide⟩ ix1 ez8 cml_Jx4a65c_79 cma_max_s cma_i cma_max_c hl.1.1 (cl_cs (cl_1r cl_10) (Nat.le_of_ble_eq_true rfl)) dJx4a65c_grow_92f84_49 ?_
      obtain ⟨σ9, z10, eσ9, ez10, iz10, qσ9, rσ9, hf⟩ := cc_na_s hf
      refine cw_anew (t := 23) B hw (Or.inr ⟨rfl, rfl⟩) ccl_Jx4a65c_7 iz8 qσ9.1 qσ9.2 rσ9 eσ9 ez10 dJx4a65c_grow_92f84_52 (fun H hw => ?_)
      refine lv_dup_x1 hx hb dJx4a65c_grow_92f84_55 (cR_cat _) (cR_cat _) ?_
      obtain ⟨σ11, eσ11, rσ11, hf⟩ := cc_p_s hf
      refine cw_put B hw rσ11 cwt_13 (by decide) rfl cfl_Jx4a65c_9 iz10 eσ11 rfl (cw_fv_r rfl (Or.inr ⟨_, rfl⟩)) dJx4a65c_grow_92f84_56 (fun H locs hw => ?_)
      exact cw_retA B hf hw dJx4a65c_grow_92f84_59
    · replace hf := cc_if_f hf c6
      exact pw_Jx4a65c_grow_92f84_20 rfl hR htr hd5 B hnh σ x0 x1 z2 ix0 ix1 iz2 hf _ _ _ _ _ hw (cl_sub hl [1, 2, 0] rfl)

set_option maxHeartbeats 4000000 in
set_option maxRecDepth 100000 in
theorem pm_Jx4a65c_grow_92f84 {v : cwE} {bd : cBd} {l : Launch} {d : Nat} {rec : Nat → CS → List Int → CO} (hbd : bd = cw_bd v) (hR : cw_Rec l v d rec) (htr : l.stackTraces = false) (hd5 : 5 ≤ d) (σ σ' : CS) (x0 x1 : Int) (kd : Nat) (r : Int) (ix0 : inR x0) (ix1 : inR x1) (hf : pc_Jx4a65c_grow_92f84_0 rec bd σ x0 x1 = some (σ', kd, r)) : cw_Met l v yJx4a65c_grow_92f84 cJx4a65c_grow_92f84 4 (some (.array (.object "java/lang/Object"))) (d + 1) [cR v x0, .int (rI x1)] σ σ' kd (some (cR v r)) := by
  refine cw_ofW (by decide +kernel) ?_
  intro p e s m args below meth c s₁ B hml hv
  obtain ⟨rfl, hM, hK⟩ := hv
  have hts := atoms_spec (ws := Cond.code yJx4a65c_grow_92f84 cJx4a65c_grow_92f84 4 (some (.array (.object "java/lang/Object"))) :: cw_bw) B.pre
  have hB : cw_B v RJx4a65c p s m _ meth c cJx4a65c_grow_92f84 4 (some (.array (.object "java/lang/Object"))) := ⟨B.exec, B.bytes, B.returns, hml, findClass_of_methodNamed B.named, fun w h => hts w (List.mem_cons_of_mem _ h), B.notSynchronized, hK⟩
  have hnh := cc_nh B (hts _ List.mem_cons_self)
  rw [lg_entry_eq]
  obtain ⟨ls, hls, hl⟩ := cl_ent [cR v x0, .int (rI x1)] 4 (cl_1r (cl_1i cl_10)) (Nat.le_of_ble_eq_true rfl)
  rw [hls]
  exact pw_Jx4a65c_grow_92f84_0 hbd hR htr hd5 hB hnh σ x0 x1 ix0 ix1 hf _ _ _ _ _ (cw_W0 hM) (cl_sub hl [0, 1] rfl)

set_option maxHeartbeats 4000000 in
set_option maxRecDepth 100000 in
theorem pw_Jx4a65c_grow_d5877_0 {v : cwE} {bd : cBd} {p : Program} {l : Launch} {e : Env} {s : State} {m : MethodId} {args : Array Value} {below : List Frame} {meth : Method} {c : Code} {d : Nat} {rec : Nat → CS → List Int → CO} {σ0 σ' : CS} {kd : Nat} {r : Int} (hbd : bd = cw_bd v) (hR : cw_Rec l v d rec) (htr : l.stackTraces = false) (hd5 : 5 ≤ d) (B : cw_B v RJx4a65c p s m args meth c cJx4a65c_grow_d5877 1 (some (.array (.object "java/lang/Object")))) (hnh : ∀ x ∈ c.exceptionTable.toList, False) : ∀ (σ : CS) (x0 : Int), inR x0 → pc_Jx4a65c_grow_d5877_0 rec bd σ x0 = some (σ', kd, r) → ∀ (H : Heap) (locs : List Loc) (cells slots : Nat) (ls : Array Slot), cw_W v s σ0 σ H locs cells slots → cl_has ls 1 [(0, cR v x0)] → W p l e (cw_rm v (d + 1) σ0) s m args below meth c H locs cells slots (cw_Z below v σ0 σ' kd (some (cR v r)) args s) (F0 m 0 ls []) := by
  subst hbd
  obtain ⟨hx, hb, hr, hml, hown, hts, hlk, hK⟩ := id B
  intro σ x0 ix0 hf H locs cells slots ls hw hl
  unfold pc_Jx4a65c_grow_d5877_0 at hf
  refine cl_aload_n hx hb dJx4a65c_grow_d5877_0 rfl (lv_at hl.1 0 rfl) ?_
  refine cl_aload_n hx hb dJx4a65c_grow_d5877_1 rfl (lv_at hl.1 0 rfl) ?_
  obtain ⟨z1, ez1, iz1, rz1, hf⟩ := cc_g_s hw hf
  refine cw_get (val := .int (rI z1)) B hw rz1 ⟨by decide, by decide⟩ (by decide) cwi_13 cfl_Jx4a65c_48 ez1 rfl dJx4a65c_grow_d5877_2 ?_
  refine lv_iconst (v := rI 1) hx hb dJx4a65c_grow_d5877_5 rfl ?_
  obtain ⟨z2, ez2, iz2, hf⟩ := cc_ck_s hf
  refine rn_add hx hb ez2 dJx4a65c_grow_d5877_6 ?_
  obtain ⟨qσ3, hf⟩ := cc_t_s hf
  obtain ⟨σ3, z5, hσ3, hf⟩ := cc_cn_s hf
  obtain ⟨iz5, mσ3⟩ := hR 10 σ [x0, z2] σ3 0 z5 hσ3
  have mσ3 : cw_Met l v yJx4a65c_grow_92f84 cJx4a65c_grow_92f84 4 (some (.array (.object "java/lang/Object"))) d [cR v x0, .int (rI z2)] σ σ3 0 (some (cR v z5)) := mσ3 ix0 iz2
  refine cw_cv (b := x0) (t := 13) (n := 1) (rest := []) (As := [.int (rI z2)]) B mσ3 qσ3 ⟨by decide, by decide⟩ cgo_yJx4a65c_grow_92f84 cml_Jx4a65c_69 cin_yJx4a65c_grow_92f84 cse_yJx4a65c_grow_92f84 (by decide +kernel) (by decide) rfl hl.1.1 (Nat.le_of_ble_eq_true rfl) dJx4a65c_grow_d5877_7 rfl hw (fun h0 H locs cells slots hw => ?_) (fun h0 H locs cells slots q ce hw h1 h2 h3 => ?_)
  · skip
    exact cw_retA B hf hw dJx4a65c_grow_d5877_10
  · exact absurd rfl h0

set_option maxHeartbeats 4000000 in
set_option maxRecDepth 100000 in
theorem pm_Jx4a65c_grow_d5877 {v : cwE} {bd : cBd} {l : Launch} {d : Nat} {rec : Nat → CS → List Int → CO} (hbd : bd = cw_bd v) (hR : cw_Rec l v d rec) (htr : l.stackTraces = false) (hd5 : 5 ≤ d) (σ σ' : CS) (x0 : Int) (kd : Nat) (r : Int) (ix0 : inR x0) (hf : pc_Jx4a65c_grow_d5877_0 rec bd σ x0 = some (σ', kd, r)) : cw_Met l v yJx4a65c_grow_d5877 cJx4a65c_grow_d5877 1 (some (.array (.object "java/lang/Object"))) (d + 1) [cR v x0] σ σ' kd (some (cR v r)) := by
  refine cw_ofW (by decide +kernel) ?_
  intro p e s m args below meth c s₁ B hml hv
  obtain ⟨rfl, hM, hK⟩ := hv
  have hts := atoms_spec (ws := Cond.code yJx4a65c_grow_d5877 cJx4a65c_grow_d5877 1 (some (.array (.object "java/lang/Object"))) :: cw_bw) B.pre
  have hB : cw_B v RJx4a65c p s m _ meth c cJx4a65c_grow_d5877 1 (some (.array (.object "java/lang/Object"))) := ⟨B.exec, B.bytes, B.returns, hml, findClass_of_methodNamed B.named, fun w h => hts w (List.mem_cons_of_mem _ h), B.notSynchronized, hK⟩
  have hnh := cc_nh B (hts _ List.mem_cons_self)
  rw [lg_entry_eq]
  obtain ⟨ls, hls, hl⟩ := cl_ent [cR v x0] 1 (cl_1r cl_10) (Nat.le_of_ble_eq_true rfl)
  rw [hls]
  exact pw_Jx4a65c_grow_d5877_0 hbd hR htr hd5 hB hnh σ x0 ix0 hf _ _ _ _ _ (cw_W0 hM) (cl_sub hl [0] rfl)

set_option maxHeartbeats 4000000 in
set_option maxRecDepth 100000 in
theorem pw_Jx4a65c_init_da8c8_0 {v : cwE} {bd : cBd} {p : Program} {l : Launch} {e : Env} {s : State} {m : MethodId} {args : Array Value} {below : List Frame} {meth : Method} {c : Code} {d : Nat} {rec : Nat → CS → List Int → CO} {σ0 σ' : CS} {kd : Nat} {r : Int} (hbd : bd = cw_bd v) (hR : cw_Rec l v d rec) (htr : l.stackTraces = false) (hd5 : 5 ≤ d) (B : cw_B v RJx4a65c p s m args meth c cJx4a65c_init_da8c8 1 none) (hin : meth.name = "<init>") (hnh : ∀ x ∈ c.exceptionTable.toList, False) : ∀ (σ : CS) (x0 : Int), inR x0 → pc_Jx4a65c_init_da8c8_0 rec bd σ x0 = some (σ', kd, r) → ∀ (H : Heap) (locs : List Loc) (cells slots : Nat) (ls : Array Slot), cw_W v s σ0 σ H locs cells slots → cl_has ls 1 [(0, cR v x0)] → W p l e (cw_rm v (d + 1) σ0) s m args below meth c H locs cells slots (cw_Z below v σ0 σ' kd none args s) (F0 m 0 ls []) := by
  subst hbd
  obtain ⟨hx, hb, hr, hml, hown, hts, hlk, hK⟩ := id B
  intro σ x0 ix0 hf H locs cells slots ls hw hl
  unfold pc_Jx4a65c_init_da8c8_0 at hf
  refine cl_aload_n hx hb dJx4a65c_init_da8c8_0 rfl (lv_at hl.1 0 rfl) ?_
  obtain ⟨qσ1, hf⟩ := cc_t_s hf
  obtain ⟨σ1, z3, hσ1, hf⟩ := cc_ci_s hf
  obtain ⟨iz3, mσ1⟩ := hR 15 σ [x0] σ1 0 z3 hσ1
  have mσ1 : cw_Met l v yJxc12de_init_da8c8 cJxc12de_init_da8c8 1 none d [cR v x0] σ σ1 0 none := mσ1 ix0
  refine cw_ci (b := x0) (n := 0) (rest := []) (As := []) B mσ1 qσ1.1 rfl cgo_yJxc12de_init_da8c8 cml_Jx4a65c_1 cin_yJxc12de_init_da8c8 (by decide +kernel) (by decide) rfl hl.1.1 (Nat.le_of_ble_eq_true rfl) dJx4a65c_init_da8c8_1 rfl hw (fun H locs cells slots hw => ?_)
  refine cl_aload_n hx hb dJx4a65c_init_da8c8_4 rfl (lv_at hl.1 0 rfl) ?_
  obtain ⟨z4, ez4, iz4, hf⟩ := cc_gs_s hf
  refine cw_gets B hw (cw_sta_21 hK) csl_Jx4a65c_39 ez4 rfl dJx4a65c_init_da8c8_5 ?_
  obtain ⟨σ5, eσ5, rσ5, hf⟩ := cc_p_s hf
  refine cw_put B hw rσ5 cwt_13 (by decide) rfl cfl_Jx4a65c_9 iz4 eσ5 rfl (cw_fv_r rfl (Or.inr ⟨_, rfl⟩)) dJx4a65c_init_da8c8_8 (fun H locs hw => ?_)
  exact cw_retv B hf hw dJx4a65c_init_da8c8_11

set_option maxHeartbeats 4000000 in
set_option maxRecDepth 100000 in
theorem pm_Jx4a65c_init_da8c8 {v : cwE} {bd : cBd} {l : Launch} {d : Nat} {rec : Nat → CS → List Int → CO} (hbd : bd = cw_bd v) (hR : cw_Rec l v d rec) (htr : l.stackTraces = false) (hd5 : 5 ≤ d) (σ σ' : CS) (x0 : Int) (kd : Nat) (r : Int) (ix0 : inR x0) (hf : pc_Jx4a65c_init_da8c8_0 rec bd σ x0 = some (σ', kd, r)) : cw_Met l v yJx4a65c_init_da8c8 cJx4a65c_init_da8c8 1 none (d + 1) [cR v x0] σ σ' kd none := by
  refine cw_ofW (by decide +kernel) ?_
  intro p e s m args below meth c s₁ B hml hv
  obtain ⟨rfl, hM, hK⟩ := hv
  have hts := atoms_spec (ws := Cond.code yJx4a65c_init_da8c8 cJx4a65c_init_da8c8 1 none :: cw_bw) B.pre
  have hB : cw_B v RJx4a65c p s m _ meth c cJx4a65c_init_da8c8 1 none := ⟨B.exec, B.bytes, B.returns, hml, findClass_of_methodNamed B.named, fun w h => hts w (List.mem_cons_of_mem _ h), B.notSynchronized, hK⟩
  have hnh := cc_nh B (hts _ List.mem_cons_self)
  rw [lg_entry_eq]
  obtain ⟨ls, hls, hl⟩ := cl_ent [cR v x0] 1 (cl_1r cl_10) (Nat.le_of_ble_eq_true rfl)
  rw [hls]
  exact pw_Jx4a65c_init_da8c8_0 hbd hR htr hd5 hB (name_of_methodNamed B.named B.method).1 hnh σ x0 ix0 hf _ _ _ _ _ (cw_W0 hM) (cl_sub hl [0] rfl)

set_option maxHeartbeats 4000000 in
set_option maxRecDepth 100000 in
theorem pw_Jx4a65c_size_8abf5_0 {v : cwE} {bd : cBd} {p : Program} {l : Launch} {e : Env} {s : State} {m : MethodId} {args : Array Value} {below : List Frame} {meth : Method} {c : Code} {d : Nat} {rec : Nat → CS → List Int → CO} {σ0 σ' : CS} {kd : Nat} {r : Int} (hbd : bd = cw_bd v) (hR : cw_Rec l v d rec) (htr : l.stackTraces = false) (hd5 : 5 ≤ d) (B : cw_B v RJx4a65c p s m args meth c cJx4a65c_size_8abf5 1 (some .int)) (hnh : ∀ x ∈ c.exceptionTable.toList, False) : ∀ (σ : CS) (x0 : Int), inR x0 → pc_Jx4a65c_size_8abf5_0 rec bd σ x0 = some (σ', kd, r) → ∀ (H : Heap) (locs : List Loc) (cells slots : Nat) (ls : Array Slot), cw_W v s σ0 σ H locs cells slots → cl_has ls 1 [(0, cR v x0)] → W p l e (cw_rm v (d + 1) σ0) s m args below meth c H locs cells slots (cw_Z below v σ0 σ' kd (some (.int (rI r))) args s) (F0 m 0 ls []) := by
  subst hbd
  obtain ⟨hx, hb, hr, hml, hown, hts, hlk, hK⟩ := id B
  intro σ x0 ix0 hf H locs cells slots ls hw hl
  unfold pc_Jx4a65c_size_8abf5_0 at hf
  refine cl_aload_n hx hb dJx4a65c_size_8abf5_0 rfl (lv_at hl.1 0 rfl) ?_
  obtain ⟨z1, ez1, iz1, rz1, hf⟩ := cc_g_s hw hf
  refine cw_get (val := .int (rI z1)) B hw rz1 ⟨by decide, by decide⟩ (by decide) cwi_13 cfl_Jx4a65c_48 ez1 rfl dJx4a65c_size_8abf5_1 ?_
  exact cw_reti B hf hw dJx4a65c_size_8abf5_4

set_option maxHeartbeats 4000000 in
set_option maxRecDepth 100000 in
theorem pm_Jx4a65c_size_8abf5 {v : cwE} {bd : cBd} {l : Launch} {d : Nat} {rec : Nat → CS → List Int → CO} (hbd : bd = cw_bd v) (hR : cw_Rec l v d rec) (htr : l.stackTraces = false) (hd5 : 5 ≤ d) (σ σ' : CS) (x0 : Int) (kd : Nat) (r : Int) (ix0 : inR x0) (hf : pc_Jx4a65c_size_8abf5_0 rec bd σ x0 = some (σ', kd, r)) : cw_Met l v yJx4a65c_size_8abf5 cJx4a65c_size_8abf5 1 (some .int) (d + 1) [cR v x0] σ σ' kd (some (.int (rI r))) := by
  refine cw_ofW (by decide +kernel) ?_
  intro p e s m args below meth c s₁ B hml hv
  obtain ⟨rfl, hM, hK⟩ := hv
  have hts := atoms_spec (ws := Cond.code yJx4a65c_size_8abf5 cJx4a65c_size_8abf5 1 (some .int) :: cw_bw) B.pre
  have hB : cw_B v RJx4a65c p s m _ meth c cJx4a65c_size_8abf5 1 (some .int) := ⟨B.exec, B.bytes, B.returns, hml, findClass_of_methodNamed B.named, fun w h => hts w (List.mem_cons_of_mem _ h), B.notSynchronized, hK⟩
  have hnh := cc_nh B (hts _ List.mem_cons_self)
  rw [lg_entry_eq]
  obtain ⟨ls, hls, hl⟩ := cl_ent [cR v x0] 1 (cl_1r cl_10) (Nat.le_of_ble_eq_true rfl)
  rw [hls]
  exact pw_Jx4a65c_size_8abf5_0 hbd hR htr hd5 hB hnh σ x0 ix0 hf _ _ _ _ _ (cw_W0 hM) (cl_sub hl [0] rfl)

set_option maxHeartbeats 4000000 in
set_option maxRecDepth 100000 in
theorem pw_Jxa1e45_init_da8c8_0 {v : cwE} {bd : cBd} {p : Program} {l : Launch} {e : Env} {s : State} {m : MethodId} {args : Array Value} {below : List Frame} {meth : Method} {c : Code} {d : Nat} {rec : Nat → CS → List Int → CO} {σ0 σ' : CS} {kd : Nat} {r : Int} (hbd : bd = cw_bd v) (hR : cw_Rec l v d rec) (htr : l.stackTraces = false) (hd5 : 5 ≤ d) (B : cw_B v RJxa1e45 p s m args meth c cJxa1e45_init_da8c8 1 none) (hin : meth.name = "<init>") (hnh : ∀ x ∈ c.exceptionTable.toList, False) : ∀ (σ : CS) (x0 : Int), inR x0 → pc_Jxa1e45_init_da8c8_0 rec bd σ x0 = some (σ', kd, r) → ∀ (H : Heap) (locs : List Loc) (cells slots : Nat) (ls : Array Slot), cw_W v s σ0 σ H locs cells slots → cl_has ls 1 [(0, cR v x0)] → W p l e (cw_rm v (d + 1) σ0) s m args below meth c H locs cells slots (cw_Z below v σ0 σ' kd none args s) (F0 m 0 ls []) := by
  subst hbd
  obtain ⟨hx, hb, hr, hml, hown, hts, hlk, hK⟩ := id B
  intro σ x0 ix0 hf H locs cells slots ls hw hl
  unfold pc_Jxa1e45_init_da8c8_0 at hf
  refine cl_aload_n hx hb dJxa1e45_init_da8c8_0 rfl (lv_at hl.1 0 rfl) ?_
  obtain ⟨q0, hf⟩ := cc_t_s hf
  rw [cR_r q0.1]
  refine W.objInit hx hb hown (hts _ coi_Jxa1e45_1) (hts _ coi2) (hts _ coi3) rfl (hl.1.1.trans hml.symm) rfl dJxa1e45_init_da8c8_1 (by show 1 ≤ d + 1; omega) (by show _ + 12 ≤ 100 * (d + 1); simp [JFrame.monitorRoom]; omega) ?_
  exact cw_retv B hf hw dJxa1e45_init_da8c8_4

set_option maxHeartbeats 4000000 in
set_option maxRecDepth 100000 in
theorem pm_Jxa1e45_init_da8c8 {v : cwE} {bd : cBd} {l : Launch} {d : Nat} {rec : Nat → CS → List Int → CO} (hbd : bd = cw_bd v) (hR : cw_Rec l v d rec) (htr : l.stackTraces = false) (hd5 : 5 ≤ d) (σ σ' : CS) (x0 : Int) (kd : Nat) (r : Int) (ix0 : inR x0) (hf : pc_Jxa1e45_init_da8c8_0 rec bd σ x0 = some (σ', kd, r)) : cw_Met l v yJxa1e45_init_da8c8 cJxa1e45_init_da8c8 1 none (d + 1) [cR v x0] σ σ' kd none := by
  refine cw_ofW (by decide +kernel) ?_
  intro p e s m args below meth c s₁ B hml hv
  obtain ⟨rfl, hM, hK⟩ := hv
  have hts := atoms_spec (ws := Cond.code yJxa1e45_init_da8c8 cJxa1e45_init_da8c8 1 none :: cw_bw) B.pre
  have hB : cw_B v RJxa1e45 p s m _ meth c cJxa1e45_init_da8c8 1 none := ⟨B.exec, B.bytes, B.returns, hml, findClass_of_methodNamed B.named, fun w h => hts w (List.mem_cons_of_mem _ h), B.notSynchronized, hK⟩
  have hnh := cc_nh B (hts _ List.mem_cons_self)
  rw [lg_entry_eq]
  obtain ⟨ls, hls, hl⟩ := cl_ent [cR v x0] 1 (cl_1r cl_10) (Nat.le_of_ble_eq_true rfl)
  rw [hls]
  exact pw_Jxa1e45_init_da8c8_0 hbd hR htr hd5 hB (name_of_methodNamed B.named B.method).1 hnh σ x0 ix0 hf _ _ _ _ _ (cw_W0 hM) (cl_sub hl [0] rfl)

set_option maxHeartbeats 4000000 in
set_option maxRecDepth 100000 in
theorem pw_Jxc12de_init_da8c8_0 {v : cwE} {bd : cBd} {p : Program} {l : Launch} {e : Env} {s : State} {m : MethodId} {args : Array Value} {below : List Frame} {meth : Method} {c : Code} {d : Nat} {rec : Nat → CS → List Int → CO} {σ0 σ' : CS} {kd : Nat} {r : Int} (hbd : bd = cw_bd v) (hR : cw_Rec l v d rec) (htr : l.stackTraces = false) (hd5 : 5 ≤ d) (B : cw_B v RJxc12de p s m args meth c cJxc12de_init_da8c8 1 none) (hin : meth.name = "<init>") (hnh : ∀ x ∈ c.exceptionTable.toList, False) : ∀ (σ : CS) (x0 : Int), inR x0 → pc_Jxc12de_init_da8c8_0 rec bd σ x0 = some (σ', kd, r) → ∀ (H : Heap) (locs : List Loc) (cells slots : Nat) (ls : Array Slot), cw_W v s σ0 σ H locs cells slots → cl_has ls 1 [(0, cR v x0)] → W p l e (cw_rm v (d + 1) σ0) s m args below meth c H locs cells slots (cw_Z below v σ0 σ' kd none args s) (F0 m 0 ls []) := by
  subst hbd
  obtain ⟨hx, hb, hr, hml, hown, hts, hlk, hK⟩ := id B
  intro σ x0 ix0 hf H locs cells slots ls hw hl
  unfold pc_Jxc12de_init_da8c8_0 at hf
  refine cl_aload_n hx hb dJxc12de_init_da8c8_0 rfl (lv_at hl.1 0 rfl) ?_
  obtain ⟨qσ1, hf⟩ := cc_t_s hf
  obtain ⟨σ1, z3, hσ1, hf⟩ := cc_ci_s hf
  obtain ⟨iz3, mσ1⟩ := hR 14 σ [x0] σ1 0 z3 hσ1
  have mσ1 : cw_Met l v yJxa1e45_init_da8c8 cJxa1e45_init_da8c8 1 none d [cR v x0] σ σ1 0 none := mσ1 ix0
  refine cw_ci (b := x0) (n := 0) (rest := []) (As := []) B mσ1 qσ1.1 rfl cgo_yJxa1e45_init_da8c8 cml_Jxc12de_1 cin_yJxa1e45_init_da8c8 (by decide +kernel) (by decide) rfl hl.1.1 (Nat.le_of_ble_eq_true rfl) dJxc12de_init_da8c8_1 rfl hw (fun H locs cells slots hw => ?_)
  refine cl_aload_n hx hb dJxc12de_init_da8c8_4 rfl (lv_at hl.1 0 rfl) ?_
  refine lv_iconst (v := rI 0) hx hb dJxc12de_init_da8c8_5 rfl ?_
  obtain ⟨σ4, eσ4, rσ4, hf⟩ := cc_p_s hf
  refine cw_put B hw rσ4 cwt_13 (by decide) rfl cfl_Jxc12de_7 ⟨by decide, by decide⟩ eσ4 rfl (cw_fv_n rfl rfl) dJxc12de_init_da8c8_6 (fun H locs hw => ?_)
  exact cw_retv B hf hw dJxc12de_init_da8c8_9

set_option maxHeartbeats 4000000 in
set_option maxRecDepth 100000 in
theorem pm_Jxc12de_init_da8c8 {v : cwE} {bd : cBd} {l : Launch} {d : Nat} {rec : Nat → CS → List Int → CO} (hbd : bd = cw_bd v) (hR : cw_Rec l v d rec) (htr : l.stackTraces = false) (hd5 : 5 ≤ d) (σ σ' : CS) (x0 : Int) (kd : Nat) (r : Int) (ix0 : inR x0) (hf : pc_Jxc12de_init_da8c8_0 rec bd σ x0 = some (σ', kd, r)) : cw_Met l v yJxc12de_init_da8c8 cJxc12de_init_da8c8 1 none (d + 1) [cR v x0] σ σ' kd none := by
  refine cw_ofW (by decide +kernel) ?_
  intro p e s m args below meth c s₁ B hml hv
  obtain ⟨rfl, hM, hK⟩ := hv
  have hts := atoms_spec (ws := Cond.code yJxc12de_init_da8c8 cJxc12de_init_da8c8 1 none :: cw_bw) B.pre
  have hB : cw_B v RJxc12de p s m _ meth c cJxc12de_init_da8c8 1 none := ⟨B.exec, B.bytes, B.returns, hml, findClass_of_methodNamed B.named, fun w h => hts w (List.mem_cons_of_mem _ h), B.notSynchronized, hK⟩
  have hnh := cc_nh B (hts _ List.mem_cons_self)
  rw [lg_entry_eq]
  obtain ⟨ls, hls, hl⟩ := cl_ent [cR v x0] 1 (cl_1r cl_10) (Nat.le_of_ble_eq_true rfl)
  rw [hls]
  exact pw_Jxc12de_init_da8c8_0 hbd hR htr hd5 hB (name_of_methodNamed B.named B.method).1 hnh σ x0 ix0 hf _ _ _ _ _ (cw_W0 hM) (cl_sub hl [0] rfl)

set_option maxHeartbeats 4000000 in
set_option maxRecDepth 100000 in
theorem pw_X0_addName_0 {v : cwE} {bd : cBd} {p : Program} {l : Launch} {e : Env} {s : State} {m : MethodId} {args : Array Value} {below : List Frame} {meth : Method} {c : Code} {d : Nat} {rec : Nat → CS → List Int → CO} {σ0 σ' : CS} {kd : Nat} {r : Int} (hbd : bd = cw_bd v) (hR : cw_Rec l v d rec) (htr : l.stackTraces = false) (hd5 : 5 ≤ d) (B : cw_B v RX0 p s m args meth c cX0_addName 7 none) (hnh : ∀ x ∈ c.exceptionTable.toList, False) : ∀ (σ : CS) (x0 x1 x2 x3 x4 x5 : Int), inR x0 → inR x1 → inR x2 → inR x3 → inR x4 → inR x5 → pc_X0_addName_0 rec bd σ x0 x1 x2 x3 x4 x5 = some (σ', kd, r) → ∀ (H : Heap) (locs : List Loc) (cells slots : Nat) (ls : Array Slot), cw_W v s σ0 σ H locs cells slots → cl_has ls 7 [(0, cR v x0), (1, cR v x1), (2, cR v x2), (3, cR v x3), (4, .int (rI x4)), (5, cR v x5)] → W p l e (cw_rm v (d + 1) σ0) s m args below meth c H locs cells slots (cw_Z below v σ0 σ' kd none args s) (F0 m 0 ls []) := by
  subst hbd
  obtain ⟨hx, hb, hr, hml, hown, hts, hlk, hK⟩ := id B
  intro σ x0 x1 x2 x3 x4 x5 ix0 ix1 ix2 ix3 ix4 ix5 hf H locs cells slots ls hw hl
  unfold pc_X0_addName_0 at hf
  refine cl_aload_n hx hb dX0_addName_0 rfl (lv_at hl.1 0 rfl) ?_
  obtain ⟨z1, ez1, iz1, rz1, hf⟩ := cc_g_s hw hf
  refine cw_get (val := cR v z1) B hw rz1 ⟨by decide, by decide⟩ (by decide) cwi_1 cfl_X0_34 ez1 rfl dX0_addName_1 ?_
  obtain ⟨qσ2, hf⟩ := cc_t_s hf
  obtain ⟨σ2, kv3, z4, hσ2, hf⟩ := cc_cl_s hf
  obtain ⟨iz4, mσ2⟩ := hR 102 σ [z1] σ2 kv3 z4 hσ2
  have mσ2 : cw_Met l v yX5_isFull cX5_isFull 1 (some .boolean) d [cR v z1] σ σ2 kv3 (some (.int (rI z4))) := mσ2 iz1
  refine cw_cv (b := z1) (t := 6) (n := 0) (rest := []) (As := []) B mσ2 qσ2 ⟨by decide, by decide⟩ cgo_yX5_isFull cml_X0_81 cin_yX5_isFull cse_yX5_isFull (by decide +kernel) (by decide) rfl hl.1.1 (Nat.le_of_ble_eq_true rfl) dX0_addName_4 rfl hw (fun h0 H locs cells slots hw => ?_) (fun h0 H locs cells slots q ce hw h1 h2 h3 => ?_)
  · rcases hf with ⟨-, hf⟩ | ⟨hk, -⟩
    · skip
      refine rn_if_eq (a := z4) (tgt := 11) hx hb iz4 dX0_addName_7 (by decide) (fun c5 => ?_) (fun c5 => ?_)
      · replace hf := cc_if_t hf c5
        refine cl_aload_n hx hb dX0_addName_11 rfl (lv_at hl.1 0 rfl) ?_
        obtain ⟨z6, ez6, iz6, rz6, hf⟩ := cc_g_s hw hf
        refine cw_get (val := cR v z6) B hw rz6 ⟨by decide, by decide⟩ (by decide) cwi_1 cfl_X0_34 ez6 rfl dX0_addName_12 ?_
        obtain ⟨z7, ez7, iz7, rz7, hf⟩ := cc_g_s hw hf
        refine cw_get (val := .int (rI z7)) B hw rz7 ⟨by decide, by decide⟩ (by decide) cwi_6 cfl_X0_74 ez7 rfl dX0_addName_15 ?_
        refine cl_istore (lv' := [(6, .int (rI z7)), (0, cR v x0), (1, cR v x1), (2, cR v x2), (3, cR v x3), (4, .int (rI x4)), (5, cR v x5)]) hx hb dX0_addName_18 hl (by decide) rfl (fun ls hl => ?_)
        refine cl_aload_n hx hb dX0_addName_20 rfl (lv_at hl.1 1 rfl) ?_
        obtain ⟨z8, ez8, iz8, rz8, hf⟩ := cc_g_s hw hf
        refine cw_get (val := cR v z8) B hw rz8 ⟨by decide, by decide⟩ (by decide) cwi_1 cfl_X0_39 ez8 rfl dX0_addName_21 ?_
        refine lv_iload hx hb dX0_addName_24 (lv_at hl.1 0 rfl) ?_
        refine cl_aload_n hx hb dX0_addName_26 rfl (lv_at hl.1 4 rfl) ?_
        obtain ⟨qσ9, hf⟩ := cc_tn_s hf
        obtain ⟨σ9, eσ9, rσ9, bσ9, hf⟩ := cc_w_s hf
        refine cw_astR B hw rσ9 iz7 bσ9 ix3 qσ9 eσ9 dX0_addName_27 (fun H locs hw => ?_)
        refine cl_aload_n hx hb dX0_addName_28 rfl (lv_at hl.1 1 rfl) ?_
        obtain ⟨z10, ez10, iz10, rz10, hf⟩ := cc_g_s hw hf
        refine cw_get (val := cR v z10) B hw rz10 ⟨by decide, by decide⟩ (by decide) cwi_1 cfl_X0_43 ez10 rfl dX0_addName_29 ?_
        refine lv_iload hx hb dX0_addName_32 (lv_at hl.1 0 rfl) ?_
        refine cl_aload hx hb dX0_addName_34 (lv_at hl.1 6 rfl) ?_
        obtain ⟨qσ11, hf⟩ := cc_tn_s hf
        obtain ⟨σ11, eσ11, rσ11, bσ11, hf⟩ := cc_w_s hf
        refine cw_astR B hw rσ11 iz7 bσ11 ix5 qσ11 eσ11 dX0_addName_36 (fun H locs hw => ?_)
        refine cl_aload_n hx hb dX0_addName_37 rfl (lv_at hl.1 1 rfl) ?_
        obtain ⟨z12, ez12, iz12, rz12, hf⟩ := cc_g_s hw hf
        refine cw_get (val := cR v z12) B hw rz12 ⟨by decide, by decide⟩ (by decide) cwi_1 cfl_X0_46 ez12 rfl dX0_addName_38 ?_
        refine lv_iload hx hb dX0_addName_41 (lv_at hl.1 0 rfl) ?_
        refine lv_iload hx hb dX0_addName_43 (lv_at hl.1 5 rfl) ?_
        obtain ⟨σ13, eσ13, rσ13, bσ13, hf⟩ := cc_w_s hf
        refine cw_astI B hw rσ13 iz7 bσ13 ix4 eσ13 dX0_addName_45 (fun H locs hw => ?_)
        refine cl_aload_n hx hb dX0_addName_46 rfl (lv_at hl.1 1 rfl) ?_
        obtain ⟨z14, ez14, iz14, rz14, hf⟩ := cc_g_s hw hf
        refine cw_get (val := cR v z14) B hw rz14 ⟨by decide, by decide⟩ (by decide) cwi_1 cfl_X0_34 ez14 rfl dX0_addName_47 ?_
        refine cl_aload_n hx hb dX0_addName_50 rfl (lv_at hl.1 2 rfl) ?_
        refine cl_aload_n hx hb dX0_addName_51 rfl (lv_at hl.1 3 rfl) ?_
        obtain ⟨z15, ez15, iz15, rz15, hf⟩ := cc_g_s hw hf
        refine cw_get (val := .int (rI z15)) B hw rz15 ⟨by decide, by decide⟩ (by decide) cwi_7 cfl_X0_85 ez15 rfl dX0_addName_52 ?_
        refine cl_aload_n hx hb dX0_addName_55 rfl (lv_at hl.1 3 rfl) ?_
        obtain ⟨z16, ez16, iz16, rz16, hf⟩ := cc_g_s hw hf
        refine cw_get (val := .int (rI z16)) B hw rz16 ⟨by decide, by decide⟩ (by decide) cwi_7 cfl_X0_88 ez16 rfl dX0_addName_56 ?_
        obtain ⟨qσ17, hf⟩ := cc_t_s hf
        obtain ⟨σ17, kv18, z19, hσ17, hf⟩ := cc_cl_s hf
        obtain ⟨iz19, mσ17⟩ := hR 97 σ13 [z14, x1, z15, z16] σ17 kv18 z19 hσ17
        have mσ17 : cw_Met l v yX5_add cX5_add 5 none d [cR v z14, cR v x1, .int (rI z15), .int (rI z16)] σ13 σ17 kv18 none := mσ17 iz14 ix1 iz15 iz16
        refine cw_cv (b := z14) (t := 6) (n := 3) (rest := []) (As := [cR v x1, .int (rI z15), .int (rI z16)]) B mσ17 qσ17 ⟨by decide, by decide⟩ cgo_yX5_add cml_X0_62 cin_yX5_add cse_yX5_add (by decide +kernel) (by decide) rfl hl.1.1 (Nat.le_of_ble_eq_true rfl) dX0_addName_59 rfl hw (fun h0 H locs cells slots hw => ?_) (fun h0 H locs cells slots q ce hw h1 h2 h3 => ?_)
        · rcases hf with ⟨-, hf⟩ | ⟨hk, -⟩
          · skip
            exact cw_retv B hf hw dX0_addName_62
          · exact absurd h0 hk
        · rcases hf with ⟨hk, -⟩ | ⟨-, hf⟩
          · exact absurd hk h0
          · cases hf
            exact cw_xout B hnh h0 hw h1 h2 h3
      · replace hf := cc_if_f hf c5
        exact cw_retv B hf hw dX0_addName_10
    · exact absurd h0 hk
  · rcases hf with ⟨hk, -⟩ | ⟨-, hf⟩
    · exact absurd hk h0
    · cases hf
      exact cw_xout B hnh h0 hw h1 h2 h3

set_option maxHeartbeats 4000000 in
set_option maxRecDepth 100000 in
theorem pm_X0_addName {v : cwE} {bd : cBd} {l : Launch} {d : Nat} {rec : Nat → CS → List Int → CO} (hbd : bd = cw_bd v) (hR : cw_Rec l v d rec) (htr : l.stackTraces = false) (hd5 : 5 ≤ d) (σ σ' : CS) (x0 x1 x2 x3 x4 x5 : Int) (kd : Nat) (r : Int) (ix0 : inR x0) (ix1 : inR x1) (ix2 : inR x2) (ix3 : inR x3) (ix4 : inR x4) (ix5 : inR x5) (hf : pc_X0_addName_0 rec bd σ x0 x1 x2 x3 x4 x5 = some (σ', kd, r)) : cw_Met l v yX0_addName cX0_addName 7 none (d + 1) [cR v x0, cR v x1, cR v x2, cR v x3, .int (rI x4), cR v x5] σ σ' kd none := by
  refine cw_ofW (by decide +kernel) ?_
  intro p e s m args below meth c s₁ B hml hv
  obtain ⟨rfl, hM, hK⟩ := hv
  have hts := atoms_spec (ws := Cond.code yX0_addName cX0_addName 7 none :: cw_bw) B.pre
  have hB : cw_B v RX0 p s m _ meth c cX0_addName 7 none := ⟨B.exec, B.bytes, B.returns, hml, findClass_of_methodNamed B.named, fun w h => hts w (List.mem_cons_of_mem _ h), B.notSynchronized, hK⟩
  have hnh := cc_nh B (hts _ List.mem_cons_self)
  rw [lg_entry_eq]
  obtain ⟨ls, hls, hl⟩ := cl_ent [cR v x0, cR v x1, cR v x2, cR v x3, .int (rI x4), cR v x5] 7 (cl_1r (cl_1r (cl_1r (cl_1r (cl_1i (cl_1r cl_10)))))) (Nat.le_of_ble_eq_true rfl)
  rw [hls]
  exact pw_X0_addName_0 hbd hR htr hd5 hB hnh σ x0 x1 x2 x3 x4 x5 ix0 ix1 ix2 ix3 ix4 ix5 hf _ _ _ _ _ (cw_W0 hM) (cl_sub hl [0, 1, 2, 3, 4, 5] rfl)

set_option maxHeartbeats 4000000 in
set_option maxRecDepth 100000 in
theorem pw_X0_axiomOf_0 {v : cwE} {bd : cBd} {p : Program} {l : Launch} {e : Env} {s : State} {m : MethodId} {args : Array Value} {below : List Frame} {meth : Method} {c : Code} {d : Nat} {rec : Nat → CS → List Int → CO} {σ0 σ' : CS} {kd : Nat} {r : Int} (hbd : bd = cw_bd v) (hR : cw_Rec l v d rec) (htr : l.stackTraces = false) (hd5 : 5 ≤ d) (B : cw_B v RX0 p s m args meth c cX0_axiomOf 2 (some .int)) (hnh : ∀ x ∈ c.exceptionTable.toList, False) : ∀ (σ : CS) (x0 x1 : Int), inR x0 → inR x1 → pc_X0_axiomOf_0 rec bd σ x0 x1 = some (σ', kd, r) → ∀ (H : Heap) (locs : List Loc) (cells slots : Nat) (ls : Array Slot), cw_W v s σ0 σ H locs cells slots → cl_has ls 2 [(0, cR v x0), (1, .int (rI x1))] → W p l e (cw_rm v (d + 1) σ0) s m args below meth c H locs cells slots (cw_Z below v σ0 σ' kd (some (.int (rI r))) args s) (F0 m 0 ls []) := by
  subst hbd
  obtain ⟨hx, hb, hr, hml, hown, hts, hlk, hK⟩ := id B
  intro σ x0 x1 ix0 ix1 hf H locs cells slots ls hw hl
  unfold pc_X0_axiomOf_0 at hf
  refine cl_aload_n hx hb dX0_axiomOf_0 rfl (lv_at hl.1 0 rfl) ?_
  obtain ⟨z1, ez1, iz1, rz1, hf⟩ := cc_g_s hw hf
  refine cw_get (val := cR v z1) B hw rz1 ⟨by decide, by decide⟩ (by decide) cwi_1 cfl_X0_16 ez1 rfl dX0_axiomOf_1 ?_
  refine lv_iload_n hx hb dX0_axiomOf_4 rfl (lv_at hl.1 1 rfl) ?_
  obtain ⟨qσ2, hf⟩ := cc_t_s hf
  obtain ⟨σ2, kv3, z4, hσ2, hf⟩ := cc_cl_s hf
  obtain ⟨iz4, mσ2⟩ := hR 100 σ [z1, x1] σ2 kv3 z4 hσ2
  have mσ2 : cw_Met l v yX5_has cX5_has 2 (some .boolean) d [cR v z1, .int (rI x1)] σ σ2 kv3 (some (.int (rI z4))) := mσ2 iz1 ix1
  refine cw_cv (b := z1) (t := 6) (n := 1) (rest := []) (As := [.int (rI x1)]) B mσ2 qσ2 ⟨by decide, by decide⟩ cgo_yX5_has cml_X0_77 cin_yX5_has cse_yX5_has (by decide +kernel) (by decide) rfl hl.1.1 (Nat.le_of_ble_eq_true rfl) dX0_axiomOf_5 rfl hw (fun h0 H locs cells slots hw => ?_) (fun h0 H locs cells slots q ce hw h1 h2 h3 => ?_)
  · rcases hf with ⟨-, hf⟩ | ⟨hk, -⟩
    · skip
      refine rn_if_eq (a := z4) (tgt := 20) hx hb iz4 dX0_axiomOf_8 (by decide) (fun c5 => ?_) (fun c5 => ?_)
      · replace hf := cc_if_t hf c5
        refine lv_iconst (v := rI (-1)) hx hb dX0_axiomOf_20 rfl ?_
        exact cw_reti B hf hw dX0_axiomOf_21
      · replace hf := cc_if_f hf c5
        refine cl_aload_n hx hb dX0_axiomOf_11 rfl (lv_at hl.1 0 rfl) ?_
        obtain ⟨z6, ez6, iz6, rz6, hf⟩ := cc_g_s hw hf
        refine cw_get (val := cR v z6) B hw rz6 ⟨by decide, by decide⟩ (by decide) cwi_1 cfl_X0_20 ez6 rfl dX0_axiomOf_12 ?_
        refine lv_iload_n hx hb dX0_axiomOf_15 rfl (lv_at hl.1 1 rfl) ?_
        obtain ⟨z7, ez7, iz7, rz7, bz7, hf⟩ := cc_r_s hw hf
        refine cw_aldI B hw rz7 ix1 bz7 ez7 dX0_axiomOf_16 ?_
        refine lv_goto (tgt := 21) hx hb dX0_axiomOf_17 (by decide) ?_
        exact cw_reti B hf hw dX0_axiomOf_21
    · exact absurd h0 hk
  · rcases hf with ⟨hk, -⟩ | ⟨-, hf⟩
    · exact absurd hk h0
    · cases hf
      exact cw_xout B hnh h0 hw h1 h2 h3

set_option maxHeartbeats 4000000 in
set_option maxRecDepth 100000 in
theorem pm_X0_axiomOf {v : cwE} {bd : cBd} {l : Launch} {d : Nat} {rec : Nat → CS → List Int → CO} (hbd : bd = cw_bd v) (hR : cw_Rec l v d rec) (htr : l.stackTraces = false) (hd5 : 5 ≤ d) (σ σ' : CS) (x0 x1 : Int) (kd : Nat) (r : Int) (ix0 : inR x0) (ix1 : inR x1) (hf : pc_X0_axiomOf_0 rec bd σ x0 x1 = some (σ', kd, r)) : cw_Met l v yX0_axiomOf cX0_axiomOf 2 (some .int) (d + 1) [cR v x0, .int (rI x1)] σ σ' kd (some (.int (rI r))) := by
  refine cw_ofW (by decide +kernel) ?_
  intro p e s m args below meth c s₁ B hml hv
  obtain ⟨rfl, hM, hK⟩ := hv
  have hts := atoms_spec (ws := Cond.code yX0_axiomOf cX0_axiomOf 2 (some .int) :: cw_bw) B.pre
  have hB : cw_B v RX0 p s m _ meth c cX0_axiomOf 2 (some .int) := ⟨B.exec, B.bytes, B.returns, hml, findClass_of_methodNamed B.named, fun w h => hts w (List.mem_cons_of_mem _ h), B.notSynchronized, hK⟩
  have hnh := cc_nh B (hts _ List.mem_cons_self)
  rw [lg_entry_eq]
  obtain ⟨ls, hls, hl⟩ := cl_ent [cR v x0, .int (rI x1)] 2 (cl_1r (cl_1i cl_10)) (Nat.le_of_ble_eq_true rfl)
  rw [hls]
  exact pw_X0_axiomOf_0 hbd hR htr hd5 hB hnh σ x0 x1 ix0 ix1 hf _ _ _ _ _ (cw_W0 hM) (cl_sub hl [0, 1] rfl)

set_option maxHeartbeats 4000000 in
set_option maxRecDepth 100000 in
theorem pw_X0_clear_57 {v : cwE} {bd : cBd} {p : Program} {l : Launch} {e : Env} {s : State} {m : MethodId} {args : Array Value} {below : List Frame} {meth : Method} {c : Code} {d : Nat} {rec : Nat → CS → List Int → CO} {σ0 σ' : CS} {kd : Nat} {r : Int} (hbd : bd = cw_bd v) (hR : cw_Rec l v d rec) (htr : l.stackTraces = false) (hd5 : 5 ≤ d) (B : cw_B v RX0 p s m args meth c cX0_clear 2 none) (hnh : ∀ x ∈ c.exceptionTable.toList, False) : ∀ (n : Nat) (σ : CS) (x0 x1 : Int), inR x0 → inR x1 → pc_X0_clear_57 rec bd n σ x0 x1 = some (σ', kd, r) → ∀ (H : Heap) (locs : List Loc) (cells slots : Nat) (ls : Array Slot), cw_W v s σ0 σ H locs cells slots → cl_has ls 2 [(0, cR v x0), (1, .int (rI x1))] → W p l e (cw_rm v (d + 1) σ0) s m args below meth c H locs cells slots (cw_Z below v σ0 σ' kd none args s) (F0 m 57 ls []) := by
  subst hbd
  obtain ⟨hx, hb, hr, hml, hown, hts, hlk, hK⟩ := id B
  intro n
  induction n with
  | zero => intro σ x0 x1 ix0 ix1 hf; cases hf
  | succ n ih =>
    intro σ x0 x1 ix0 ix1 hf H locs cells slots ls hw hl
    unfold pc_X0_clear_57 at hf
    refine lv_iload_n hx hb dX0_clear_57 rfl (lv_at hl.1 1 rfl) ?_
    refine cl_aload_n hx hb dX0_clear_58 rfl (lv_at hl.1 0 rfl) ?_
    obtain ⟨z1, ez1, iz1, rz1, hf⟩ := cc_g_s hw hf
    refine cw_get (val := cR v z1) B hw rz1 ⟨by decide, by decide⟩ (by decide) cwi_1 cfl_X0_24 ez1 rfl dX0_clear_59 ?_
    obtain ⟨z2, ez2, iz2, rz2, hf⟩ := cc_l_s hf
    refine cw_len B hw rz2 (by decide) ez2 iz2 dX0_clear_62 ?_
    refine rn_icmp_ge (a := x1) (b := z2) (tgt := 79) hx hb ix1 iz2 dX0_clear_63 (by decide) (fun c3 => ?_) (fun c3 => ?_)
    · replace hf := cc_if_t hf c3
      exact cw_retv B hf hw dX0_clear_79
    · replace hf := cc_if_f hf c3
      refine cl_aload_n hx hb dX0_clear_66 rfl (lv_at hl.1 0 rfl) ?_
      obtain ⟨z4, ez4, iz4, rz4, hf⟩ := cc_g_s hw hf
      refine cw_get (val := cR v z4) B hw rz4 ⟨by decide, by decide⟩ (by decide) cwi_1 cfl_X0_24 ez4 rfl dX0_clear_67 ?_
      refine lv_iload_n hx hb dX0_clear_70 rfl (lv_at hl.1 1 rfl) ?_
      refine lv_iconst (v := rI (-1)) hx hb dX0_clear_71 rfl ?_
      obtain ⟨σ5, eσ5, rσ5, bσ5, hf⟩ := cc_w_s hf
      refine cw_astI B hw rσ5 ix1 bσ5 ⟨by decide, by decide⟩ eσ5 dX0_clear_72 (fun H locs hw => ?_)
      obtain ⟨z6, ez6, iz6, hf⟩ := cc_ck_s hf
      refine cl_iinc (v := rI z6) (lv' := [(1, .int (rI z6)), (0, cR v x0)]) hx hb dX0_clear_73 hl (k := 1) rfl (by rw [ez6]; exact rI_add _ _) (by decide) rfl (fun ls hl => ?_)
      refine lv_goto (tgt := 57) hx hb dX0_clear_76 (by decide) ?_
      exact ih σ5 x0 z6 ix0 iz6 hf _ _ _ _ _ hw (cl_sub hl [1, 0] rfl)

set_option maxHeartbeats 4000000 in
set_option maxRecDepth 100000 in
theorem pw_X0_clear_33 {v : cwE} {bd : cBd} {p : Program} {l : Launch} {e : Env} {s : State} {m : MethodId} {args : Array Value} {below : List Frame} {meth : Method} {c : Code} {d : Nat} {rec : Nat → CS → List Int → CO} {σ0 σ' : CS} {kd : Nat} {r : Int} (hbd : bd = cw_bd v) (hR : cw_Rec l v d rec) (htr : l.stackTraces = false) (hd5 : 5 ≤ d) (B : cw_B v RX0 p s m args meth c cX0_clear 2 none) (hnh : ∀ x ∈ c.exceptionTable.toList, False) : ∀ (n : Nat) (σ : CS) (x0 x1 : Int), inR x0 → inR x1 → pc_X0_clear_33 rec bd n σ x0 x1 = some (σ', kd, r) → ∀ (H : Heap) (locs : List Loc) (cells slots : Nat) (ls : Array Slot), cw_W v s σ0 σ H locs cells slots → cl_has ls 2 [(0, cR v x0), (1, .int (rI x1))] → W p l e (cw_rm v (d + 1) σ0) s m args below meth c H locs cells slots (cw_Z below v σ0 σ' kd none args s) (F0 m 33 ls []) := by
  subst hbd
  obtain ⟨hx, hb, hr, hml, hown, hts, hlk, hK⟩ := id B
  intro n
  induction n with
  | zero => intro σ x0 x1 ix0 ix1 hf; cases hf
  | succ n ih =>
    intro σ x0 x1 ix0 ix1 hf H locs cells slots ls hw hl
    unfold pc_X0_clear_33 at hf
    refine lv_iload_n hx hb dX0_clear_33 rfl (lv_at hl.1 1 rfl) ?_
    refine cl_aload_n hx hb dX0_clear_34 rfl (lv_at hl.1 0 rfl) ?_
    obtain ⟨z1, ez1, iz1, rz1, hf⟩ := cc_g_s hw hf
    refine cw_get (val := cR v z1) B hw rz1 ⟨by decide, by decide⟩ (by decide) cwi_1 cfl_X0_20 ez1 rfl dX0_clear_35 ?_
    obtain ⟨z2, ez2, iz2, rz2, hf⟩ := cc_l_s hf
    refine cw_len B hw rz2 (by decide) ez2 iz2 dX0_clear_38 ?_
    refine rn_icmp_ge (a := x1) (b := z2) (tgt := 55) hx hb ix1 iz2 dX0_clear_39 (by decide) (fun c3 => ?_) (fun c3 => ?_)
    · replace hf := cc_if_t hf c3
      refine lv_iconst (v := rI 0) hx hb dX0_clear_55 rfl ?_
      refine cl_istore_n (lv' := [(1, .int (rI 0)), (0, cR v x0)]) hx hb dX0_clear_56 rfl hl (by decide) rfl (fun ls hl => ?_)
      exact pw_X0_clear_57 rfl hR htr hd5 B hnh 2000000 σ x0 0 ix0 ⟨by decide, by decide⟩ hf _ _ _ _ _ hw (cl_sub hl [1, 0] rfl)
    · replace hf := cc_if_f hf c3
      refine cl_aload_n hx hb dX0_clear_42 rfl (lv_at hl.1 0 rfl) ?_
      obtain ⟨z4, ez4, iz4, rz4, hf⟩ := cc_g_s hw hf
      refine cw_get (val := cR v z4) B hw rz4 ⟨by decide, by decide⟩ (by decide) cwi_1 cfl_X0_20 ez4 rfl dX0_clear_43 ?_
      refine lv_iload_n hx hb dX0_clear_46 rfl (lv_at hl.1 1 rfl) ?_
      refine lv_iconst (v := rI (-1)) hx hb dX0_clear_47 rfl ?_
      obtain ⟨σ5, eσ5, rσ5, bσ5, hf⟩ := cc_w_s hf
      refine cw_astI B hw rσ5 ix1 bσ5 ⟨by decide, by decide⟩ eσ5 dX0_clear_48 (fun H locs hw => ?_)
      obtain ⟨z6, ez6, iz6, hf⟩ := cc_ck_s hf
      refine cl_iinc (v := rI z6) (lv' := [(1, .int (rI z6)), (0, cR v x0)]) hx hb dX0_clear_49 hl (k := 1) rfl (by rw [ez6]; exact rI_add _ _) (by decide) rfl (fun ls hl => ?_)
      refine lv_goto (tgt := 33) hx hb dX0_clear_52 (by decide) ?_
      exact ih σ5 x0 z6 ix0 iz6 hf _ _ _ _ _ hw (cl_sub hl [1, 0] rfl)

set_option maxHeartbeats 4000000 in
set_option maxRecDepth 100000 in
theorem pw_X0_clear_0 {v : cwE} {bd : cBd} {p : Program} {l : Launch} {e : Env} {s : State} {m : MethodId} {args : Array Value} {below : List Frame} {meth : Method} {c : Code} {d : Nat} {rec : Nat → CS → List Int → CO} {σ0 σ' : CS} {kd : Nat} {r : Int} (hbd : bd = cw_bd v) (hR : cw_Rec l v d rec) (htr : l.stackTraces = false) (hd5 : 5 ≤ d) (B : cw_B v RX0 p s m args meth c cX0_clear 2 none) (hnh : ∀ x ∈ c.exceptionTable.toList, False) : ∀ (σ : CS) (x0 : Int), inR x0 → pc_X0_clear_0 rec bd σ x0 = some (σ', kd, r) → ∀ (H : Heap) (locs : List Loc) (cells slots : Nat) (ls : Array Slot), cw_W v s σ0 σ H locs cells slots → cl_has ls 2 [(0, cR v x0)] → W p l e (cw_rm v (d + 1) σ0) s m args below meth c H locs cells slots (cw_Z below v σ0 σ' kd none args s) (F0 m 0 ls []) := by
  subst hbd
  obtain ⟨hx, hb, hr, hml, hown, hts, hlk, hK⟩ := id B
  intro σ x0 ix0 hf H locs cells slots ls hw hl
  unfold pc_X0_clear_0 at hf
  refine cl_aload_n hx hb dX0_clear_0 rfl (lv_at hl.1 0 rfl) ?_
  obtain ⟨z1, ez1, iz1, rz1, hf⟩ := cc_g_s hw hf
  refine cw_get (val := cR v z1) B hw rz1 ⟨by decide, by decide⟩ (by decide) cwi_1 cfl_X0_16 ez1 rfl dX0_clear_1 ?_
  refine lv_iconst (v := rI 0) hx hb dX0_clear_4 rfl ?_
  obtain ⟨σ2, eσ2, rσ2, hf⟩ := cc_p_s hf
  refine cw_put B hw rσ2 cwt_6 (by decide) rfl cfl_X0_74 ⟨by decide, by decide⟩ eσ2 rfl (cw_fv_n rfl rfl) dX0_clear_5 (fun H locs hw => ?_)
  refine cl_aload_n hx hb dX0_clear_8 rfl (lv_at hl.1 0 rfl) ?_
  obtain ⟨z3, ez3, iz3, rz3, hf⟩ := cc_g_s hw hf
  refine cw_get (val := cR v z3) B hw rz3 ⟨by decide, by decide⟩ (by decide) cwi_1 cfl_X0_34 ez3 rfl dX0_clear_9 ?_
  refine lv_iconst (v := rI 0) hx hb dX0_clear_12 rfl ?_
  obtain ⟨σ4, eσ4, rσ4, hf⟩ := cc_p_s hf
  refine cw_put B hw rσ4 cwt_6 (by decide) rfl cfl_X0_74 ⟨by decide, by decide⟩ eσ4 rfl (cw_fv_n rfl rfl) dX0_clear_13 (fun H locs hw => ?_)
  refine cl_aload_n hx hb dX0_clear_16 rfl (lv_at hl.1 0 rfl) ?_
  refine lv_iconst (v := rI 0) hx hb dX0_clear_17 rfl ?_
  obtain ⟨σ5, eσ5, rσ5, hf⟩ := cc_p_s hf
  refine cw_put B hw rσ5 cwt_1 (by decide) rfl cfl_X0_52 ⟨by decide, by decide⟩ eσ5 rfl (cw_fv_n rfl rfl) dX0_clear_18 (fun H locs hw => ?_)
  refine cl_aload_n hx hb dX0_clear_21 rfl (lv_at hl.1 0 rfl) ?_
  refine lv_iconst (v := rI 0) hx hb dX0_clear_22 rfl ?_
  obtain ⟨σ6, eσ6, rσ6, hf⟩ := cc_p_s hf
  refine cw_put B hw rσ6 cwt_1 (by decide) rfl cfl_X0_27 ⟨by decide, by decide⟩ eσ6 rfl (cw_fv_n rfl rfl) dX0_clear_23 (fun H locs hw => ?_)
  refine cl_aload_n hx hb dX0_clear_26 rfl (lv_at hl.1 0 rfl) ?_
  refine lv_iconst (v := rI 0) hx hb dX0_clear_27 rfl ?_
  obtain ⟨σ7, eσ7, rσ7, hf⟩ := cc_p_s hf
  refine cw_put B hw rσ7 cwt_1 (by decide) rfl cfl_X0_31 ⟨by decide, by decide⟩ eσ7 rfl (cw_fv_n rfl rfl) dX0_clear_28 (fun H locs hw => ?_)
  refine lv_iconst (v := rI 0) hx hb dX0_clear_31 rfl ?_
  refine cl_istore_n (lv' := [(1, .int (rI 0)), (0, cR v x0)]) hx hb dX0_clear_32 rfl hl (by decide) rfl (fun ls hl => ?_)
  exact pw_X0_clear_33 rfl hR htr hd5 B hnh 2000000 σ7 x0 0 ix0 ⟨by decide, by decide⟩ hf _ _ _ _ _ hw (cl_sub hl [1, 0] rfl)

set_option maxHeartbeats 4000000 in
set_option maxRecDepth 100000 in
theorem pm_X0_clear {v : cwE} {bd : cBd} {l : Launch} {d : Nat} {rec : Nat → CS → List Int → CO} (hbd : bd = cw_bd v) (hR : cw_Rec l v d rec) (htr : l.stackTraces = false) (hd5 : 5 ≤ d) (σ σ' : CS) (x0 : Int) (kd : Nat) (r : Int) (ix0 : inR x0) (hf : pc_X0_clear_0 rec bd σ x0 = some (σ', kd, r)) : cw_Met l v yX0_clear cX0_clear 2 none (d + 1) [cR v x0] σ σ' kd none := by
  refine cw_ofW (by decide +kernel) ?_
  intro p e s m args below meth c s₁ B hml hv
  obtain ⟨rfl, hM, hK⟩ := hv
  have hts := atoms_spec (ws := Cond.code yX0_clear cX0_clear 2 none :: cw_bw) B.pre
  have hB : cw_B v RX0 p s m _ meth c cX0_clear 2 none := ⟨B.exec, B.bytes, B.returns, hml, findClass_of_methodNamed B.named, fun w h => hts w (List.mem_cons_of_mem _ h), B.notSynchronized, hK⟩
  have hnh := cc_nh B (hts _ List.mem_cons_self)
  rw [lg_entry_eq]
  obtain ⟨ls, hls, hl⟩ := cl_ent [cR v x0] 2 (cl_1r cl_10) (Nat.le_of_ble_eq_true rfl)
  rw [hls]
  exact pw_X0_clear_0 hbd hR htr hd5 hB hnh σ x0 ix0 hf _ _ _ _ _ (cw_W0 hM) (cl_sub hl [0] rfl)

set_option maxHeartbeats 4000000 in
set_option maxRecDepth 100000 in
theorem pw_X0_init_0 {v : cwE} {bd : cBd} {p : Program} {l : Launch} {e : Env} {s : State} {m : MethodId} {args : Array Value} {below : List Frame} {meth : Method} {c : Code} {d : Nat} {rec : Nat → CS → List Int → CO} {σ0 σ' : CS} {kd : Nat} {r : Int} (hbd : bd = cw_bd v) (hR : cw_Rec l v d rec) (htr : l.stackTraces = false) (hd5 : 5 ≤ d) (B : cw_B v RX0 p s m args meth c cX0_init 1 none) (hin : meth.name = "<init>") (hnh : ∀ x ∈ c.exceptionTable.toList, False) : ∀ (σ : CS) (x0 : Int), inR x0 → pc_X0_init_0 rec bd σ x0 = some (σ', kd, r) → ∀ (H : Heap) (locs : List Loc) (cells slots : Nat) (ls : Array Slot), cw_W v s σ0 σ H locs cells slots → cl_has ls 1 [(0, cR v x0)] → W p l e (cw_rm v (d + 1) σ0) s m args below meth c H locs cells slots (cw_Z below v σ0 σ' kd none args s) (F0 m 0 ls []) := by
  subst hbd
  obtain ⟨hx, hb, hr, hml, hown, hts, hlk, hK⟩ := id B
  intro σ x0 ix0 hf H locs cells slots ls hw hl
  unfold pc_X0_init_0 at hf
  refine cl_aload_n hx hb dX0_init_0 rfl (lv_at hl.1 0 rfl) ?_
  obtain ⟨q0, hf⟩ := cc_t_s hf
  rw [cR_r q0.1]
  refine W.objInit hx hb hown (hts _ coi_X0_3) (hts _ coi2) (hts _ coi3) rfl (hl.1.1.trans hml.symm) rfl dX0_init_1 (by show 1 ≤ d + 1; omega) (by show _ + 12 ≤ 100 * (d + 1); simp [JFrame.monitorRoom]; omega) ?_
  refine cl_aload_n hx hb dX0_init_4 rfl (lv_at hl.1 0 rfl) ?_
  obtain ⟨σ1, z2, eσ1, ez2, iz2, rσ1, hf⟩ := cc_n_s hf
  refine cw_new B hw cwt_6 rfl cwd_6 cnl_X0_9 cni_6 cnz_6 rσ1 eσ1 ez2 dX0_init_5 (fun H hw => ?_)
  refine lv_dup hx hb dX0_init_8 (cR_cat _) ?_
  refine lv_bipush (v := rI 8) hx hb dX0_init_9 (by decide +kernel) ?_
  obtain ⟨qσ3, hf⟩ := cc_t_s hf
  obtain ⟨σ3, z5, hσ3, hf⟩ := cc_ci_s hf
  obtain ⟨iz5, mσ3⟩ := hR 101 σ1 [z2, 8] σ3 0 z5 hσ3
  have mσ3 : cw_Met l v yX5_init cX5_init 2 none d [cR v z2, .int (rI 8)] σ1 σ3 0 none := mσ3 iz2 ⟨by decide, by decide⟩
  refine cw_ci (b := z2) (n := 1) (rest := [cR v z2, cR v x0]) (As := [.int (rI 8)]) B mσ3 qσ3.1 rfl cgo_yX5_init cml_X0_13 cin_yX5_init (by decide +kernel) (by decide) rfl hl.1.1 (cl_cs (cl_1r (cl_1r cl_10)) (Nat.le_of_ble_eq_true rfl)) dX0_init_11 rfl hw (fun H locs cells slots hw => ?_)
  obtain ⟨σ6, eσ6, rσ6, hf⟩ := cc_p_s hf
  refine cw_putF B hin hw rσ6 cwt_1 (by decide) rfl rfl rfl cfl_X0_16 iz2 eσ6 rfl (cw_fv_r rfl (Or.inl ⟨_, rfl⟩)) dX0_init_14 (fun H locs hw => ?_)
  refine cl_aload_n hx hb dX0_init_17 rfl (lv_at hl.1 0 rfl) ?_
  refine lv_bipush (v := rI 8) hx hb dX0_init_18 (by decide +kernel) ?_
  obtain ⟨σ7, z8, eσ7, ez8, iz8, qσ7, rσ7, hf⟩ := cc_na_s hf
  refine cw_newa (t := 21) B hw (Or.inr ⟨rfl, rfl⟩) cac_int ⟨by decide, by decide⟩ qσ7.1 qσ7.2 rσ7 eσ7 ez8 dX0_init_20 (fun H hw => ?_)
  obtain ⟨σ9, eσ9, rσ9, hf⟩ := cc_p_s hf
  refine cw_putF B hin hw rσ9 cwt_1 (by decide) rfl rfl rfl cfl_X0_20 iz8 eσ9 rfl (cw_fv_r rfl (Or.inr ⟨_, rfl⟩)) dX0_init_22 (fun H locs hw => ?_)
  refine cl_aload_n hx hb dX0_init_25 rfl (lv_at hl.1 0 rfl) ?_
  refine lv_bipush (v := rI 64) hx hb dX0_init_26 (by decide +kernel) ?_
  obtain ⟨σ10, z11, eσ10, ez11, iz11, qσ10, rσ10, hf⟩ := cc_na_s hf
  refine cw_newa (t := 21) B hw (Or.inr ⟨rfl, rfl⟩) cac_int ⟨by decide, by decide⟩ qσ10.1 qσ10.2 rσ10 eσ10 ez11 dX0_init_28 (fun H hw => ?_)
  obtain ⟨σ12, eσ12, rσ12, hf⟩ := cc_p_s hf
  refine cw_putF B hin hw rσ12 cwt_1 (by decide) rfl rfl rfl cfl_X0_24 iz11 eσ12 rfl (cw_fv_r rfl (Or.inr ⟨_, rfl⟩)) dX0_init_30 (fun H locs hw => ?_)
  refine cl_aload_n hx hb dX0_init_33 rfl (lv_at hl.1 0 rfl) ?_
  refine lv_iconst (v := rI 0) hx hb dX0_init_34 rfl ?_
  obtain ⟨σ13, eσ13, rσ13, hf⟩ := cc_p_s hf
  refine cw_put B hw rσ13 cwt_1 (by decide) rfl cfl_X0_27 ⟨by decide, by decide⟩ eσ13 rfl (cw_fv_n rfl rfl) dX0_init_35 (fun H locs hw => ?_)
  refine cl_aload_n hx hb dX0_init_38 rfl (lv_at hl.1 0 rfl) ?_
  refine lv_iconst (v := rI 0) hx hb dX0_init_39 rfl ?_
  obtain ⟨σ14, eσ14, rσ14, hf⟩ := cc_p_s hf
  refine cw_put B hw rσ14 cwt_1 (by decide) rfl cfl_X0_31 ⟨by decide, by decide⟩ eσ14 rfl (cw_fv_n rfl rfl) dX0_init_40 (fun H locs hw => ?_)
  refine cl_aload_n hx hb dX0_init_43 rfl (lv_at hl.1 0 rfl) ?_
  obtain ⟨σ15, z16, eσ15, ez16, iz16, rσ15, hf⟩ := cc_n_s hf
  refine cw_new B hw cwt_6 rfl cwd_6 cnl_X0_9 cni_6 cnz_6 rσ15 eσ15 ez16 dX0_init_44 (fun H hw => ?_)
  refine lv_dup hx hb dX0_init_47 (cR_cat _) ?_
  refine lv_bipush (v := rI 100) hx hb dX0_init_48 (by decide +kernel) ?_
  obtain ⟨qσ17, hf⟩ := cc_t_s hf
  obtain ⟨σ17, z19, hσ17, hf⟩ := cc_ci_s hf
  obtain ⟨iz19, mσ17⟩ := hR 101 σ15 [z16, 100] σ17 0 z19 hσ17
  have mσ17 : cw_Met l v yX5_init cX5_init 2 none d [cR v z16, .int (rI 100)] σ15 σ17 0 none := mσ17 iz16 ⟨by decide, by decide⟩
  refine cw_ci (b := z16) (n := 1) (rest := [cR v z16, cR v x0]) (As := [.int (rI 100)]) B mσ17 qσ17.1 rfl cgo_yX5_init cml_X0_13 cin_yX5_init (by decide +kernel) (by decide) rfl hl.1.1 (cl_cs (cl_1r (cl_1r cl_10)) (Nat.le_of_ble_eq_true rfl)) dX0_init_50 rfl hw (fun H locs cells slots hw => ?_)
  obtain ⟨σ20, eσ20, rσ20, hf⟩ := cc_p_s hf
  refine cw_putF B hin hw rσ20 cwt_1 (by decide) rfl rfl rfl cfl_X0_34 iz16 eσ20 rfl (cw_fv_r rfl (Or.inl ⟨_, rfl⟩)) dX0_init_53 (fun H locs hw => ?_)
  refine cl_aload_n hx hb dX0_init_56 rfl (lv_at hl.1 0 rfl) ?_
  refine lv_bipush (v := rI 100) hx hb dX0_init_57 (by decide +kernel) ?_
  obtain ⟨σ21, z22, eσ21, ez22, iz22, qσ21, rσ21, hf⟩ := cc_na_s hf
  refine cw_anew (t := 22) B hw (Or.inl ⟨rfl, rfl⟩) ccl_X0_37 ⟨by decide, by decide⟩ qσ21.1 qσ21.2 rσ21 eσ21 ez22 dX0_init_59 (fun H hw => ?_)
  obtain ⟨σ23, eσ23, rσ23, hf⟩ := cc_p_s hf
  refine cw_putF B hin hw rσ23 cwt_1 (by decide) rfl rfl rfl cfl_X0_39 iz22 eσ23 rfl (cw_fv_r rfl (Or.inr ⟨_, rfl⟩)) dX0_init_62 (fun H locs hw => ?_)
  refine cl_aload_n hx hb dX0_init_65 rfl (lv_at hl.1 0 rfl) ?_
  refine lv_bipush (v := rI 100) hx hb dX0_init_66 (by decide +kernel) ?_
  obtain ⟨σ24, z25, eσ24, ez25, iz25, qσ24, rσ24, hf⟩ := cc_na_s hf
  refine cw_anew (t := 22) B hw (Or.inl ⟨rfl, rfl⟩) ccl_X0_37 ⟨by decide, by decide⟩ qσ24.1 qσ24.2 rσ24 eσ24 ez25 dX0_init_68 (fun H hw => ?_)
  obtain ⟨σ26, eσ26, rσ26, hf⟩ := cc_p_s hf
  refine cw_putF B hin hw rσ26 cwt_1 (by decide) rfl rfl rfl cfl_X0_43 iz25 eσ26 rfl (cw_fv_r rfl (Or.inr ⟨_, rfl⟩)) dX0_init_71 (fun H locs hw => ?_)
  refine cl_aload_n hx hb dX0_init_74 rfl (lv_at hl.1 0 rfl) ?_
  refine lv_bipush (v := rI 100) hx hb dX0_init_75 (by decide +kernel) ?_
  obtain ⟨σ27, z28, eσ27, ez28, iz28, qσ27, rσ27, hf⟩ := cc_na_s hf
  refine cw_newa (t := 21) B hw (Or.inr ⟨rfl, rfl⟩) cac_int ⟨by decide, by decide⟩ qσ27.1 qσ27.2 rσ27 eσ27 ez28 dX0_init_77 (fun H hw => ?_)
  obtain ⟨σ29, eσ29, rσ29, hf⟩ := cc_p_s hf
  refine cw_putF B hin hw rσ29 cwt_1 (by decide) rfl rfl rfl cfl_X0_46 iz28 eσ29 rfl (cw_fv_r rfl (Or.inr ⟨_, rfl⟩)) dX0_init_79 (fun H locs hw => ?_)
  refine cl_aload_n hx hb dX0_init_82 rfl (lv_at hl.1 0 rfl) ?_
  refine lv_bipush (v := rI 20) hx hb dX0_init_83 (by decide +kernel) ?_
  obtain ⟨σ30, z31, eσ30, ez31, iz31, qσ30, rσ30, hf⟩ := cc_na_s hf
  refine cw_newa (t := 21) B hw (Or.inr ⟨rfl, rfl⟩) cac_int ⟨by decide, by decide⟩ qσ30.1 qσ30.2 rσ30 eσ30 ez31 dX0_init_85 (fun H hw => ?_)
  obtain ⟨σ32, eσ32, rσ32, hf⟩ := cc_p_s hf
  refine cw_putF B hin hw rσ32 cwt_1 (by decide) rfl rfl rfl cfl_X0_49 iz31 eσ32 rfl (cw_fv_r rfl (Or.inr ⟨_, rfl⟩)) dX0_init_87 (fun H locs hw => ?_)
  refine cl_aload_n hx hb dX0_init_90 rfl (lv_at hl.1 0 rfl) ?_
  refine lv_iconst (v := rI 0) hx hb dX0_init_91 rfl ?_
  obtain ⟨σ33, eσ33, rσ33, hf⟩ := cc_p_s hf
  refine cw_put B hw rσ33 cwt_1 (by decide) rfl cfl_X0_52 ⟨by decide, by decide⟩ eσ33 rfl (cw_fv_n rfl rfl) dX0_init_92 (fun H locs hw => ?_)
  exact cw_retv B hf hw dX0_init_95

set_option maxHeartbeats 4000000 in
set_option maxRecDepth 100000 in
theorem pm_X0_init {v : cwE} {bd : cBd} {l : Launch} {d : Nat} {rec : Nat → CS → List Int → CO} (hbd : bd = cw_bd v) (hR : cw_Rec l v d rec) (htr : l.stackTraces = false) (hd5 : 5 ≤ d) (σ σ' : CS) (x0 : Int) (kd : Nat) (r : Int) (ix0 : inR x0) (hf : pc_X0_init_0 rec bd σ x0 = some (σ', kd, r)) : cw_Met l v yX0_init cX0_init 1 none (d + 1) [cR v x0] σ σ' kd none := by
  refine cw_ofW (by decide +kernel) ?_
  intro p e s m args below meth c s₁ B hml hv
  obtain ⟨rfl, hM, hK⟩ := hv
  have hts := atoms_spec (ws := Cond.code yX0_init cX0_init 1 none :: cw_bw) B.pre
  have hB : cw_B v RX0 p s m _ meth c cX0_init 1 none := ⟨B.exec, B.bytes, B.returns, hml, findClass_of_methodNamed B.named, fun w h => hts w (List.mem_cons_of_mem _ h), B.notSynchronized, hK⟩
  have hnh := cc_nh B (hts _ List.mem_cons_self)
  rw [lg_entry_eq]
  obtain ⟨ls, hls, hl⟩ := cl_ent [cR v x0] 1 (cl_1r cl_10) (Nat.le_of_ble_eq_true rfl)
  rw [hls]
  exact pw_X0_init_0 hbd hR htr hd5 hB (name_of_methodNamed B.named B.method).1 hnh σ x0 ix0 hf _ _ _ _ _ (cw_W0 hM) (cl_sub hl [0] rfl)

set_option maxHeartbeats 4000000 in
set_option maxRecDepth 100000 in
theorem pw_X0_loadCorner_74 {v : cwE} {bd : cBd} {p : Program} {l : Launch} {e : Env} {s : State} {m : MethodId} {args : Array Value} {below : List Frame} {meth : Method} {c : Code} {d : Nat} {rec : Nat → CS → List Int → CO} {σ0 σ' : CS} {kd : Nat} {r : Int} (hbd : bd = cw_bd v) (hR : cw_Rec l v d rec) (htr : l.stackTraces = false) (hd5 : 5 ≤ d) (B : cw_B v RX0 p s m args meth c cX0_loadCorner 2 none) (hnh : ∀ x ∈ c.exceptionTable.toList, False) : ∀ (σ : CS) (x0 x1 : Int), inR x0 → inR x1 → pc_X0_loadCorner_74 rec bd σ x0 x1 = some (σ', kd, r) → ∀ (H : Heap) (locs : List Loc) (cells slots : Nat) (ls : Array Slot), cw_W v s σ0 σ H locs cells slots → cl_has ls 2 [(0, cR v x0), (1, .int (rI x1))] → W p l e (cw_rm v (d + 1) σ0) s m args below meth c H locs cells slots (cw_Z below v σ0 σ' kd none args s) (F0 m 74 ls []) := by
  subst hbd
  obtain ⟨hx, hb, hr, hml, hown, hts, hlk, hK⟩ := id B
  intro σ x0 x1 ix0 ix1 hf H locs cells slots ls hw hl
  unfold pc_X0_loadCorner_74 at hf
  refine lv_iload_n hx hb dX0_loadCorner_74 rfl (lv_at hl.1 1 rfl) ?_
  refine lv_iconst (v := rI 4) hx hb dX0_loadCorner_75 rfl ?_
  obtain ⟨z1, ez1, iz1, hf⟩ := cc_nm_s hf
  refine lv_iand hx hb dX0_loadCorner_76 ?_
  refine rn_top ez1 ?_
  refine rn_if_eq (a := z1) (tgt := 87) hx hb iz1 dX0_loadCorner_77 (by decide) (fun c2 => ?_) (fun c2 => ?_)
  · replace hf := cc_if_t hf c2
    exact cw_retv B hf hw dX0_loadCorner_87
  · replace hf := cc_if_f hf c2
    refine cl_aload_n hx hb dX0_loadCorner_80 rfl (lv_at hl.1 0 rfl) ?_
    refine lv_iconst (v := rI 0) hx hb dX0_loadCorner_81 rfl ?_
    refine lv_iconst (v := rI 1) hx hb dX0_loadCorner_82 rfl ?_
    refine lv_iconst (v := rI 1) hx hb dX0_loadCorner_83 rfl ?_
    obtain ⟨qσ3, hf⟩ := cc_t_s hf
    obtain ⟨σ3, kv4, z5, hσ3, hf⟩ := cc_cl_s hf
    obtain ⟨iz5, mσ3⟩ := hR 23 σ [x0, 0, 1, 1] σ3 kv4 z5 hσ3
    have mσ3 : cw_Met l v yX0_setRule cX0_setRule 4 none d [cR v x0, .int (rI 0), .int (rI 1), .int (rI 1)] σ σ3 kv4 none := mσ3 ix0 ⟨by decide, by decide⟩ ⟨by decide, by decide⟩ ⟨by decide, by decide⟩
    refine cw_cv (b := x0) (t := 1) (n := 3) (rest := []) (As := [.int (rI 0), .int (rI 1), .int (rI 1)]) B mσ3 qσ3 ⟨by decide, by decide⟩ cgo_yX0_setRule cml_X0_70 cin_yX0_setRule cse_yX0_setRule (by decide +kernel) (by decide) rfl hl.1.1 (Nat.le_of_ble_eq_true rfl) dX0_loadCorner_84 rfl hw (fun h0 H locs cells slots hw => ?_) (fun h0 H locs cells slots q ce hw h1 h2 h3 => ?_)
    · rcases hf with ⟨-, hf⟩ | ⟨hk, -⟩
      · skip
        exact cw_retv B hf hw dX0_loadCorner_87
      · exact absurd h0 hk
    · rcases hf with ⟨hk, -⟩ | ⟨-, hf⟩
      · exact absurd hk h0
      · cases hf
        exact cw_xout B hnh h0 hw h1 h2 h3

set_option maxHeartbeats 4000000 in
set_option maxRecDepth 100000 in
theorem pw_X0_loadCorner_61 {v : cwE} {bd : cBd} {p : Program} {l : Launch} {e : Env} {s : State} {m : MethodId} {args : Array Value} {below : List Frame} {meth : Method} {c : Code} {d : Nat} {rec : Nat → CS → List Int → CO} {σ0 σ' : CS} {kd : Nat} {r : Int} (hbd : bd = cw_bd v) (hR : cw_Rec l v d rec) (htr : l.stackTraces = false) (hd5 : 5 ≤ d) (B : cw_B v RX0 p s m args meth c cX0_loadCorner 2 none) (hnh : ∀ x ∈ c.exceptionTable.toList, False) : ∀ (σ : CS) (x0 x1 : Int), inR x0 → inR x1 → pc_X0_loadCorner_61 rec bd σ x0 x1 = some (σ', kd, r) → ∀ (H : Heap) (locs : List Loc) (cells slots : Nat) (ls : Array Slot), cw_W v s σ0 σ H locs cells slots → cl_has ls 2 [(0, cR v x0), (1, .int (rI x1))] → W p l e (cw_rm v (d + 1) σ0) s m args below meth c H locs cells slots (cw_Z below v σ0 σ' kd none args s) (F0 m 61 ls []) := by
  subst hbd
  obtain ⟨hx, hb, hr, hml, hown, hts, hlk, hK⟩ := id B
  intro σ x0 x1 ix0 ix1 hf H locs cells slots ls hw hl
  unfold pc_X0_loadCorner_61 at hf
  refine lv_iload_n hx hb dX0_loadCorner_61 rfl (lv_at hl.1 1 rfl) ?_
  refine lv_iconst (v := rI 2) hx hb dX0_loadCorner_62 rfl ?_
  obtain ⟨z1, ez1, iz1, hf⟩ := cc_nm_s hf
  refine lv_iand hx hb dX0_loadCorner_63 ?_
  refine rn_top ez1 ?_
  refine rn_if_eq (a := z1) (tgt := 74) hx hb iz1 dX0_loadCorner_64 (by decide) (fun c2 => ?_) (fun c2 => ?_)
  · replace hf := cc_if_t hf c2
    exact pw_X0_loadCorner_74 rfl hR htr hd5 B hnh σ x0 x1 ix0 ix1 hf _ _ _ _ _ hw (cl_sub hl [0, 1] rfl)
  · replace hf := cc_if_f hf c2
    refine cl_aload_n hx hb dX0_loadCorner_67 rfl (lv_at hl.1 0 rfl) ?_
    refine lv_iconst (v := rI 1) hx hb dX0_loadCorner_68 rfl ?_
    refine lv_iconst (v := rI 1) hx hb dX0_loadCorner_69 rfl ?_
    refine lv_iconst (v := rI 1) hx hb dX0_loadCorner_70 rfl ?_
    obtain ⟨qσ3, hf⟩ := cc_t_s hf
    obtain ⟨σ3, kv4, z5, hσ3, hf⟩ := cc_cl_s hf
    obtain ⟨iz5, mσ3⟩ := hR 23 σ [x0, 1, 1, 1] σ3 kv4 z5 hσ3
    have mσ3 : cw_Met l v yX0_setRule cX0_setRule 4 none d [cR v x0, .int (rI 1), .int (rI 1), .int (rI 1)] σ σ3 kv4 none := mσ3 ix0 ⟨by decide, by decide⟩ ⟨by decide, by decide⟩ ⟨by decide, by decide⟩
    refine cw_cv (b := x0) (t := 1) (n := 3) (rest := []) (As := [.int (rI 1), .int (rI 1), .int (rI 1)]) B mσ3 qσ3 ⟨by decide, by decide⟩ cgo_yX0_setRule cml_X0_70 cin_yX0_setRule cse_yX0_setRule (by decide +kernel) (by decide) rfl hl.1.1 (Nat.le_of_ble_eq_true rfl) dX0_loadCorner_71 rfl hw (fun h0 H locs cells slots hw => ?_) (fun h0 H locs cells slots q ce hw h1 h2 h3 => ?_)
    · rcases hf with ⟨-, hf⟩ | ⟨hk, -⟩
      · skip
        exact pw_X0_loadCorner_74 rfl hR htr hd5 B hnh σ3 x0 x1 ix0 ix1 hf _ _ _ _ _ hw (cl_sub hl [0, 1] rfl)
      · exact absurd h0 hk
    · rcases hf with ⟨hk, -⟩ | ⟨-, hf⟩
      · exact absurd hk h0
      · cases hf
        exact cw_xout B hnh h0 hw h1 h2 h3

set_option maxHeartbeats 4000000 in
set_option maxRecDepth 100000 in
theorem pw_X0_loadCorner_0 {v : cwE} {bd : cBd} {p : Program} {l : Launch} {e : Env} {s : State} {m : MethodId} {args : Array Value} {below : List Frame} {meth : Method} {c : Code} {d : Nat} {rec : Nat → CS → List Int → CO} {σ0 σ' : CS} {kd : Nat} {r : Int} (hbd : bd = cw_bd v) (hR : cw_Rec l v d rec) (htr : l.stackTraces = false) (hd5 : 5 ≤ d) (B : cw_B v RX0 p s m args meth c cX0_loadCorner 2 none) (hnh : ∀ x ∈ c.exceptionTable.toList, False) : ∀ (σ : CS) (x0 x1 : Int), inR x0 → inR x1 → pc_X0_loadCorner_0 rec bd σ x0 x1 = some (σ', kd, r) → ∀ (H : Heap) (locs : List Loc) (cells slots : Nat) (ls : Array Slot), cw_W v s σ0 σ H locs cells slots → cl_has ls 2 [(0, cR v x0), (1, .int (rI x1))] → W p l e (cw_rm v (d + 1) σ0) s m args below meth c H locs cells slots (cw_Z below v σ0 σ' kd none args s) (F0 m 0 ls []) := by
  subst hbd
  obtain ⟨hx, hb, hr, hml, hown, hts, hlk, hK⟩ := id B
  intro σ x0 x1 ix0 ix1 hf H locs cells slots ls hw hl
  unfold pc_X0_loadCorner_0 at hf
  refine cl_aload_n hx hb dX0_loadCorner_0 rfl (lv_at hl.1 0 rfl) ?_
  obtain ⟨qσ1, hf⟩ := cc_t_s hf
  obtain ⟨σ1, kv2, z3, hσ1, hf⟩ := cc_cl_s hf
  obtain ⟨iz3, mσ1⟩ := hR 18 σ [x0] σ1 kv2 z3 hσ1
  have mσ1 : cw_Met l v yX0_clear cX0_clear 2 none d [cR v x0] σ σ1 kv2 none := mσ1 ix0
  refine cw_cv (b := x0) (t := 1) (n := 0) (rest := []) (As := []) B mσ1 qσ1 ⟨by decide, by decide⟩ cgo_yX0_clear cml_X0_55 cin_yX0_clear cse_yX0_clear (by decide +kernel) (by decide) rfl hl.1.1 (Nat.le_of_ble_eq_true rfl) dX0_loadCorner_1 rfl hw (fun h0 H locs cells slots hw => ?_) (fun h0 H locs cells slots q ce hw h1 h2 h3 => ?_)
  · rcases hf with ⟨-, hf⟩ | ⟨hk, -⟩
    · skip
      refine lv_iload_n hx hb dX0_loadCorner_4 rfl (lv_at hl.1 1 rfl) ?_
      refine lv_bipush (v := rI 8) hx hb dX0_loadCorner_5 (by decide +kernel) ?_
      refine rn_icmp_ne (a := x1) (b := 8) (tgt := 11) hx hb ix1 ⟨by decide, by decide⟩ dX0_loadCorner_7 (by decide) (fun c4 => ?_) (fun c4 => ?_)
      · replace hf := cc_if_t hf c4
        refine cl_aload_n hx hb dX0_loadCorner_11 rfl (lv_at hl.1 0 rfl) ?_
        obtain ⟨z5, ez5, iz5, rz5, hf⟩ := cc_g_s hw hf
        refine cw_get (val := cR v z5) B hw rz5 ⟨by decide, by decide⟩ (by decide) cwi_1 cfl_X0_16 ez5 rfl dX0_loadCorner_12 ?_
        obtain ⟨z6, ez6, iz6, hf⟩ := cc_gs_s hf
        refine cw_gets B hw (cw_sta_20 hK) csl_X0_58 ez6 rfl dX0_loadCorner_15 ?_
        refine lv_iconst (v := rI 0) hx hb dX0_loadCorner_18 rfl ?_
        refine lv_iconst (v := rI 4) hx hb dX0_loadCorner_19 rfl ?_
        obtain ⟨qσ7, hf⟩ := cc_t_s hf
        obtain ⟨σ7, kv8, z9, hσ7, hf⟩ := cc_cl_s hf
        obtain ⟨iz9, mσ7⟩ := hR 97 σ1 [z5, z6, 0, 4] σ7 kv8 z9 hσ7
        have mσ7 : cw_Met l v yX5_add cX5_add 5 none d [cR v z5, cR v z6, .int (rI 0), .int (rI 4)] σ1 σ7 kv8 none := mσ7 iz5 iz6 ⟨by decide, by decide⟩ ⟨by decide, by decide⟩
        refine cw_cv (b := z5) (t := 6) (n := 3) (rest := []) (As := [cR v z6, .int (rI 0), .int (rI 4)]) B mσ7 qσ7 ⟨by decide, by decide⟩ cgo_yX5_add cml_X0_62 cin_yX5_add cse_yX5_add (by decide +kernel) (by decide) rfl hl.1.1 (Nat.le_of_ble_eq_true rfl) dX0_loadCorner_20 rfl hw (fun h0 H locs cells slots hw => ?_) (fun h0 H locs cells slots q ce hw h1 h2 h3 => ?_)
        · rcases hf with ⟨-, hf⟩ | ⟨hk, -⟩
          · skip
            refine cl_aload_n hx hb dX0_loadCorner_23 rfl (lv_at hl.1 0 rfl) ?_
            obtain ⟨z10, ez10, iz10, rz10, hf⟩ := cc_g_s hw hf
            refine cw_get (val := cR v z10) B hw rz10 ⟨by decide, by decide⟩ (by decide) cwi_1 cfl_X0_16 ez10 rfl dX0_loadCorner_24 ?_
            obtain ⟨z11, ez11, iz11, hf⟩ := cc_gs_s hf
            refine cw_gets B hw (cw_sta_20 hK) csl_X0_58 ez11 rfl dX0_loadCorner_27 ?_
            refine lv_iconst (v := rI 4) hx hb dX0_loadCorner_30 rfl ?_
            refine lv_iconst (v := rI 4) hx hb dX0_loadCorner_31 rfl ?_
            obtain ⟨qσ12, hf⟩ := cc_t_s hf
            obtain ⟨σ12, kv13, z14, hσ12, hf⟩ := cc_cl_s hf
            obtain ⟨iz14, mσ12⟩ := hR 97 σ7 [z10, z11, 4, 4] σ12 kv13 z14 hσ12
            have mσ12 : cw_Met l v yX5_add cX5_add 5 none d [cR v z10, cR v z11, .int (rI 4), .int (rI 4)] σ7 σ12 kv13 none := mσ12 iz10 iz11 ⟨by decide, by decide⟩ ⟨by decide, by decide⟩
            refine cw_cv (b := z10) (t := 6) (n := 3) (rest := []) (As := [cR v z11, .int (rI 4), .int (rI 4)]) B mσ12 qσ12 ⟨by decide, by decide⟩ cgo_yX5_add cml_X0_62 cin_yX5_add cse_yX5_add (by decide +kernel) (by decide) rfl hl.1.1 (Nat.le_of_ble_eq_true rfl) dX0_loadCorner_32 rfl hw (fun h0 H locs cells slots hw => ?_) (fun h0 H locs cells slots q ce hw h1 h2 h3 => ?_)
            · rcases hf with ⟨-, hf⟩ | ⟨hk, -⟩
              · skip
                refine cl_aload_n hx hb dX0_loadCorner_35 rfl (lv_at hl.1 0 rfl) ?_
                refine lv_iconst (v := rI 0) hx hb dX0_loadCorner_36 rfl ?_
                refine lv_iconst (v := rI 1) hx hb dX0_loadCorner_37 rfl ?_
                obtain ⟨qσ15, hf⟩ := cc_t_s hf
                obtain ⟨σ15, kv16, z17, hσ15, hf⟩ := cc_cl_s hf
                obtain ⟨iz17, mσ15⟩ := hR 22 σ12 [x0, 0, 1] σ15 kv16 z17 hσ15
                have mσ15 : cw_Met l v yX0_setAxiom cX0_setAxiom 3 none d [cR v x0, .int (rI 0), .int (rI 1)] σ12 σ15 kv16 none := mσ15 ix0 ⟨by decide, by decide⟩ ⟨by decide, by decide⟩
                refine cw_cv (b := x0) (t := 1) (n := 2) (rest := []) (As := [.int (rI 0), .int (rI 1)]) B mσ15 qσ15 ⟨by decide, by decide⟩ cgo_yX0_setAxiom cml_X0_66 cin_yX0_setAxiom cse_yX0_setAxiom (by decide +kernel) (by decide) rfl hl.1.1 (Nat.le_of_ble_eq_true rfl) dX0_loadCorner_38 rfl hw (fun h0 H locs cells slots hw => ?_) (fun h0 H locs cells slots q ce hw h1 h2 h3 => ?_)
                · rcases hf with ⟨-, hf⟩ | ⟨hk, -⟩
                  · skip
                    refine cl_aload_n hx hb dX0_loadCorner_41 rfl (lv_at hl.1 0 rfl) ?_
                    refine lv_iconst (v := rI 0) hx hb dX0_loadCorner_42 rfl ?_
                    refine lv_iconst (v := rI 0) hx hb dX0_loadCorner_43 rfl ?_
                    refine lv_iconst (v := rI 0) hx hb dX0_loadCorner_44 rfl ?_
                    obtain ⟨qσ18, hf⟩ := cc_t_s hf
                    obtain ⟨σ18, kv19, z20, hσ18, hf⟩ := cc_cl_s hf
                    obtain ⟨iz20, mσ18⟩ := hR 23 σ15 [x0, 0, 0, 0] σ18 kv19 z20 hσ18
                    have mσ18 : cw_Met l v yX0_setRule cX0_setRule 4 none d [cR v x0, .int (rI 0), .int (rI 0), .int (rI 0)] σ15 σ18 kv19 none := mσ18 ix0 ⟨by decide, by decide⟩ ⟨by decide, by decide⟩ ⟨by decide, by decide⟩
                    refine cw_cv (b := x0) (t := 1) (n := 3) (rest := []) (As := [.int (rI 0), .int (rI 0), .int (rI 0)]) B mσ18 qσ18 ⟨by decide, by decide⟩ cgo_yX0_setRule cml_X0_70 cin_yX0_setRule cse_yX0_setRule (by decide +kernel) (by decide) rfl hl.1.1 (Nat.le_of_ble_eq_true rfl) dX0_loadCorner_45 rfl hw (fun h0 H locs cells slots hw => ?_) (fun h0 H locs cells slots q ce hw h1 h2 h3 => ?_)
                    · rcases hf with ⟨-, hf⟩ | ⟨hk, -⟩
                      · skip
                        refine lv_iload_n hx hb dX0_loadCorner_48 rfl (lv_at hl.1 1 rfl) ?_
                        refine lv_iconst (v := rI 1) hx hb dX0_loadCorner_49 rfl ?_
                        obtain ⟨z21, ez21, iz21, hf⟩ := cc_nm_s hf
                        refine lv_iand hx hb dX0_loadCorner_50 ?_
                        refine rn_top ez21 ?_
                        refine rn_if_eq (a := z21) (tgt := 61) hx hb iz21 dX0_loadCorner_51 (by decide) (fun c22 => ?_) (fun c22 => ?_)
                        · replace hf := cc_if_t hf c22
                          exact pw_X0_loadCorner_61 rfl hR htr hd5 B hnh σ18 x0 x1 ix0 ix1 hf _ _ _ _ _ hw (cl_sub hl [0, 1] rfl)
                        · replace hf := cc_if_f hf c22
                          refine cl_aload_n hx hb dX0_loadCorner_54 rfl (lv_at hl.1 0 rfl) ?_
                          refine lv_iconst (v := rI 1) hx hb dX0_loadCorner_55 rfl ?_
                          refine lv_iconst (v := rI 0) hx hb dX0_loadCorner_56 rfl ?_
                          refine lv_iconst (v := rI 0) hx hb dX0_loadCorner_57 rfl ?_
                          obtain ⟨qσ23, hf⟩ := cc_t_s hf
                          obtain ⟨σ23, kv24, z25, hσ23, hf⟩ := cc_cl_s hf
                          obtain ⟨iz25, mσ23⟩ := hR 23 σ18 [x0, 1, 0, 0] σ23 kv24 z25 hσ23
                          have mσ23 : cw_Met l v yX0_setRule cX0_setRule 4 none d [cR v x0, .int (rI 1), .int (rI 0), .int (rI 0)] σ18 σ23 kv24 none := mσ23 ix0 ⟨by decide, by decide⟩ ⟨by decide, by decide⟩ ⟨by decide, by decide⟩
                          refine cw_cv (b := x0) (t := 1) (n := 3) (rest := []) (As := [.int (rI 1), .int (rI 0), .int (rI 0)]) B mσ23 qσ23 ⟨by decide, by decide⟩ cgo_yX0_setRule cml_X0_70 cin_yX0_setRule cse_yX0_setRule (by decide +kernel) (by decide) rfl hl.1.1 (Nat.le_of_ble_eq_true rfl) dX0_loadCorner_58 rfl hw (fun h0 H locs cells slots hw => ?_) (fun h0 H locs cells slots q ce hw h1 h2 h3 => ?_)
                          · rcases hf with ⟨-, hf⟩ | ⟨hk, -⟩
                            · skip
                              exact pw_X0_loadCorner_61 rfl hR htr hd5 B hnh σ23 x0 x1 ix0 ix1 hf _ _ _ _ _ hw (cl_sub hl [0, 1] rfl)
                            · exact absurd h0 hk
                          · rcases hf with ⟨hk, -⟩ | ⟨-, hf⟩
                            · exact absurd hk h0
                            · cases hf
                              exact cw_xout B hnh h0 hw h1 h2 h3
                      · exact absurd h0 hk
                    · rcases hf with ⟨hk, -⟩ | ⟨-, hf⟩
                      · exact absurd hk h0
                      · cases hf
                        exact cw_xout B hnh h0 hw h1 h2 h3
                  · exact absurd h0 hk
                · rcases hf with ⟨hk, -⟩ | ⟨-, hf⟩
                  · exact absurd hk h0
                  · cases hf
                    exact cw_xout B hnh h0 hw h1 h2 h3
              · exact absurd h0 hk
            · rcases hf with ⟨hk, -⟩ | ⟨-, hf⟩
              · exact absurd hk h0
              · cases hf
                exact cw_xout B hnh h0 hw h1 h2 h3
          · exact absurd h0 hk
        · rcases hf with ⟨hk, -⟩ | ⟨-, hf⟩
          · exact absurd hk h0
          · cases hf
            exact cw_xout B hnh h0 hw h1 h2 h3
      · replace hf := cc_if_f hf c4
        exact cw_retv B hf hw dX0_loadCorner_10
    · exact absurd h0 hk
  · rcases hf with ⟨hk, -⟩ | ⟨-, hf⟩
    · exact absurd hk h0
    · cases hf
      exact cw_xout B hnh h0 hw h1 h2 h3

set_option maxHeartbeats 4000000 in
set_option maxRecDepth 100000 in
theorem pm_X0_loadCorner {v : cwE} {bd : cBd} {l : Launch} {d : Nat} {rec : Nat → CS → List Int → CO} (hbd : bd = cw_bd v) (hR : cw_Rec l v d rec) (htr : l.stackTraces = false) (hd5 : 5 ≤ d) (σ σ' : CS) (x0 x1 : Int) (kd : Nat) (r : Int) (ix0 : inR x0) (ix1 : inR x1) (hf : pc_X0_loadCorner_0 rec bd σ x0 x1 = some (σ', kd, r)) : cw_Met l v yX0_loadCorner cX0_loadCorner 2 none (d + 1) [cR v x0, .int (rI x1)] σ σ' kd none := by
  refine cw_ofW (by decide +kernel) ?_
  intro p e s m args below meth c s₁ B hml hv
  obtain ⟨rfl, hM, hK⟩ := hv
  have hts := atoms_spec (ws := Cond.code yX0_loadCorner cX0_loadCorner 2 none :: cw_bw) B.pre
  have hB : cw_B v RX0 p s m _ meth c cX0_loadCorner 2 none := ⟨B.exec, B.bytes, B.returns, hml, findClass_of_methodNamed B.named, fun w h => hts w (List.mem_cons_of_mem _ h), B.notSynchronized, hK⟩
  have hnh := cc_nh B (hts _ List.mem_cons_self)
  rw [lg_entry_eq]
  obtain ⟨ls, hls, hl⟩ := cl_ent [cR v x0, .int (rI x1)] 2 (cl_1r (cl_1i cl_10)) (Nat.le_of_ble_eq_true rfl)
  rw [hls]
  exact pw_X0_loadCorner_0 hbd hR htr hd5 hB hnh σ x0 x1 ix0 ix1 hf _ _ _ _ _ (cw_W0 hM) (cl_sub hl [0, 1] rfl)

set_option maxHeartbeats 4000000 in
set_option maxRecDepth 100000 in
theorem pw_X0_ruleOf_0 {v : cwE} {bd : cBd} {p : Program} {l : Launch} {e : Env} {s : State} {m : MethodId} {args : Array Value} {below : List Frame} {meth : Method} {c : Code} {d : Nat} {rec : Nat → CS → List Int → CO} {σ0 σ' : CS} {kd : Nat} {r : Int} (hbd : bd = cw_bd v) (hR : cw_Rec l v d rec) (htr : l.stackTraces = false) (hd5 : 5 ≤ d) (B : cw_B v RX0 p s m args meth c cX0_ruleOf 3 (some .int)) (hnh : ∀ x ∈ c.exceptionTable.toList, False) : ∀ (σ : CS) (x0 x1 x2 : Int), inR x0 → inR x1 → inR x2 → pc_X0_ruleOf_0 rec bd σ x0 x1 x2 = some (σ', kd, r) → ∀ (H : Heap) (locs : List Loc) (cells slots : Nat) (ls : Array Slot), cw_W v s σ0 σ H locs cells slots → cl_has ls 3 [(0, cR v x0), (1, .int (rI x1)), (2, .int (rI x2))] → W p l e (cw_rm v (d + 1) σ0) s m args below meth c H locs cells slots (cw_Z below v σ0 σ' kd (some (.int (rI r))) args s) (F0 m 0 ls []) := by
  subst hbd
  obtain ⟨hx, hb, hr, hml, hown, hts, hlk, hK⟩ := id B
  intro σ x0 x1 x2 ix0 ix1 ix2 hf H locs cells slots ls hw hl
  unfold pc_X0_ruleOf_0 at hf
  refine lv_iload_n hx hb dX0_ruleOf_0 rfl (lv_at hl.1 1 rfl) ?_
  refine rn_if_lt (a := x1) (tgt := 20) hx hb ix1 dX0_ruleOf_1 (by decide) (fun c1 => ?_) (fun c1 => ?_)
  · replace hf := cc_if_t hf c1
    refine lv_iconst (v := rI (-1)) hx hb dX0_ruleOf_20 rfl ?_
    exact cw_reti B hf hw dX0_ruleOf_21
  · replace hf := cc_if_f hf c1
    refine lv_iload_n hx hb dX0_ruleOf_4 rfl (lv_at hl.1 1 rfl) ?_
    refine lv_bipush (v := rI 8) hx hb dX0_ruleOf_5 (by decide +kernel) ?_
    refine rn_icmp_ge (a := x1) (b := 8) (tgt := 20) hx hb ix1 ⟨by decide, by decide⟩ dX0_ruleOf_7 (by decide) (fun c2 => ?_) (fun c2 => ?_)
    · replace hf := cc_if_t hf c2
      refine lv_iconst (v := rI (-1)) hx hb dX0_ruleOf_20 rfl ?_
      exact cw_reti B hf hw dX0_ruleOf_21
    · replace hf := cc_if_f hf c2
      refine lv_iload_n hx hb dX0_ruleOf_10 rfl (lv_at hl.1 2 rfl) ?_
      refine rn_if_lt (a := x2) (tgt := 20) hx hb ix2 dX0_ruleOf_11 (by decide) (fun c3 => ?_) (fun c3 => ?_)
      · replace hf := cc_if_t hf c3
        refine lv_iconst (v := rI (-1)) hx hb dX0_ruleOf_20 rfl ?_
        exact cw_reti B hf hw dX0_ruleOf_21
      · replace hf := cc_if_f hf c3
        refine lv_iload_n hx hb dX0_ruleOf_14 rfl (lv_at hl.1 2 rfl) ?_
        refine lv_bipush (v := rI 8) hx hb dX0_ruleOf_15 (by decide +kernel) ?_
        refine rn_icmp_lt (a := x2) (b := 8) (tgt := 22) hx hb ix2 ⟨by decide, by decide⟩ dX0_ruleOf_17 (by decide) (fun c4 => ?_) (fun c4 => ?_)
        · replace hf := cc_if_t hf c4
          refine cl_aload_n hx hb dX0_ruleOf_22 rfl (lv_at hl.1 0 rfl) ?_
          obtain ⟨z5, ez5, iz5, rz5, hf⟩ := cc_g_s hw hf
          refine cw_get (val := cR v z5) B hw rz5 ⟨by decide, by decide⟩ (by decide) cwi_1 cfl_X0_24 ez5 rfl dX0_ruleOf_23 ?_
          refine lv_iload_n hx hb dX0_ruleOf_26 rfl (lv_at hl.1 1 rfl) ?_
          refine lv_bipush (v := rI 8) hx hb dX0_ruleOf_27 (by decide +kernel) ?_
          obtain ⟨z6, ez6, iz6, hf⟩ := cc_ck_s hf
          refine rn_mul hx hb ez6 dX0_ruleOf_29 ?_
          refine lv_iload_n hx hb dX0_ruleOf_30 rfl (lv_at hl.1 2 rfl) ?_
          obtain ⟨z7, ez7, iz7, hf⟩ := cc_ck_s hf
          refine rn_add hx hb ez7 dX0_ruleOf_31 ?_
          obtain ⟨z8, ez8, iz8, rz8, bz8, hf⟩ := cc_r_s hw hf
          refine cw_aldI B hw rz8 iz7 bz8 ez8 dX0_ruleOf_32 ?_
          exact cw_reti B hf hw dX0_ruleOf_33
        · replace hf := cc_if_f hf c4
          refine lv_iconst (v := rI (-1)) hx hb dX0_ruleOf_20 rfl ?_
          exact cw_reti B hf hw dX0_ruleOf_21

set_option maxHeartbeats 4000000 in
set_option maxRecDepth 100000 in
theorem pm_X0_ruleOf {v : cwE} {bd : cBd} {l : Launch} {d : Nat} {rec : Nat → CS → List Int → CO} (hbd : bd = cw_bd v) (hR : cw_Rec l v d rec) (htr : l.stackTraces = false) (hd5 : 5 ≤ d) (σ σ' : CS) (x0 x1 x2 : Int) (kd : Nat) (r : Int) (ix0 : inR x0) (ix1 : inR x1) (ix2 : inR x2) (hf : pc_X0_ruleOf_0 rec bd σ x0 x1 x2 = some (σ', kd, r)) : cw_Met l v yX0_ruleOf cX0_ruleOf 3 (some .int) (d + 1) [cR v x0, .int (rI x1), .int (rI x2)] σ σ' kd (some (.int (rI r))) := by
  refine cw_ofW (by decide +kernel) ?_
  intro p e s m args below meth c s₁ B hml hv
  obtain ⟨rfl, hM, hK⟩ := hv
  have hts := atoms_spec (ws := Cond.code yX0_ruleOf cX0_ruleOf 3 (some .int) :: cw_bw) B.pre
  have hB : cw_B v RX0 p s m _ meth c cX0_ruleOf 3 (some .int) := ⟨B.exec, B.bytes, B.returns, hml, findClass_of_methodNamed B.named, fun w h => hts w (List.mem_cons_of_mem _ h), B.notSynchronized, hK⟩
  have hnh := cc_nh B (hts _ List.mem_cons_self)
  rw [lg_entry_eq]
  obtain ⟨ls, hls, hl⟩ := cl_ent [cR v x0, .int (rI x1), .int (rI x2)] 3 (cl_1r (cl_1i (cl_1i cl_10))) (Nat.le_of_ble_eq_true rfl)
  rw [hls]
  exact pw_X0_ruleOf_0 hbd hR htr hd5 hB hnh σ x0 x1 x2 ix0 ix1 ix2 hf _ _ _ _ _ (cw_W0 hM) (cl_sub hl [0, 1, 2] rfl)

set_option maxHeartbeats 4000000 in
set_option maxRecDepth 100000 in
theorem pw_X0_setAxiom_0 {v : cwE} {bd : cBd} {p : Program} {l : Launch} {e : Env} {s : State} {m : MethodId} {args : Array Value} {below : List Frame} {meth : Method} {c : Code} {d : Nat} {rec : Nat → CS → List Int → CO} {σ0 σ' : CS} {kd : Nat} {r : Int} (hbd : bd = cw_bd v) (hR : cw_Rec l v d rec) (htr : l.stackTraces = false) (hd5 : 5 ≤ d) (B : cw_B v RX0 p s m args meth c cX0_setAxiom 3 none) (hnh : ∀ x ∈ c.exceptionTable.toList, False) : ∀ (σ : CS) (x0 x1 x2 : Int), inR x0 → inR x1 → inR x2 → pc_X0_setAxiom_0 rec bd σ x0 x1 x2 = some (σ', kd, r) → ∀ (H : Heap) (locs : List Loc) (cells slots : Nat) (ls : Array Slot), cw_W v s σ0 σ H locs cells slots → cl_has ls 3 [(0, cR v x0), (1, .int (rI x1)), (2, .int (rI x2))] → W p l e (cw_rm v (d + 1) σ0) s m args below meth c H locs cells slots (cw_Z below v σ0 σ' kd none args s) (F0 m 0 ls []) := by
  subst hbd
  obtain ⟨hx, hb, hr, hml, hown, hts, hlk, hK⟩ := id B
  intro σ x0 x1 x2 ix0 ix1 ix2 hf H locs cells slots ls hw hl
  unfold pc_X0_setAxiom_0 at hf
  refine cl_aload_n hx hb dX0_setAxiom_0 rfl (lv_at hl.1 0 rfl) ?_
  obtain ⟨z1, ez1, iz1, rz1, hf⟩ := cc_g_s hw hf
  refine cw_get (val := cR v z1) B hw rz1 ⟨by decide, by decide⟩ (by decide) cwi_1 cfl_X0_16 ez1 rfl dX0_setAxiom_1 ?_
  refine lv_iload_n hx hb dX0_setAxiom_4 rfl (lv_at hl.1 1 rfl) ?_
  obtain ⟨qσ2, hf⟩ := cc_t_s hf
  obtain ⟨σ2, kv3, z4, hσ2, hf⟩ := cc_cl_s hf
  obtain ⟨iz4, mσ2⟩ := hR 100 σ [z1, x1] σ2 kv3 z4 hσ2
  have mσ2 : cw_Met l v yX5_has cX5_has 2 (some .boolean) d [cR v z1, .int (rI x1)] σ σ2 kv3 (some (.int (rI z4))) := mσ2 iz1 ix1
  refine cw_cv (b := z1) (t := 6) (n := 1) (rest := []) (As := [.int (rI x1)]) B mσ2 qσ2 ⟨by decide, by decide⟩ cgo_yX5_has cml_X0_77 cin_yX5_has cse_yX5_has (by decide +kernel) (by decide) rfl hl.1.1 (Nat.le_of_ble_eq_true rfl) dX0_setAxiom_5 rfl hw (fun h0 H locs cells slots hw => ?_) (fun h0 H locs cells slots q ce hw h1 h2 h3 => ?_)
  · rcases hf with ⟨-, hf⟩ | ⟨hk, -⟩
    · skip
      refine rn_if_eq (a := z4) (tgt := 28) hx hb iz4 dX0_setAxiom_8 (by decide) (fun c5 => ?_) (fun c5 => ?_)
      · replace hf := cc_if_t hf c5
        exact cw_retv B hf hw dX0_setAxiom_28
      · replace hf := cc_if_f hf c5
        refine cl_aload_n hx hb dX0_setAxiom_11 rfl (lv_at hl.1 0 rfl) ?_
        obtain ⟨z6, ez6, iz6, rz6, hf⟩ := cc_g_s hw hf
        refine cw_get (val := cR v z6) B hw rz6 ⟨by decide, by decide⟩ (by decide) cwi_1 cfl_X0_20 ez6 rfl dX0_setAxiom_12 ?_
        refine lv_iload_n hx hb dX0_setAxiom_15 rfl (lv_at hl.1 1 rfl) ?_
        refine lv_iload_n hx hb dX0_setAxiom_16 rfl (lv_at hl.1 2 rfl) ?_
        obtain ⟨σ7, eσ7, rσ7, bσ7, hf⟩ := cc_w_s hf
        refine cw_astI B hw rσ7 ix1 bσ7 ix2 eσ7 dX0_setAxiom_17 (fun H locs hw => ?_)
        refine cl_aload_n hx hb dX0_setAxiom_18 rfl (lv_at hl.1 0 rfl) ?_
        refine lv_dup hx hb dX0_setAxiom_19 (cR_cat _) ?_
        obtain ⟨z8, ez8, iz8, rz8, hf⟩ := cc_g_s hw hf
        refine cw_get (val := .int (rI z8)) B hw rz8 ⟨by decide, by decide⟩ (by decide) cwi_1 cfl_X0_27 ez8 rfl dX0_setAxiom_20 ?_
        refine lv_iconst (v := rI 1) hx hb dX0_setAxiom_23 rfl ?_
        obtain ⟨z9, ez9, iz9, hf⟩ := cc_ck_s hf
        refine rn_add hx hb ez9 dX0_setAxiom_24 ?_
        obtain ⟨σ10, eσ10, rσ10, hf⟩ := cc_p_s hf
        refine cw_put B hw rσ10 cwt_1 (by decide) rfl cfl_X0_27 iz9 eσ10 rfl (cw_fv_n rfl rfl) dX0_setAxiom_25 (fun H locs hw => ?_)
        exact cw_retv B hf hw dX0_setAxiom_28
    · exact absurd h0 hk
  · rcases hf with ⟨hk, -⟩ | ⟨-, hf⟩
    · exact absurd hk h0
    · cases hf
      exact cw_xout B hnh h0 hw h1 h2 h3

set_option maxHeartbeats 4000000 in
set_option maxRecDepth 100000 in
theorem pm_X0_setAxiom {v : cwE} {bd : cBd} {l : Launch} {d : Nat} {rec : Nat → CS → List Int → CO} (hbd : bd = cw_bd v) (hR : cw_Rec l v d rec) (htr : l.stackTraces = false) (hd5 : 5 ≤ d) (σ σ' : CS) (x0 x1 x2 : Int) (kd : Nat) (r : Int) (ix0 : inR x0) (ix1 : inR x1) (ix2 : inR x2) (hf : pc_X0_setAxiom_0 rec bd σ x0 x1 x2 = some (σ', kd, r)) : cw_Met l v yX0_setAxiom cX0_setAxiom 3 none (d + 1) [cR v x0, .int (rI x1), .int (rI x2)] σ σ' kd none := by
  refine cw_ofW (by decide +kernel) ?_
  intro p e s m args below meth c s₁ B hml hv
  obtain ⟨rfl, hM, hK⟩ := hv
  have hts := atoms_spec (ws := Cond.code yX0_setAxiom cX0_setAxiom 3 none :: cw_bw) B.pre
  have hB : cw_B v RX0 p s m _ meth c cX0_setAxiom 3 none := ⟨B.exec, B.bytes, B.returns, hml, findClass_of_methodNamed B.named, fun w h => hts w (List.mem_cons_of_mem _ h), B.notSynchronized, hK⟩
  have hnh := cc_nh B (hts _ List.mem_cons_self)
  rw [lg_entry_eq]
  obtain ⟨ls, hls, hl⟩ := cl_ent [cR v x0, .int (rI x1), .int (rI x2)] 3 (cl_1r (cl_1i (cl_1i cl_10))) (Nat.le_of_ble_eq_true rfl)
  rw [hls]
  exact pw_X0_setAxiom_0 hbd hR htr hd5 hB hnh σ x0 x1 x2 ix0 ix1 ix2 hf _ _ _ _ _ (cw_W0 hM) (cl_sub hl [0, 1, 2] rfl)

set_option maxHeartbeats 4000000 in
set_option maxRecDepth 100000 in
theorem pw_X0_setRule_0 {v : cwE} {bd : cBd} {p : Program} {l : Launch} {e : Env} {s : State} {m : MethodId} {args : Array Value} {below : List Frame} {meth : Method} {c : Code} {d : Nat} {rec : Nat → CS → List Int → CO} {σ0 σ' : CS} {kd : Nat} {r : Int} (hbd : bd = cw_bd v) (hR : cw_Rec l v d rec) (htr : l.stackTraces = false) (hd5 : 5 ≤ d) (B : cw_B v RX0 p s m args meth c cX0_setRule 4 none) (hnh : ∀ x ∈ c.exceptionTable.toList, False) : ∀ (σ : CS) (x0 x1 x2 x3 : Int), inR x0 → inR x1 → inR x2 → inR x3 → pc_X0_setRule_0 rec bd σ x0 x1 x2 x3 = some (σ', kd, r) → ∀ (H : Heap) (locs : List Loc) (cells slots : Nat) (ls : Array Slot), cw_W v s σ0 σ H locs cells slots → cl_has ls 4 [(0, cR v x0), (1, .int (rI x1)), (2, .int (rI x2)), (3, .int (rI x3))] → W p l e (cw_rm v (d + 1) σ0) s m args below meth c H locs cells slots (cw_Z below v σ0 σ' kd none args s) (F0 m 0 ls []) := by
  subst hbd
  obtain ⟨hx, hb, hr, hml, hown, hts, hlk, hK⟩ := id B
  intro σ x0 x1 x2 x3 ix0 ix1 ix2 ix3 hf H locs cells slots ls hw hl
  unfold pc_X0_setRule_0 at hf
  refine cl_aload_n hx hb dX0_setRule_0 rfl (lv_at hl.1 0 rfl) ?_
  obtain ⟨z1, ez1, iz1, rz1, hf⟩ := cc_g_s hw hf
  refine cw_get (val := cR v z1) B hw rz1 ⟨by decide, by decide⟩ (by decide) cwi_1 cfl_X0_16 ez1 rfl dX0_setRule_1 ?_
  refine lv_iload_n hx hb dX0_setRule_4 rfl (lv_at hl.1 1 rfl) ?_
  obtain ⟨qσ2, hf⟩ := cc_t_s hf
  obtain ⟨σ2, kv3, z4, hσ2, hf⟩ := cc_cl_s hf
  obtain ⟨iz4, mσ2⟩ := hR 100 σ [z1, x1] σ2 kv3 z4 hσ2
  have mσ2 : cw_Met l v yX5_has cX5_has 2 (some .boolean) d [cR v z1, .int (rI x1)] σ σ2 kv3 (some (.int (rI z4))) := mσ2 iz1 ix1
  refine cw_cv (b := z1) (t := 6) (n := 1) (rest := []) (As := [.int (rI x1)]) B mσ2 qσ2 ⟨by decide, by decide⟩ cgo_yX5_has cml_X0_77 cin_yX5_has cse_yX5_has (by decide +kernel) (by decide) rfl hl.1.1 (Nat.le_of_ble_eq_true rfl) dX0_setRule_5 rfl hw (fun h0 H locs cells slots hw => ?_) (fun h0 H locs cells slots q ce hw h1 h2 h3 => ?_)
  · rcases hf with ⟨-, hf⟩ | ⟨hk, -⟩
    · skip
      refine rn_if_eq (a := z4) (tgt := 44) hx hb iz4 dX0_setRule_8 (by decide) (fun c5 => ?_) (fun c5 => ?_)
      · replace hf := cc_if_t hf c5
        exact cw_retv B hf hw dX0_setRule_44
      · replace hf := cc_if_f hf c5
        refine cl_aload_n hx hb dX0_setRule_11 rfl (lv_at hl.1 0 rfl) ?_
        obtain ⟨z6, ez6, iz6, rz6, hf⟩ := cc_g_s hw hf
        refine cw_get (val := cR v z6) B hw rz6 ⟨by decide, by decide⟩ (by decide) cwi_1 cfl_X0_16 ez6 rfl dX0_setRule_12 ?_
        refine lv_iload_n hx hb dX0_setRule_15 rfl (lv_at hl.1 2 rfl) ?_
        obtain ⟨qσ7, hf⟩ := cc_t_s hf
        obtain ⟨σ7, kv8, z9, hσ7, hf⟩ := cc_cl_s hf
        obtain ⟨iz9, mσ7⟩ := hR 100 σ2 [z6, x2] σ7 kv8 z9 hσ7
        have mσ7 : cw_Met l v yX5_has cX5_has 2 (some .boolean) d [cR v z6, .int (rI x2)] σ2 σ7 kv8 (some (.int (rI z9))) := mσ7 iz6 ix2
        refine cw_cv (b := z6) (t := 6) (n := 1) (rest := []) (As := [.int (rI x2)]) B mσ7 qσ7 ⟨by decide, by decide⟩ cgo_yX5_has cml_X0_77 cin_yX5_has cse_yX5_has (by decide +kernel) (by decide) rfl hl.1.1 (Nat.le_of_ble_eq_true rfl) dX0_setRule_16 rfl hw (fun h0 H locs cells slots hw => ?_) (fun h0 H locs cells slots q ce hw h1 h2 h3 => ?_)
        · rcases hf with ⟨-, hf⟩ | ⟨hk, -⟩
          · skip
            refine rn_if_eq (a := z9) (tgt := 44) hx hb iz9 dX0_setRule_19 (by decide) (fun c10 => ?_) (fun c10 => ?_)
            · replace hf := cc_if_t hf c10
              exact cw_retv B hf hw dX0_setRule_44
            · replace hf := cc_if_f hf c10
              refine cl_aload_n hx hb dX0_setRule_22 rfl (lv_at hl.1 0 rfl) ?_
              obtain ⟨z11, ez11, iz11, rz11, hf⟩ := cc_g_s hw hf
              refine cw_get (val := cR v z11) B hw rz11 ⟨by decide, by decide⟩ (by decide) cwi_1 cfl_X0_24 ez11 rfl dX0_setRule_23 ?_
              refine lv_iload_n hx hb dX0_setRule_26 rfl (lv_at hl.1 1 rfl) ?_
              refine lv_bipush (v := rI 8) hx hb dX0_setRule_27 (by decide +kernel) ?_
              obtain ⟨z12, ez12, iz12, hf⟩ := cc_ck_s hf
              refine rn_mul hx hb ez12 dX0_setRule_29 ?_
              refine lv_iload_n hx hb dX0_setRule_30 rfl (lv_at hl.1 2 rfl) ?_
              obtain ⟨z13, ez13, iz13, hf⟩ := cc_ck_s hf
              refine rn_add hx hb ez13 dX0_setRule_31 ?_
              refine lv_iload_n hx hb dX0_setRule_32 rfl (lv_at hl.1 3 rfl) ?_
              obtain ⟨σ14, eσ14, rσ14, bσ14, hf⟩ := cc_w_s hf
              refine cw_astI B hw rσ14 iz13 bσ14 ix3 eσ14 dX0_setRule_33 (fun H locs hw => ?_)
              refine cl_aload_n hx hb dX0_setRule_34 rfl (lv_at hl.1 0 rfl) ?_
              refine lv_dup hx hb dX0_setRule_35 (cR_cat _) ?_
              obtain ⟨z15, ez15, iz15, rz15, hf⟩ := cc_g_s hw hf
              refine cw_get (val := .int (rI z15)) B hw rz15 ⟨by decide, by decide⟩ (by decide) cwi_1 cfl_X0_31 ez15 rfl dX0_setRule_36 ?_
              refine lv_iconst (v := rI 1) hx hb dX0_setRule_39 rfl ?_
              obtain ⟨z16, ez16, iz16, hf⟩ := cc_ck_s hf
              refine rn_add hx hb ez16 dX0_setRule_40 ?_
              obtain ⟨σ17, eσ17, rσ17, hf⟩ := cc_p_s hf
              refine cw_put B hw rσ17 cwt_1 (by decide) rfl cfl_X0_31 iz16 eσ17 rfl (cw_fv_n rfl rfl) dX0_setRule_41 (fun H locs hw => ?_)
              exact cw_retv B hf hw dX0_setRule_44
          · exact absurd h0 hk
        · rcases hf with ⟨hk, -⟩ | ⟨-, hf⟩
          · exact absurd hk h0
          · cases hf
            exact cw_xout B hnh h0 hw h1 h2 h3
    · exact absurd h0 hk
  · rcases hf with ⟨hk, -⟩ | ⟨-, hf⟩
    · exact absurd hk h0
    · cases hf
      exact cw_xout B hnh h0 hw h1 h2 h3

set_option maxHeartbeats 4000000 in
set_option maxRecDepth 100000 in
theorem pm_X0_setRule {v : cwE} {bd : cBd} {l : Launch} {d : Nat} {rec : Nat → CS → List Int → CO} (hbd : bd = cw_bd v) (hR : cw_Rec l v d rec) (htr : l.stackTraces = false) (hd5 : 5 ≤ d) (σ σ' : CS) (x0 x1 x2 x3 : Int) (kd : Nat) (r : Int) (ix0 : inR x0) (ix1 : inR x1) (ix2 : inR x2) (ix3 : inR x3) (hf : pc_X0_setRule_0 rec bd σ x0 x1 x2 x3 = some (σ', kd, r)) : cw_Met l v yX0_setRule cX0_setRule 4 none (d + 1) [cR v x0, .int (rI x1), .int (rI x2), .int (rI x3)] σ σ' kd none := by
  refine cw_ofW (by decide +kernel) ?_
  intro p e s m args below meth c s₁ B hml hv
  obtain ⟨rfl, hM, hK⟩ := hv
  have hts := atoms_spec (ws := Cond.code yX0_setRule cX0_setRule 4 none :: cw_bw) B.pre
  have hB : cw_B v RX0 p s m _ meth c cX0_setRule 4 none := ⟨B.exec, B.bytes, B.returns, hml, findClass_of_methodNamed B.named, fun w h => hts w (List.mem_cons_of_mem _ h), B.notSynchronized, hK⟩
  have hnh := cc_nh B (hts _ List.mem_cons_self)
  rw [lg_entry_eq]
  obtain ⟨ls, hls, hl⟩ := cl_ent [cR v x0, .int (rI x1), .int (rI x2), .int (rI x3)] 4 (cl_1r (cl_1i (cl_1i (cl_1i cl_10)))) (Nat.le_of_ble_eq_true rfl)
  rw [hls]
  exact pw_X0_setRule_0 hbd hR htr hd5 hB hnh σ x0 x1 x2 x3 ix0 ix1 ix2 ix3 hf _ _ _ _ _ (cw_W0 hM) (cl_sub hl [0, 1, 2, 3] rfl)

set_option maxHeartbeats 4000000 in
set_option maxRecDepth 100000 in
theorem pw_X0_valueOf_0 {v : cwE} {bd : cBd} {p : Program} {l : Launch} {e : Env} {s : State} {m : MethodId} {args : Array Value} {below : List Frame} {meth : Method} {c : Code} {d : Nat} {rec : Nat → CS → List Int → CO} {σ0 σ' : CS} {kd : Nat} {r : Int} (hbd : bd = cw_bd v) (hR : cw_Rec l v d rec) (htr : l.stackTraces = false) (hd5 : 5 ≤ d) (B : cw_B v RX0 p s m args meth c cX0_valueOf 2 (some (.object "PureHouse$Node"))) (hnh : ∀ x ∈ c.exceptionTable.toList, False) : ∀ (σ : CS) (x0 x1 : Int), inR x0 → inR x1 → pc_X0_valueOf_0 rec bd σ x0 x1 = some (σ', kd, r) → ∀ (H : Heap) (locs : List Loc) (cells slots : Nat) (ls : Array Slot), cw_W v s σ0 σ H locs cells slots → cl_has ls 2 [(0, cR v x0), (1, .int (rI x1))] → W p l e (cw_rm v (d + 1) σ0) s m args below meth c H locs cells slots (cw_Z below v σ0 σ' kd (some (cR v r)) args s) (F0 m 0 ls []) := by
  subst hbd
  obtain ⟨hx, hb, hr, hml, hown, hts, hlk, hK⟩ := id B
  intro σ x0 x1 ix0 ix1 hf H locs cells slots ls hw hl
  unfold pc_X0_valueOf_0 at hf
  refine lv_iload_n hx hb dX0_valueOf_0 rfl (lv_at hl.1 1 rfl) ?_
  refine rn_if_lt (a := x1) (tgt := 24) hx hb ix1 dX0_valueOf_1 (by decide) (fun c1 => ?_) (fun c1 => ?_)
  · replace hf := cc_if_t hf c1
    refine cl_null (v := v) hx hb dX0_valueOf_24 ?_
    exact cw_reta B hf hw dX0_valueOf_25
  · replace hf := cc_if_f hf c1
    refine lv_iload_n hx hb dX0_valueOf_4 rfl (lv_at hl.1 1 rfl) ?_
    refine cl_aload_n hx hb dX0_valueOf_5 rfl (lv_at hl.1 0 rfl) ?_
    obtain ⟨z2, ez2, iz2, rz2, hf⟩ := cc_g_s hw hf
    refine cw_get (val := cR v z2) B hw rz2 ⟨by decide, by decide⟩ (by decide) cwi_1 cfl_X0_34 ez2 rfl dX0_valueOf_6 ?_
    obtain ⟨z3, ez3, iz3, rz3, hf⟩ := cc_g_s hw hf
    refine cw_get (val := .int (rI z3)) B hw rz3 ⟨by decide, by decide⟩ (by decide) cwi_6 cfl_X0_74 ez3 rfl dX0_valueOf_9 ?_
    refine rn_icmp_ge (a := x1) (b := z3) (tgt := 24) hx hb ix1 iz3 dX0_valueOf_12 (by decide) (fun c4 => ?_) (fun c4 => ?_)
    · replace hf := cc_if_t hf c4
      refine cl_null (v := v) hx hb dX0_valueOf_24 ?_
      exact cw_reta B hf hw dX0_valueOf_25
    · replace hf := cc_if_f hf c4
      refine cl_aload_n hx hb dX0_valueOf_15 rfl (lv_at hl.1 0 rfl) ?_
      obtain ⟨z5, ez5, iz5, rz5, hf⟩ := cc_g_s hw hf
      refine cw_get (val := cR v z5) B hw rz5 ⟨by decide, by decide⟩ (by decide) cwi_1 cfl_X0_43 ez5 rfl dX0_valueOf_16 ?_
      refine lv_iload_n hx hb dX0_valueOf_19 rfl (lv_at hl.1 1 rfl) ?_
      obtain ⟨z6, ez6, iz6, rz6, bz6, hf⟩ := cc_r_s hw hf
      refine cw_aldR B hw rz6 ix1 bz6 ez6 dX0_valueOf_20 ?_
      refine lv_goto (tgt := 25) hx hb dX0_valueOf_21 (by decide) ?_
      exact cw_reta B hf hw dX0_valueOf_25

set_option maxHeartbeats 4000000 in
set_option maxRecDepth 100000 in
theorem pm_X0_valueOf {v : cwE} {bd : cBd} {l : Launch} {d : Nat} {rec : Nat → CS → List Int → CO} (hbd : bd = cw_bd v) (hR : cw_Rec l v d rec) (htr : l.stackTraces = false) (hd5 : 5 ≤ d) (σ σ' : CS) (x0 x1 : Int) (kd : Nat) (r : Int) (ix0 : inR x0) (ix1 : inR x1) (hf : pc_X0_valueOf_0 rec bd σ x0 x1 = some (σ', kd, r)) : cw_Met l v yX0_valueOf cX0_valueOf 2 (some (.object "PureHouse$Node")) (d + 1) [cR v x0, .int (rI x1)] σ σ' kd (some (cR v r)) := by
  refine cw_ofW (by decide +kernel) ?_
  intro p e s m args below meth c s₁ B hml hv
  obtain ⟨rfl, hM, hK⟩ := hv
  have hts := atoms_spec (ws := Cond.code yX0_valueOf cX0_valueOf 2 (some (.object "PureHouse$Node")) :: cw_bw) B.pre
  have hB : cw_B v RX0 p s m _ meth c cX0_valueOf 2 (some (.object "PureHouse$Node")) := ⟨B.exec, B.bytes, B.returns, hml, findClass_of_methodNamed B.named, fun w h => hts w (List.mem_cons_of_mem _ h), B.notSynchronized, hK⟩
  have hnh := cc_nh B (hts _ List.mem_cons_self)
  rw [lg_entry_eq]
  obtain ⟨ls, hls, hl⟩ := cl_ent [cR v x0, .int (rI x1)] 2 (cl_1r (cl_1i cl_10)) (Nat.le_of_ble_eq_true rfl)
  rw [hls]
  exact pw_X0_valueOf_0 hbd hR htr hd5 hB hnh σ x0 x1 ix0 ix1 hf _ _ _ _ _ (cw_W0 hM) (cl_sub hl [0, 1] rfl)

set_option maxHeartbeats 4000000 in
set_option maxRecDepth 100000 in
theorem pw_X1_envOfSecond_0 {v : cwE} {bd : cBd} {p : Program} {l : Launch} {e : Env} {s : State} {m : MethodId} {args : Array Value} {below : List Frame} {meth : Method} {c : Code} {d : Nat} {rec : Nat → CS → List Int → CO} {σ0 σ' : CS} {kd : Nat} {r : Int} (hbd : bd = cw_bd v) (hR : cw_Rec l v d rec) (htr : l.stackTraces = false) (hd5 : 5 ≤ d) (B : cw_B v RX1 p s m args meth c cX1_envOfSecond 2 (some (.object "PureHouse$Link"))) (hnh : ∀ x ∈ c.exceptionTable.toList, False) : ∀ (σ : CS) (x0 x1 : Int), inR x0 → inR x1 → pc_X1_envOfSecond_0 rec bd σ x0 x1 = some (σ', kd, r) → ∀ (H : Heap) (locs : List Loc) (cells slots : Nat) (ls : Array Slot), cw_W v s σ0 σ H locs cells slots → cl_has ls 2 [(0, cR v x0), (1, .int (rI x1))] → W p l e (cw_rm v (d + 1) σ0) s m args below meth c H locs cells slots (cw_Z below v σ0 σ' kd (some (cR v r)) args s) (F0 m 0 ls []) := by
  subst hbd
  obtain ⟨hx, hb, hr, hml, hown, hts, hlk, hK⟩ := id B
  intro σ x0 x1 ix0 ix1 hf H locs cells slots ls hw hl
  unfold pc_X1_envOfSecond_0 at hf
  obtain ⟨σ1, z2, eσ1, ez2, iz2, rσ1, hf⟩ := cc_n_s hf
  refine cw_new B hw cwt_4 rfl cwd_4 cnl_X1_29 cni_4 cnz_4 rσ1 eσ1 ez2 dX1_envOfSecond_0 (fun H hw => ?_)
  refine lv_dup hx hb dX1_envOfSecond_3 (cR_cat _) ?_
  refine cl_aload_n hx hb dX1_envOfSecond_4 rfl (lv_at hl.1 0 rfl) ?_
  obtain ⟨z3, ez3, iz3, rz3, hf⟩ := cc_g_s hw hf
  refine cw_get (val := cR v z3) B hw rz3 ⟨by decide, by decide⟩ (by decide) cwi_2 cfl_X1_7 ez3 rfl dX1_envOfSecond_5 ?_
  obtain ⟨z4, ez4, iz4, rz4, hf⟩ := cc_g_s hw hf
  refine cw_get (val := .int (rI z4)) B hw rz4 ⟨by decide, by decide⟩ (by decide) cwi_7 cfl_X1_31 ez4 rfl dX1_envOfSecond_8 ?_
  refine lv_iload_n hx hb dX1_envOfSecond_11 rfl (lv_at hl.1 1 rfl) ?_
  refine cl_aload_n hx hb dX1_envOfSecond_12 rfl (lv_at hl.1 0 rfl) ?_
  obtain ⟨z5, ez5, iz5, rz5, hf⟩ := cc_g_s hw hf
  refine cw_get (val := cR v z5) B hw rz5 ⟨by decide, by decide⟩ (by decide) cwi_2 cfl_X1_17 ez5 rfl dX1_envOfSecond_13 ?_
  obtain ⟨qσ6, hf⟩ := cc_t_s hf
  obtain ⟨σ6, z8, hσ6, hf⟩ := cc_ci_s hf
  obtain ⟨iz8, mσ6⟩ := hR 78 σ1 [z2, z4, x1, z5] σ6 0 z8 hσ6
  have mσ6 : cw_Met l v yX3_init_ cX3_init_ 4 none d [cR v z2, .int (rI z4), .int (rI x1), cR v z5] σ1 σ6 0 none := mσ6 iz2 iz4 ix1 iz5
  refine cw_ci (b := z2) (n := 3) (rest := [cR v z2]) (As := [.int (rI z4), .int (rI x1), cR v z5]) B mσ6 qσ6.1 rfl cgo_yX3_init_ cml_X1_32 cin_yX3_init_ (by decide +kernel) (by decide) rfl hl.1.1 (cl_cs (cl_1r cl_10) (Nat.le_of_ble_eq_true rfl)) dX1_envOfSecond_16 rfl hw (fun H locs cells slots hw => ?_)
  exact cw_reta B hf hw dX1_envOfSecond_19

set_option maxHeartbeats 4000000 in
set_option maxRecDepth 100000 in
theorem pm_X1_envOfSecond {v : cwE} {bd : cBd} {l : Launch} {d : Nat} {rec : Nat → CS → List Int → CO} (hbd : bd = cw_bd v) (hR : cw_Rec l v d rec) (htr : l.stackTraces = false) (hd5 : 5 ≤ d) (σ σ' : CS) (x0 x1 : Int) (kd : Nat) (r : Int) (ix0 : inR x0) (ix1 : inR x1) (hf : pc_X1_envOfSecond_0 rec bd σ x0 x1 = some (σ', kd, r)) : cw_Met l v yX1_envOfSecond cX1_envOfSecond 2 (some (.object "PureHouse$Link")) (d + 1) [cR v x0, .int (rI x1)] σ σ' kd (some (cR v r)) := by
  refine cw_ofW (by decide +kernel) ?_
  intro p e s m args below meth c s₁ B hml hv
  obtain ⟨rfl, hM, hK⟩ := hv
  have hts := atoms_spec (ws := Cond.code yX1_envOfSecond cX1_envOfSecond 2 (some (.object "PureHouse$Link")) :: cw_bw) B.pre
  have hB : cw_B v RX1 p s m _ meth c cX1_envOfSecond 2 (some (.object "PureHouse$Link")) := ⟨B.exec, B.bytes, B.returns, hml, findClass_of_methodNamed B.named, fun w h => hts w (List.mem_cons_of_mem _ h), B.notSynchronized, hK⟩
  have hnh := cc_nh B (hts _ List.mem_cons_self)
  rw [lg_entry_eq]
  obtain ⟨ls, hls, hl⟩ := cl_ent [cR v x0, .int (rI x1)] 2 (cl_1r (cl_1i cl_10)) (Nat.le_of_ble_eq_true rfl)
  rw [hls]
  exact pw_X1_envOfSecond_0 hbd hR htr hd5 hB hnh σ x0 x1 ix0 ix1 hf _ _ _ _ _ (cw_W0 hM) (cl_sub hl [0, 1] rfl)

set_option maxHeartbeats 4000000 in
set_option maxRecDepth 100000 in
theorem pw_X1_init_0 {v : cwE} {bd : cBd} {p : Program} {l : Launch} {e : Env} {s : State} {m : MethodId} {args : Array Value} {below : List Frame} {meth : Method} {c : Code} {d : Nat} {rec : Nat → CS → List Int → CO} {σ0 σ' : CS} {kd : Nat} {r : Int} (hbd : bd = cw_bd v) (hR : cw_Rec l v d rec) (htr : l.stackTraces = false) (hd5 : 5 ≤ d) (B : cw_B v RX1 p s m args meth c cX1_init 5 none) (hin : meth.name = "<init>") (hnh : ∀ x ∈ c.exceptionTable.toList, False) : ∀ (σ : CS) (x0 x1 x2 x3 x4 : Int), inR x0 → inR x1 → inR x2 → inR x3 → inR x4 → pc_X1_init_0 rec bd σ x0 x1 x2 x3 x4 = some (σ', kd, r) → ∀ (H : Heap) (locs : List Loc) (cells slots : Nat) (ls : Array Slot), cw_W v s σ0 σ H locs cells slots → cl_has ls 5 [(0, cR v x0), (1, cR v x1), (2, .int (rI x2)), (3, cR v x3), (4, cR v x4)] → W p l e (cw_rm v (d + 1) σ0) s m args below meth c H locs cells slots (cw_Z below v σ0 σ' kd none args s) (F0 m 0 ls []) := by
  subst hbd
  obtain ⟨hx, hb, hr, hml, hown, hts, hlk, hK⟩ := id B
  intro σ x0 x1 x2 x3 x4 ix0 ix1 ix2 ix3 ix4 hf H locs cells slots ls hw hl
  unfold pc_X1_init_0 at hf
  refine cl_aload_n hx hb dX1_init_0 rfl (lv_at hl.1 0 rfl) ?_
  obtain ⟨q0, hf⟩ := cc_t_s hf
  rw [cR_r q0.1]
  refine W.objInit hx hb hown (hts _ coi_X1_1) (hts _ coi2) (hts _ coi3) rfl (hl.1.1.trans hml.symm) rfl dX1_init_1 (by show 1 ≤ d + 1; omega) (by show _ + 12 ≤ 100 * (d + 1); simp [JFrame.monitorRoom]; omega) ?_
  refine cl_aload_n hx hb dX1_init_4 rfl (lv_at hl.1 0 rfl) ?_
  refine cl_aload_n hx hb dX1_init_5 rfl (lv_at hl.1 1 rfl) ?_
  obtain ⟨σ1, eσ1, rσ1, hf⟩ := cc_p_s hf
  refine cw_putF B hin hw rσ1 cwt_2 (by decide) rfl rfl rfl cfl_X1_7 ix1 eσ1 rfl (cw_fv_r rfl (Or.inl ⟨_, rfl⟩)) dX1_init_6 (fun H locs hw => ?_)
  refine cl_aload_n hx hb dX1_init_9 rfl (lv_at hl.1 0 rfl) ?_
  refine lv_iload_n hx hb dX1_init_10 rfl (lv_at hl.1 2 rfl) ?_
  obtain ⟨σ2, eσ2, rσ2, hf⟩ := cc_p_s hf
  refine cw_putF B hin hw rσ2 cwt_2 (by decide) rfl rfl rfl cfl_X1_13 ix2 eσ2 rfl (cw_fv_n rfl rfl) dX1_init_11 (fun H locs hw => ?_)
  refine cl_aload_n hx hb dX1_init_14 rfl (lv_at hl.1 0 rfl) ?_
  refine cl_aload_n hx hb dX1_init_15 rfl (lv_at hl.1 3 rfl) ?_
  obtain ⟨σ3, eσ3, rσ3, hf⟩ := cc_p_s hf
  refine cw_putF B hin hw rσ3 cwt_2 (by decide) rfl rfl rfl cfl_X1_17 ix3 eσ3 rfl (cw_fv_r rfl (Or.inl ⟨_, rfl⟩)) dX1_init_16 (fun H locs hw => ?_)
  refine cl_aload_n hx hb dX1_init_19 rfl (lv_at hl.1 0 rfl) ?_
  refine cl_aload hx hb dX1_init_20 (lv_at hl.1 4 rfl) ?_
  obtain ⟨σ4, eσ4, rσ4, hf⟩ := cc_p_s hf
  refine cw_putF B hin hw rσ4 cwt_2 (by decide) rfl rfl rfl cfl_X1_21 ix4 eσ4 rfl (cw_fv_r rfl (Or.inl ⟨_, rfl⟩)) dX1_init_22 (fun H locs hw => ?_)
  exact cw_retv B hf hw dX1_init_25

set_option maxHeartbeats 4000000 in
set_option maxRecDepth 100000 in
theorem pm_X1_init {v : cwE} {bd : cBd} {l : Launch} {d : Nat} {rec : Nat → CS → List Int → CO} (hbd : bd = cw_bd v) (hR : cw_Rec l v d rec) (htr : l.stackTraces = false) (hd5 : 5 ≤ d) (σ σ' : CS) (x0 x1 x2 x3 x4 : Int) (kd : Nat) (r : Int) (ix0 : inR x0) (ix1 : inR x1) (ix2 : inR x2) (ix3 : inR x3) (ix4 : inR x4) (hf : pc_X1_init_0 rec bd σ x0 x1 x2 x3 x4 = some (σ', kd, r)) : cw_Met l v yX1_init cX1_init 5 none (d + 1) [cR v x0, cR v x1, .int (rI x2), cR v x3, cR v x4] σ σ' kd none := by
  refine cw_ofW (by decide +kernel) ?_
  intro p e s m args below meth c s₁ B hml hv
  obtain ⟨rfl, hM, hK⟩ := hv
  have hts := atoms_spec (ws := Cond.code yX1_init cX1_init 5 none :: cw_bw) B.pre
  have hB : cw_B v RX1 p s m _ meth c cX1_init 5 none := ⟨B.exec, B.bytes, B.returns, hml, findClass_of_methodNamed B.named, fun w h => hts w (List.mem_cons_of_mem _ h), B.notSynchronized, hK⟩
  have hnh := cc_nh B (hts _ List.mem_cons_self)
  rw [lg_entry_eq]
  obtain ⟨ls, hls, hl⟩ := cl_ent [cR v x0, cR v x1, .int (rI x2), cR v x3, cR v x4] 5 (cl_1r (cl_1r (cl_1i (cl_1r (cl_1r cl_10))))) (Nat.le_of_ble_eq_true rfl)
  rw [hls]
  exact pw_X1_init_0 hbd hR htr hd5 hB (name_of_methodNamed B.named B.method).1 hnh σ x0 x1 x2 x3 x4 ix0 ix1 ix2 ix3 ix4 hf _ _ _ _ _ (cw_W0 hM) (cl_sub hl [0, 1, 2, 3, 4] rfl)

set_option maxHeartbeats 4000000 in
set_option maxRecDepth 100000 in
theorem pw_X1_isBinder_0 {v : cwE} {bd : cBd} {p : Program} {l : Launch} {e : Env} {s : State} {m : MethodId} {args : Array Value} {below : List Frame} {meth : Method} {c : Code} {d : Nat} {rec : Nat → CS → List Int → CO} {σ0 σ' : CS} {kd : Nat} {r : Int} (hbd : bd = cw_bd v) (hR : cw_Rec l v d rec) (htr : l.stackTraces = false) (hd5 : 5 ≤ d) (B : cw_B v RX1 p s m args meth c cX1_isBinder 1 (some .boolean)) (hnh : ∀ x ∈ c.exceptionTable.toList, False) : ∀ (σ : CS) (x0 : Int), inR x0 → pc_X1_isBinder_0 rec bd σ x0 = some (σ', kd, r) → ∀ (H : Heap) (locs : List Loc) (cells slots : Nat) (ls : Array Slot), cw_W v s σ0 σ H locs cells slots → cl_has ls 1 [(0, cR v x0)] → W p l e (cw_rm v (d + 1) σ0) s m args below meth c H locs cells slots (cw_Z below v σ0 σ' kd (some (.int (rI r))) args s) (F0 m 0 ls []) := by
  subst hbd
  obtain ⟨hx, hb, hr, hml, hown, hts, hlk, hK⟩ := id B
  intro σ x0 ix0 hf H locs cells slots ls hw hl
  unfold pc_X1_isBinder_0 at hf
  refine cl_aload_n hx hb dX1_isBinder_0 rfl (lv_at hl.1 0 rfl) ?_
  obtain ⟨z1, ez1, iz1, rz1, hf⟩ := cc_g_s hw hf
  refine cw_get (val := cR v z1) B hw rz1 ⟨by decide, by decide⟩ (by decide) cwi_2 cfl_X1_7 ez1 rfl dX1_isBinder_1 ?_
  obtain ⟨z2, ez2, iz2, rz2, hf⟩ := cc_g_s hw hf
  refine cw_get (val := .int (rI z2)) B hw rz2 ⟨by decide, by decide⟩ (by decide) cwi_7 cfl_X1_24 ez2 rfl dX1_isBinder_4 ?_
  refine lv_iconst (v := rI 4) hx hb dX1_isBinder_7 rfl ?_
  refine rn_icmp_eq (a := z2) (b := 4) (tgt := 22) hx hb iz2 ⟨by decide, by decide⟩ dX1_isBinder_8 (by decide) (fun c3 => ?_) (fun c3 => ?_)
  · replace hf := cc_if_t hf c3
    refine lv_iconst (v := rI 1) hx hb dX1_isBinder_22 rfl ?_
    refine lv_goto (tgt := 27) hx hb dX1_isBinder_23 (by decide) ?_
    obtain ⟨h01, hf⟩ := cc_bo_s hf
    exact cw_retz B h01 hf hw dX1_isBinder_27
  · replace hf := cc_if_f hf c3
    refine cl_aload_n hx hb dX1_isBinder_11 rfl (lv_at hl.1 0 rfl) ?_
    obtain ⟨z4, ez4, iz4, rz4, hf⟩ := cc_g_s hw hf
    refine cw_get (val := cR v z4) B hw rz4 ⟨by decide, by decide⟩ (by decide) cwi_2 cfl_X1_7 ez4 rfl dX1_isBinder_12 ?_
    obtain ⟨z5, ez5, iz5, rz5, hf⟩ := cc_g_s hw hf
    refine cw_get (val := .int (rI z5)) B hw rz5 ⟨by decide, by decide⟩ (by decide) cwi_7 cfl_X1_24 ez5 rfl dX1_isBinder_15 ?_
    refine lv_iconst (v := rI 5) hx hb dX1_isBinder_18 rfl ?_
    refine rn_icmp_ne (a := z5) (b := 5) (tgt := 26) hx hb iz5 ⟨by decide, by decide⟩ dX1_isBinder_19 (by decide) (fun c6 => ?_) (fun c6 => ?_)
    · replace hf := cc_if_t hf c6
      refine lv_iconst (v := rI 0) hx hb dX1_isBinder_26 rfl ?_
      obtain ⟨h01, hf⟩ := cc_bo_s hf
      exact cw_retz B h01 hf hw dX1_isBinder_27
    · replace hf := cc_if_f hf c6
      refine lv_iconst (v := rI 1) hx hb dX1_isBinder_22 rfl ?_
      refine lv_goto (tgt := 27) hx hb dX1_isBinder_23 (by decide) ?_
      obtain ⟨h01, hf⟩ := cc_bo_s hf
      exact cw_retz B h01 hf hw dX1_isBinder_27

set_option maxHeartbeats 4000000 in
set_option maxRecDepth 100000 in
theorem pm_X1_isBinder {v : cwE} {bd : cBd} {l : Launch} {d : Nat} {rec : Nat → CS → List Int → CO} (hbd : bd = cw_bd v) (hR : cw_Rec l v d rec) (htr : l.stackTraces = false) (hd5 : 5 ≤ d) (σ σ' : CS) (x0 : Int) (kd : Nat) (r : Int) (ix0 : inR x0) (hf : pc_X1_isBinder_0 rec bd σ x0 = some (σ', kd, r)) : cw_Met l v yX1_isBinder cX1_isBinder 1 (some .boolean) (d + 1) [cR v x0] σ σ' kd (some (.int (rI r))) := by
  refine cw_ofW (by decide +kernel) ?_
  intro p e s m args below meth c s₁ B hml hv
  obtain ⟨rfl, hM, hK⟩ := hv
  have hts := atoms_spec (ws := Cond.code yX1_isBinder cX1_isBinder 1 (some .boolean) :: cw_bw) B.pre
  have hB : cw_B v RX1 p s m _ meth c cX1_isBinder 1 (some .boolean) := ⟨B.exec, B.bytes, B.returns, hml, findClass_of_methodNamed B.named, fun w h => hts w (List.mem_cons_of_mem _ h), B.notSynchronized, hK⟩
  have hnh := cc_nh B (hts _ List.mem_cons_self)
  rw [lg_entry_eq]
  obtain ⟨ls, hls, hl⟩ := cl_ent [cR v x0] 1 (cl_1r cl_10) (Nat.le_of_ble_eq_true rfl)
  rw [hls]
  exact pw_X1_isBinder_0 hbd hR htr hd5 hB hnh σ x0 ix0 hf _ _ _ _ _ (cw_W0 hM) (cl_sub hl [0] rfl)

set_option maxHeartbeats 4000000 in
set_option maxRecDepth 100000 in
theorem pw_X10_clear_0 {v : cwE} {bd : cBd} {p : Program} {l : Launch} {e : Env} {s : State} {m : MethodId} {args : Array Value} {below : List Frame} {meth : Method} {c : Code} {d : Nat} {rec : Nat → CS → List Int → CO} {σ0 σ' : CS} {kd : Nat} {r : Int} (hbd : bd = cw_bd v) (hR : cw_Rec l v d rec) (htr : l.stackTraces = false) (hd5 : 5 ≤ d) (B : cw_B v RX10 p s m args meth c cX10_clear 1 none) (hnh : ∀ x ∈ c.exceptionTable.toList, False) : ∀ (σ : CS) (x0 : Int), inR x0 → pc_X10_clear_0 rec bd σ x0 = some (σ', kd, r) → ∀ (H : Heap) (locs : List Loc) (cells slots : Nat) (ls : Array Slot), cw_W v s σ0 σ H locs cells slots → cl_has ls 1 [(0, cR v x0)] → W p l e (cw_rm v (d + 1) σ0) s m args below meth c H locs cells slots (cw_Z below v σ0 σ' kd none args s) (F0 m 0 ls []) := by
  subst hbd
  obtain ⟨hx, hb, hr, hml, hown, hts, hlk, hK⟩ := id B
  intro σ x0 ix0 hf H locs cells slots ls hw hl
  unfold pc_X10_clear_0 at hf
  refine cl_aload_n hx hb dX10_clear_0 rfl (lv_at hl.1 0 rfl) ?_
  refine lv_iconst (v := rI 0) hx hb dX10_clear_1 rfl ?_
  obtain ⟨σ1, eσ1, rσ1, hf⟩ := cc_p_s hf
  refine cw_put B hw rσ1 cwt_11 (by decide) rfl cfl_X10_9 ⟨by decide, by decide⟩ eσ1 rfl (cw_fv_n rfl rfl) dX10_clear_2 (fun H locs hw => ?_)
  refine cl_aload_n hx hb dX10_clear_5 rfl (lv_at hl.1 0 rfl) ?_
  refine lv_iconst (v := rI (-1)) hx hb dX10_clear_6 rfl ?_
  obtain ⟨σ2, eσ2, rσ2, hf⟩ := cc_p_s hf
  refine cw_put B hw rσ2 cwt_11 (by decide) rfl cfl_X10_15 ⟨by decide, by decide⟩ eσ2 rfl (cw_fv_n rfl rfl) dX10_clear_7 (fun H locs hw => ?_)
  exact cw_retv B hf hw dX10_clear_10

