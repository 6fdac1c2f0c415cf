set_option maxHeartbeats 4000000 in
set_option maxRecDepth 100000 in
theorem pw_J15_checkIndex_7cf53_0 {v : cwE} {bd : cBd} {p : Program} {l : Launch} {e : Env} {s : State} {m : MethodId} {args : Array Value} {below : List Frame} {meth : Method} {c : Code} {d : Nat} {rec : Nat → CS → List Int → CO} {σ0 σ' : CS} {kd : Nat} {r : Int} (hbd : bd = cw_bd v) (hR : cw_Rec l v d rec) (htr : l.stackTraces = false) (hd5 : 5 ≤ d) (B : cw_B v RJ15 p s m args meth c cJ15_checkIndex_7cf53 2 (some .int)) (hnh : ∀ x ∈ c.exceptionTable.toList, False) : ∀ (σ : CS) (x0 x1 : Int), inR x0 → inR x1 → pc_J15_checkIndex_7cf53_0 rec bd σ x0 x1 = some (σ', kd, r) → ∀ (H : Heap) (locs : List Loc) (cells slots : Nat) (ls : Array Slot), cw_W v s σ0 σ H locs cells slots → cl_has ls 2 [(0, .int (rI x0)), (1, .int (rI x1))] → W p l e (cw_rm v (d + 1) σ0) s m args below meth c H locs cells slots (cw_Z below v σ0 σ' kd (some (.int (rI r))) args s) (F0 m 0 ls []) := by
  subst hbd
  obtain ⟨hx, hb, hr, hml, hown, hts, hlk, hK⟩ := id B
  intro σ x0 x1 ix0 ix1 hf H locs cells slots ls hw hl
  unfold pc_J15_checkIndex_7cf53_0 at hf
  refine lv_iload_n hx hb dJ15_checkIndex_7cf53_0 rfl (lv_at hl.1 0 rfl) ?_
  refine lv_iload_n hx hb dJ15_checkIndex_7cf53_1 rfl (lv_at hl.1 1 rfl) ?_
  refine cl_null hx hb dJ15_checkIndex_7cf53_2 ?_
  obtain ⟨σ1, z3, hσ1, hf⟩ := cc_cn_s hf
  obtain ⟨iz3, mσ1⟩ := hR 1 σ [x0, x1, (-1)] σ1 0 z3 hσ1
  have mσ1 : cw_Met l v yJ3_checkIndex_8e157 cJ3_checkIndex_8e157 3 (some .int) d [.int (rI x0), .int (rI x1), cR (-1)] σ σ1 0 (some (.int (rI z3))) := mσ1 ix0 ix1 ⟨by decide, by decide⟩
  refine cw_cs (n := 3) (rest := []) (As := [.int (rI x0), .int (rI x1), cR (-1)]) B mσ1 cgo_yJ3_checkIndex_8e157 cml_J15_105 cst_yJ3_checkIndex_8e157 (by decide +kernel) (by decide) rfl hl.1.1 (Nat.le_of_ble_eq_true rfl) dJ15_checkIndex_7cf53_3 rfl hw (fun h0 H locs cells slots hw => ?_) (fun h0 H locs cells slots q ce hw h1 h2 h3 => ?_)
  · skip
    exact cw_reti B hf hw dJ15_checkIndex_7cf53_6
  · exact absurd rfl h0

set_option maxHeartbeats 4000000 in
set_option maxRecDepth 100000 in
theorem pm_J15_checkIndex_7cf53 {v : cwE} {bd : cBd} {l : Launch} {d : Nat} {rec : Nat → CS → List Int → CO} (hbd : bd = cw_bd v) (hR : cw_Rec l v d rec) (htr : l.stackTraces = false) (hd5 : 5 ≤ d) (σ σ' : CS) (x0 x1 : Int) (kd : Nat) (r : Int) (ix0 : inR x0) (ix1 : inR x1) (hf : pc_J15_checkIndex_7cf53_0 rec bd σ x0 x1 = some (σ', kd, r)) : cw_Met l v yJ15_checkIndex_7cf53 cJ15_checkIndex_7cf53 2 (some .int) (d + 1) [.int (rI x0), .int (rI x1)] σ σ' kd (some (.int (rI r))) := by
  refine cw_ofW (by decide +kernel) ?_
  intro p e s m args below meth c s₁ B hml hv
  obtain ⟨rfl, hM, hK⟩ := hv
  have hts := atoms_spec (ws := Cond.code yJ15_checkIndex_7cf53 cJ15_checkIndex_7cf53 2 (some .int) :: cw_bw) B.pre
  have hB : cw_B v RJ15 p s m _ meth c cJ15_checkIndex_7cf53 2 (some .int) := ⟨B.exec, B.bytes, B.returns, hml, findClass_of_methodNamed B.named, fun w h => hts w (List.mem_cons_of_mem _ h), B.notSynchronized, hK⟩
  have hnh := cc_nh B (hts _ List.mem_cons_self)
  rw [lg_entry_eq]
  obtain ⟨ls, hls, hl⟩ := cl_ent [.int (rI x0), .int (rI x1)] 2 (cl_1i (cl_1i cl_10)) (Nat.le_of_ble_eq_true rfl)
  rw [hls]
  exact pw_J15_checkIndex_7cf53_0 hbd hR htr hd5 hB hnh σ x0 x1 ix0 ix1 hf _ _ _ _ _ (cw_W0 hM) (cl_sub hl [0, 1] rfl)

set_option maxHeartbeats 4000000 in
set_option maxRecDepth 100000 in
theorem pw_J3_checkIndex_8e157_9 {v : cwE} {bd : cBd} {p : Program} {l : Launch} {e : Env} {s : State} {m : MethodId} {args : Array Value} {below : List Frame} {meth : Method} {c : Code} {d : Nat} {rec : Nat → CS → List Int → CO} {σ0 σ' : CS} {kd : Nat} {r : Int} (hbd : bd = cw_bd v) (hR : cw_Rec l v d rec) (htr : l.stackTraces = false) (hd5 : 5 ≤ d) (B : cw_B v RJ3 p s m args meth c cJ3_checkIndex_8e157 3 (some .int)) (hnh : ∀ x ∈ c.exceptionTable.toList, False) : ∀ (σ : CS) (x0 x1 x2 : Int), inR x0 → inR x1 → inR x2 → pc_J3_checkIndex_8e157_9 rec bd σ x0 x1 x2 = some (σ', kd, r) → ∀ (H : Heap) (locs : List Loc) (cells slots : Nat) (ls : Array Slot), cw_W v s σ0 σ H locs cells slots → cl_has ls 3 [(0, .int (rI x0)), (1, .int (rI x1)), (2, cR x2)] → W p l e (cw_rm v (d + 1) σ0) s m args below meth c H locs cells slots (cw_Z below v σ0 σ' kd (some (.int (rI r))) args s) (F0 m 9 ls []) := by
  subst hbd
  obtain ⟨hx, hb, hr, hml, hown, hts, hlk, hK⟩ := id B
  intro σ x0 x1 x2 ix0 ix1 ix2 hf H locs cells slots ls hw hl
  unfold pc_J3_checkIndex_8e157_9 at hf
  refine cl_aload_n hx hb dJ3_checkIndex_8e157_9 rfl (lv_at hl.1 2 rfl) ?_
  refine lv_iload_n hx hb dJ3_checkIndex_8e157_10 rfl (lv_at hl.1 0 rfl) ?_
  refine lv_iload_n hx hb dJ3_checkIndex_8e157_11 rfl (lv_at hl.1 1 rfl) ?_
  cases hf

set_option maxHeartbeats 4000000 in
set_option maxRecDepth 100000 in
theorem pw_J3_checkIndex_8e157_0 {v : cwE} {bd : cBd} {p : Program} {l : Launch} {e : Env} {s : State} {m : MethodId} {args : Array Value} {below : List Frame} {meth : Method} {c : Code} {d : Nat} {rec : Nat → CS → List Int → CO} {σ0 σ' : CS} {kd : Nat} {r : Int} (hbd : bd = cw_bd v) (hR : cw_Rec l v d rec) (htr : l.stackTraces = false) (hd5 : 5 ≤ d) (B : cw_B v RJ3 p s m args meth c cJ3_checkIndex_8e157 3 (some .int)) (hnh : ∀ x ∈ c.exceptionTable.toList, False) : ∀ (σ : CS) (x0 x1 x2 : Int), inR x0 → inR x1 → inR x2 → pc_J3_checkIndex_8e157_0 rec bd σ x0 x1 x2 = some (σ', kd, r) → ∀ (H : Heap) (locs : List Loc) (cells slots : Nat) (ls : Array Slot), cw_W v s σ0 σ H locs cells slots → cl_has ls 3 [(0, .int (rI x0)), (1, .int (rI x1)), (2, cR x2)] → W p l e (cw_rm v (d + 1) σ0) s m args below meth c H locs cells slots (cw_Z below v σ0 σ' kd (some (.int (rI r))) args s) (F0 m 0 ls []) := by
  subst hbd
  obtain ⟨hx, hb, hr, hml, hown, hts, hlk, hK⟩ := id B
  intro σ x0 x1 x2 ix0 ix1 ix2 hf H locs cells slots ls hw hl
  unfold pc_J3_checkIndex_8e157_0 at hf
  refine lv_iload_n hx hb dJ3_checkIndex_8e157_0 rfl (lv_at hl.1 0 rfl) ?_
  refine rn_if_lt (a := x0) (tgt := 9) hx hb ix0 dJ3_checkIndex_8e157_1 (by decide) (fun c1 => ?_) (fun c1 => ?_)
  · replace hf := cc_if_t hf c1
    exact pw_J3_checkIndex_8e157_9 rfl hR htr hd5 B hnh σ x0 x1 x2 ix0 ix1 ix2 hf _ _ _ _ _ hw (cl_sub hl [0, 1, 2] rfl)
  · replace hf := cc_if_f hf c1
    refine lv_iload_n hx hb dJ3_checkIndex_8e157_4 rfl (lv_at hl.1 0 rfl) ?_
    refine lv_iload_n hx hb dJ3_checkIndex_8e157_5 rfl (lv_at hl.1 1 rfl) ?_
    refine rn_icmp_lt (a := x0) (b := x1) (tgt := 16) hx hb ix0 ix1 dJ3_checkIndex_8e157_6 (by decide) (fun c2 => ?_) (fun c2 => ?_)
    · replace hf := cc_if_t hf c2
      refine lv_iload_n hx hb dJ3_checkIndex_8e157_16 rfl (lv_at hl.1 0 rfl) ?_
      exact cw_reti B hf hw dJ3_checkIndex_8e157_17
    · replace hf := cc_if_f hf c2
      exact pw_J3_checkIndex_8e157_9 rfl hR htr hd5 B hnh σ x0 x1 x2 ix0 ix1 ix2 hf _ _ _ _ _ hw (cl_sub hl [0, 1, 2] rfl)

set_option maxHeartbeats 4000000 in
set_option maxRecDepth 100000 in
theorem pm_J3_checkIndex_8e157 {v : cwE} {bd : cBd} {l : Launch} {d : Nat} {rec : Nat → CS → List Int → CO} (hbd : bd = cw_bd v) (hR : cw_Rec l v d rec) (htr : l.stackTraces = false) (hd5 : 5 ≤ d) (σ σ' : CS) (x0 x1 x2 : Int) (kd : Nat) (r : Int) (ix0 : inR x0) (ix1 : inR x1) (ix2 : inR x2) (hf : pc_J3_checkIndex_8e157_0 rec bd σ x0 x1 x2 = some (σ', kd, r)) : cw_Met l v yJ3_checkIndex_8e157 cJ3_checkIndex_8e157 3 (some .int) (d + 1) [.int (rI x0), .int (rI x1), cR x2] σ σ' kd (some (.int (rI r))) := by
  refine cw_ofW (by decide +kernel) ?_
  intro p e s m args below meth c s₁ B hml hv
  obtain ⟨rfl, hM, hK⟩ := hv
  have hts := atoms_spec (ws := Cond.code yJ3_checkIndex_8e157 cJ3_checkIndex_8e157 3 (some .int) :: cw_bw) B.pre
  have hB : cw_B v RJ3 p s m _ meth c cJ3_checkIndex_8e157 3 (some .int) := ⟨B.exec, B.bytes, B.returns, hml, findClass_of_methodNamed B.named, fun w h => hts w (List.mem_cons_of_mem _ h), B.notSynchronized, hK⟩
  have hnh := cc_nh B (hts _ List.mem_cons_self)
  rw [lg_entry_eq]
  obtain ⟨ls, hls, hl⟩ := cl_ent [.int (rI x0), .int (rI x1), cR x2] 3 (cl_1i (cl_1i (cl_1r cl_10))) (Nat.le_of_ble_eq_true rfl)
  rw [hls]
  exact pw_J3_checkIndex_8e157_0 hbd hR htr hd5 hB hnh σ x0 x1 x2 ix0 ix1 ix2 hf _ _ _ _ _ (cw_W0 hM) (cl_sub hl [0, 1, 2] rfl)

set_option maxHeartbeats 4000000 in
set_option maxRecDepth 100000 in
theorem pw_J7_copyOf_1904c_0 {v : cwE} {bd : cBd} {p : Program} {l : Launch} {e : Env} {s : State} {m : MethodId} {args : Array Value} {below : List Frame} {meth : Method} {c : Code} {d : Nat} {rec : Nat → CS → List Int → CO} {σ0 σ' : CS} {kd : Nat} {r : Int} (hbd : bd = cw_bd v) (hR : cw_Rec l v d rec) (htr : l.stackTraces = false) (hd5 : 5 ≤ d) (B : cw_B v RJ7 p s m args meth c cJ7_copyOf_1904c 2 (some (.array (.object "java/lang/Object")))) (hnh : ∀ x ∈ c.exceptionTable.toList, False) : ∀ (σ : CS) (x0 x1 : Int), inR x0 → inR x1 → pc_J7_copyOf_1904c_0 rec bd σ x0 x1 = some (σ', kd, r) → ∀ (H : Heap) (locs : List Loc) (cells slots : Nat) (ls : Array Slot), cw_W v s σ0 σ H locs cells slots → cl_has ls 2 [(0, cR x0), (1, .int (rI x1))] → W p l e (cw_rm v (d + 1) σ0) s m args below meth c H locs cells slots (cw_Z below v σ0 σ' kd (some (cR r)) args s) (F0 m 0 ls []) := by
  subst hbd
  obtain ⟨hx, hb, hr, hml, hown, hts, hlk, hK⟩ := id B
  intro σ x0 x1 ix0 ix1 hf H locs cells slots ls hw hl
  unfold pc_J7_copyOf_1904c_0 at hf
  refine cl_aload_n hx hb dJ7_copyOf_1904c_0 rfl (lv_at hl.1 0 rfl) ?_
  refine lv_iload_n hx hb dJ7_copyOf_1904c_1 rfl (lv_at hl.1 1 rfl) ?_
  refine cl_aload_n hx hb dJ7_copyOf_1904c_2 rfl (lv_at hl.1 0 rfl) ?_
  obtain ⟨q2, hf⟩ := cc_t_s hf
  obtain ⟨z1, ez1, iz1, hf⟩ := cc_gs_s hf
  refine cw_getcl B hw q2 ez1 cnm_J7_86 cgc_s cgc_i cgc_n hl.1.1 (cl_cs (cl_1i (cl_1r cl_10)) (Nat.le_of_ble_eq_true rfl)) dJ7_copyOf_1904c_3 ?_
  obtain ⟨σ3, z5, hσ3, hf⟩ := cc_cn_s hf
  obtain ⟨iz5, mσ3⟩ := hR 3 σ [x0, x1, z1] σ3 0 z5 hσ3
  have mσ3 : cw_Met l v yJ7_copyOf_6403c cJ7_copyOf_6403c 4 (some (.array (.object "java/lang/Object"))) d [cR x0, .int (rI x1), cR z1] σ σ3 0 (some (cR z5)) := mσ3 ix0 ix1 iz1
  refine cw_cs (n := 3) (rest := []) (As := [cR x0, .int (rI x1), cR z1]) B mσ3 cgo_yJ7_copyOf_6403c cml_J7_300 cst_yJ7_copyOf_6403c (by decide +kernel) (by decide) rfl hl.1.1 (Nat.le_of_ble_eq_true rfl) dJ7_copyOf_1904c_6 rfl hw (fun h0 H locs cells slots hw => ?_) (fun h0 H locs cells slots q ce hw h1 h2 h3 => ?_)
  · skip
    exact cw_retA B hf hw dJ7_copyOf_1904c_9
  · exact absurd rfl h0

set_option maxHeartbeats 4000000 in
set_option maxRecDepth 100000 in
theorem pm_J7_copyOf_1904c {v : cwE} {bd : cBd} {l : Launch} {d : Nat} {rec : Nat → CS → List Int → CO} (hbd : bd = cw_bd v) (hR : cw_Rec l v d rec) (htr : l.stackTraces = false) (hd5 : 5 ≤ d) (σ σ' : CS) (x0 x1 : Int) (kd : Nat) (r : Int) (ix0 : inR x0) (ix1 : inR x1) (hf : pc_J7_copyOf_1904c_0 rec bd σ x0 x1 = some (σ', kd, r)) : cw_Met l v yJ7_copyOf_1904c cJ7_copyOf_1904c 2 (some (.array (.object "java/lang/Object"))) (d + 1) [cR x0, .int (rI x1)] σ σ' kd (some (cR r)) := by
  refine cw_ofW (by decide +kernel) ?_
  intro p e s m args below meth c s₁ B hml hv
  obtain ⟨rfl, hM, hK⟩ := hv
  have hts := atoms_spec (ws := Cond.code yJ7_copyOf_1904c cJ7_copyOf_1904c 2 (some (.array (.object "java/lang/Object"))) :: cw_bw) B.pre
  have hB : cw_B v RJ7 p s m _ meth c cJ7_copyOf_1904c 2 (some (.array (.object "java/lang/Object"))) := ⟨B.exec, B.bytes, B.returns, hml, findClass_of_methodNamed B.named, fun w h => hts w (List.mem_cons_of_mem _ h), B.notSynchronized, hK⟩
  have hnh := cc_nh B (hts _ List.mem_cons_self)
  rw [lg_entry_eq]
  obtain ⟨ls, hls, hl⟩ := cl_ent [cR x0, .int (rI x1)] 2 (cl_1r (cl_1i cl_10)) (Nat.le_of_ble_eq_true rfl)
  rw [hls]
  exact pw_J7_copyOf_1904c_0 hbd hR htr hd5 hB hnh σ x0 x1 ix0 ix1 hf _ _ _ _ _ (cw_W0 hM) (cl_sub hl [0, 1] rfl)

set_option maxHeartbeats 4000000 in
set_option maxRecDepth 100000 in
theorem pw_J7_copyOf_6403c_0 {v : cwE} {bd : cBd} {p : Program} {l : Launch} {e : Env} {s : State} {m : MethodId} {args : Array Value} {below : List Frame} {meth : Method} {c : Code} {d : Nat} {rec : Nat → CS → List Int → CO} {σ0 σ' : CS} {kd : Nat} {r : Int} (hbd : bd = cw_bd v) (hR : cw_Rec l v d rec) (htr : l.stackTraces = false) (hd5 : 5 ≤ d) (B : cw_B v RJ7 p s m args meth c cJ7_copyOf_6403c 4 (some (.array (.object "java/lang/Object")))) (hnh : ∀ x ∈ c.exceptionTable.toList, False) : ∀ (σ : CS) (x0 x1 x2 : Int), inR x0 → inR x1 → inR x2 → pc_J7_copyOf_6403c_0 rec bd σ x0 x1 x2 = some (σ', kd, r) → ∀ (H : Heap) (locs : List Loc) (cells slots : Nat) (ls : Array Slot), cw_W v s σ0 σ H locs cells slots → cl_has ls 4 [(0, cR x0), (1, .int (rI x1)), (2, cR x2)] → W p l e (cw_rm v (d + 1) σ0) s m args below meth c H locs cells slots (cw_Z below v σ0 σ' kd (some (cR r)) args s) (F0 m 0 ls []) := by
  subst hbd
  obtain ⟨hx, hb, hr, hml, hown, hts, hlk, hK⟩ := id B
  intro σ x0 x1 x2 ix0 ix1 ix2 hf H locs cells slots ls hw hl
  unfold pc_J7_copyOf_6403c_0 at hf
  refine cl_aload_n hx hb dJ7_copyOf_6403c_0 rfl (lv_at hl.1 2 rfl) ?_
  obtain ⟨z1, ez1, iz1, hf⟩ := cc_gs_s hf
  refine cw_ldcc B ccl_J7_110 ez1 dJ7_copyOf_6403c_1 ?_
  obtain ⟨q3, hf⟩ := cc_ac_s hf
  refine cl_acmp_ne (tgt := 13) hx hb q3 dJ7_copyOf_6403c_3 (by decide) (fun c2 => ?_) (fun c2 => ?_)
  · replace hf := cc_if_t hf c2
    refine cl_aload_n hx hb dJ7_copyOf_6403c_13 rfl (lv_at hl.1 2 rfl) ?_
    cases hf
  · replace hf := cc_if_f hf c2
    refine lv_iload_n hx hb dJ7_copyOf_6403c_6 rfl (lv_at hl.1 1 rfl) ?_
    obtain ⟨σ4, z5, eσ4, ez5, iz5, qσ4, rσ4, hf⟩ := cc_na_s hf
    refine cw_anew (t := 23) B hw (Or.inr ⟨rfl, rfl⟩) ccl_J7_2 ix1 qσ4.1 qσ4.2 rσ4 eσ4 ez5 dJ7_copyOf_6403c_7 (fun H hw => ?_)
    refine lv_goto (tgt := 24) hx hb dJ7_copyOf_6403c_10 (by decide) ?_
    refine cl_astore_n (lv' := [(3, cR z5), (0, cR x0), (1, .int (rI x1)), (2, cR x2)]) hx hb dJ7_copyOf_6403c_24 rfl hl (by decide) rfl (fun ls hl => ?_)
    refine cl_aload_n hx hb dJ7_copyOf_6403c_25 rfl (lv_at hl.1 1 rfl) ?_
    refine lv_iconst (v := rI 0) hx hb dJ7_copyOf_6403c_26 rfl ?_
    refine cl_aload_n hx hb dJ7_copyOf_6403c_27 rfl (lv_at hl.1 0 rfl) ?_
    refine lv_iconst (v := rI 0) hx hb dJ7_copyOf_6403c_28 rfl ?_
    refine cl_aload_n hx hb dJ7_copyOf_6403c_29 rfl (lv_at hl.1 1 rfl) ?_
    obtain ⟨z6, ez6, iz6, rz6, hf⟩ := cc_l_s hf
    refine cw_len B hw rz6 (by decide) ez6 iz6 dJ7_copyOf_6403c_30 ?_
    refine lv_iload_n hx hb dJ7_copyOf_6403c_31 rfl (lv_at hl.1 2 rfl) ?_
    obtain ⟨σ7, z9, hσ7, hf⟩ := cc_cn_s hf
    obtain ⟨iz9, mσ7⟩ := hR 7 σ4 [z6, x1] σ7 0 z9 hσ7
    have mσ7 : cw_Met l v yJ9_min_7cf53 cJ9_min_7cf53 2 (some .int) d [.int (rI z6), .int (rI x1)] σ4 σ7 0 (some (.int (rI z9))) := mσ7 iz6 ix1
    refine cw_cs (n := 2) (rest := [.int (rI 0), cR z5, .int (rI 0), cR x0]) (As := [.int (rI z6), .int (rI x1)]) B mσ7 cgo_yJ9_min_7cf53 cml_J7_304 cst_yJ9_min_7cf53 (by decide +kernel) (by decide) rfl hl.1.1 (cl_cs (cl_1i (cl_1r (cl_1i (cl_1r cl_10)))) (Nat.le_of_ble_eq_true rfl)) dJ7_copyOf_6403c_32 rfl hw (fun h0 H locs cells slots hw => ?_) (fun h0 H locs cells slots q ce hw h1 h2 h3 => ?_)
    · skip
      obtain ⟨σ10, eσ10, qσ10, hf⟩ := cc_ay_s hf
      refine cw_acopy B hw qσ10 iz9 eσ10 cnm_J7_150 cay_n cay_s cay_i hl.1.1 (Nat.le_of_ble_eq_true rfl) dJ7_copyOf_6403c_35 (fun H locs hw => ?_)
      refine cl_aload_n hx hb dJ7_copyOf_6403c_38 rfl (lv_at hl.1 0 rfl) ?_
      exact cw_retA B hf hw dJ7_copyOf_6403c_39
    · exact absurd rfl h0

set_option maxHeartbeats 4000000 in
set_option maxRecDepth 100000 in
theorem pm_J7_copyOf_6403c {v : cwE} {bd : cBd} {l : Launch} {d : Nat} {rec : Nat → CS → List Int → CO} (hbd : bd = cw_bd v) (hR : cw_Rec l v d rec) (htr : l.stackTraces = false) (hd5 : 5 ≤ d) (σ σ' : CS) (x0 x1 x2 : Int) (kd : Nat) (r : Int) (ix0 : inR x0) (ix1 : inR x1) (ix2 : inR x2) (hf : pc_J7_copyOf_6403c_0 rec bd σ x0 x1 x2 = some (σ', kd, r)) : cw_Met l v yJ7_copyOf_6403c cJ7_copyOf_6403c 4 (some (.array (.object "java/lang/Object"))) (d + 1) [cR x0, .int (rI x1), cR x2] σ σ' kd (some (cR r)) := by
  refine cw_ofW (by decide +kernel) ?_
  intro p e s m args below meth c s₁ B hml hv
  obtain ⟨rfl, hM, hK⟩ := hv
  have hts := atoms_spec (ws := Cond.code yJ7_copyOf_6403c cJ7_copyOf_6403c 4 (some (.array (.object "java/lang/Object"))) :: cw_bw) B.pre
  have hB : cw_B v RJ7 p s m _ meth c cJ7_copyOf_6403c 4 (some (.array (.object "java/lang/Object"))) := ⟨B.exec, B.bytes, B.returns, hml, findClass_of_methodNamed B.named, fun w h => hts w (List.mem_cons_of_mem _ h), B.notSynchronized, hK⟩
  have hnh := cc_nh B (hts _ List.mem_cons_self)
  rw [lg_entry_eq]
  obtain ⟨ls, hls, hl⟩ := cl_ent [cR x0, .int (rI x1), cR x2] 4 (cl_1r (cl_1i (cl_1r cl_10))) (Nat.le_of_ble_eq_true rfl)
  rw [hls]
  exact pw_J7_copyOf_6403c_0 hbd hR htr hd5 hB hnh σ x0 x1 x2 ix0 ix1 ix2 hf _ _ _ _ _ (cw_W0 hM) (cl_sub hl [0, 1, 2] rfl)

set_option maxHeartbeats 4000000 in
set_option maxRecDepth 100000 in
theorem pw_J8_hugeLength_7cf53_0 {v : cwE} {bd : cBd} {p : Program} {l : Launch} {e : Env} {s : State} {m : MethodId} {args : Array Value} {below : List Frame} {meth : Method} {c : Code} {d : Nat} {rec : Nat → CS → List Int → CO} {σ0 σ' : CS} {kd : Nat} {r : Int} (hbd : bd = cw_bd v) (hR : cw_Rec l v d rec) (htr : l.stackTraces = false) (hd5 : 5 ≤ d) (B : cw_B v RJ8 p s m args meth c cJ8_hugeLength_7cf53 3 (some .int)) (hnh : ∀ x ∈ c.exceptionTable.toList, False) : ∀ (σ : CS) (x0 x1 : Int), inR x0 → inR x1 → pc_J8_hugeLength_7cf53_0 rec bd σ x0 x1 = some (σ', kd, r) → ∀ (H : Heap) (locs : List Loc) (cells slots : Nat) (ls : Array Slot), cw_W v s σ0 σ H locs cells slots → cl_has ls 3 [(0, .int (rI x0)), (1, .int (rI x1))] → W p l e (cw_rm v (d + 1) σ0) s m args below meth c H locs cells slots (cw_Z below v σ0 σ' kd (some (.int (rI r))) args s) (F0 m 0 ls []) := by
  subst hbd
  obtain ⟨hx, hb, hr, hml, hown, hts, hlk, hK⟩ := id B
  intro σ x0 x1 ix0 ix1 hf H locs cells slots ls hw hl
  unfold pc_J8_hugeLength_7cf53_0 at hf
  refine lv_iload_n hx hb dJ8_hugeLength_7cf53_0 rfl (lv_at hl.1 0 rfl) ?_
  refine lv_iload_n hx hb dJ8_hugeLength_7cf53_1 rfl (lv_at hl.1 1 rfl) ?_
  obtain ⟨z1, ez1, iz1, hf⟩ := cc_ck_s hf
  refine rn_add hx hb ez1 dJ8_hugeLength_7cf53_2 ?_
  refine cl_istore_n (lv' := [(2, .int (rI z1)), (0, .int (rI x0)), (1, .int (rI x1))]) hx hb dJ8_hugeLength_7cf53_3 rfl hl (by decide) rfl (fun ls hl => ?_)
  refine lv_iload_n hx hb dJ8_hugeLength_7cf53_4 rfl (lv_at hl.1 0 rfl) ?_
  refine rn_if_ge (a := z1) (tgt := 49) hx hb iz1 dJ8_hugeLength_7cf53_5 (by decide) (fun c2 => ?_) (fun c2 => ?_)
  · replace hf := cc_if_t hf c2
    refine lv_iload_n hx hb dJ8_hugeLength_7cf53_49 rfl (lv_at hl.1 0 rfl) ?_
    refine lv_ldc (v := rI 2147483639) hx hb hown (hts _ clc_J8_200) dJ8_hugeLength_7cf53_50 ?_
    refine rn_icmp_gt (a := z1) (b := 2147483639) (tgt := 58) hx hb iz1 ⟨by decide, by decide⟩ dJ8_hugeLength_7cf53_52 (by decide) (fun c3 => ?_) (fun c3 => ?_)
    · replace hf := cc_if_t hf c3
      refine lv_iload_n hx hb dJ8_hugeLength_7cf53_58 rfl (lv_at hl.1 0 rfl) ?_
      exact cw_reti B hf hw dJ8_hugeLength_7cf53_59
    · replace hf := cc_if_f hf c3
      refine lv_ldc (v := rI 2147483639) hx hb hown (hts _ clc_J8_200) dJ8_hugeLength_7cf53_55 ?_
      exact cw_reti B hf hw dJ8_hugeLength_7cf53_57
  · replace hf := cc_if_f hf c2
    cases hf

set_option maxHeartbeats 4000000 in
set_option maxRecDepth 100000 in
theorem pm_J8_hugeLength_7cf53 {v : cwE} {bd : cBd} {l : Launch} {d : Nat} {rec : Nat → CS → List Int → CO} (hbd : bd = cw_bd v) (hR : cw_Rec l v d rec) (htr : l.stackTraces = false) (hd5 : 5 ≤ d) (σ σ' : CS) (x0 x1 : Int) (kd : Nat) (r : Int) (ix0 : inR x0) (ix1 : inR x1) (hf : pc_J8_hugeLength_7cf53_0 rec bd σ x0 x1 = some (σ', kd, r)) : cw_Met l v yJ8_hugeLength_7cf53 cJ8_hugeLength_7cf53 3 (some .int) (d + 1) [.int (rI x0), .int (rI x1)] σ σ' kd (some (.int (rI r))) := by
  refine cw_ofW (by decide +kernel) ?_
  intro p e s m args below meth c s₁ B hml hv
  obtain ⟨rfl, hM, hK⟩ := hv
  have hts := atoms_spec (ws := Cond.code yJ8_hugeLength_7cf53 cJ8_hugeLength_7cf53 3 (some .int) :: cw_bw) B.pre
  have hB : cw_B v RJ8 p s m _ meth c cJ8_hugeLength_7cf53 3 (some .int) := ⟨B.exec, B.bytes, B.returns, hml, findClass_of_methodNamed B.named, fun w h => hts w (List.mem_cons_of_mem _ h), B.notSynchronized, hK⟩
  have hnh := cc_nh B (hts _ List.mem_cons_self)
  rw [lg_entry_eq]
  obtain ⟨ls, hls, hl⟩ := cl_ent [.int (rI x0), .int (rI x1)] 3 (cl_1i (cl_1i cl_10)) (Nat.le_of_ble_eq_true rfl)
  rw [hls]
  exact pw_J8_hugeLength_7cf53_0 hbd hR htr hd5 hB hnh σ x0 x1 ix0 ix1 hf _ _ _ _ _ (cw_W0 hM) (cl_sub hl [0, 1] rfl)

set_option maxHeartbeats 4000000 in
set_option maxRecDepth 100000 in
theorem pw_J8_newLength_cabcc_21 {v : cwE} {bd : cBd} {p : Program} {l : Launch} {e : Env} {s : State} {m : MethodId} {args : Array Value} {below : List Frame} {meth : Method} {c : Code} {d : Nat} {rec : Nat → CS → List Int → CO} {σ0 σ' : CS} {kd : Nat} {r : Int} (hbd : bd = cw_bd v) (hR : cw_Rec l v d rec) (htr : l.stackTraces = false) (hd5 : 5 ≤ d) (B : cw_B v RJ8 p s m args meth c cJ8_newLength_cabcc 4 (some .int)) (hnh : ∀ x ∈ c.exceptionTable.toList, False) : ∀ (σ : CS) (x0 x1 : Int), inR x0 → inR x1 → pc_J8_newLength_cabcc_21 rec bd σ x0 x1 = some (σ', kd, r) → ∀ (H : Heap) (locs : List Loc) (cells slots : Nat) (ls : Array Slot), cw_W v s σ0 σ H locs cells slots → cl_has ls 4 [(0, .int (rI x0)), (1, .int (rI x1))] → W p l e (cw_rm v (d + 1) σ0) s m args below meth c H locs cells slots (cw_Z below v σ0 σ' kd (some (.int (rI r))) args s) (F0 m 21 ls []) := by
  subst hbd
  obtain ⟨hx, hb, hr, hml, hown, hts, hlk, hK⟩ := id B
  intro σ x0 x1 ix0 ix1 hf H locs cells slots ls hw hl
  unfold pc_J8_newLength_cabcc_21 at hf
  refine lv_iload_n hx hb dJ8_newLength_cabcc_21 rfl (lv_at hl.1 0 rfl) ?_
  refine lv_iload_n hx hb dJ8_newLength_cabcc_22 rfl (lv_at hl.1 1 rfl) ?_
  obtain ⟨σ1, z3, hσ1, hf⟩ := cc_cn_s hf
  obtain ⟨iz3, mσ1⟩ := hR 4 σ [x0, x1] σ1 0 z3 hσ1
  have mσ1 : cw_Met l v yJ8_hugeLength_7cf53 cJ8_hugeLength_7cf53 3 (some .int) d [.int (rI x0), .int (rI x1)] σ σ1 0 (some (.int (rI z3))) := mσ1 ix0 ix1
  refine cw_cs (n := 2) (rest := []) (As := [.int (rI x0), .int (rI x1)]) B mσ1 cgo_yJ8_hugeLength_7cf53 cml_J8_201 cst_yJ8_hugeLength_7cf53 (by decide +kernel) (by decide) rfl hl.1.1 (Nat.le_of_ble_eq_true rfl) dJ8_newLength_cabcc_23 rfl hw (fun h0 H locs cells slots hw => ?_) (fun h0 H locs cells slots q ce hw h1 h2 h3 => ?_)
  · skip
    exact cw_reti B hf hw dJ8_newLength_cabcc_26
  · exact absurd rfl h0

set_option maxHeartbeats 4000000 in
set_option maxRecDepth 100000 in
theorem pw_J8_newLength_cabcc_0 {v : cwE} {bd : cBd} {p : Program} {l : Launch} {e : Env} {s : State} {m : MethodId} {args : Array Value} {below : List Frame} {meth : Method} {c : Code} {d : Nat} {rec : Nat → CS → List Int → CO} {σ0 σ' : CS} {kd : Nat} {r : Int} (hbd : bd = cw_bd v) (hR : cw_Rec l v d rec) (htr : l.stackTraces = false) (hd5 : 5 ≤ d) (B : cw_B v RJ8 p s m args meth c cJ8_newLength_cabcc 4 (some .int)) (hnh : ∀ x ∈ c.exceptionTable.toList, False) : ∀ (σ : CS) (x0 x1 x2 : Int), inR x0 → inR x1 → inR x2 → pc_J8_newLength_cabcc_0 rec bd σ x0 x1 x2 = some (σ', kd, r) → ∀ (H : Heap) (locs : List Loc) (cells slots : Nat) (ls : Array Slot), cw_W v s σ0 σ H locs cells slots → cl_has ls 4 [(0, .int (rI x0)), (1, .int (rI x1)), (2, .int (rI x2))] → W p l e (cw_rm v (d + 1) σ0) s m args below meth c H locs cells slots (cw_Z below v σ0 σ' kd (some (.int (rI r))) args s) (F0 m 0 ls []) := by
  subst hbd
  obtain ⟨hx, hb, hr, hml, hown, hts, hlk, hK⟩ := id B
  intro σ x0 x1 x2 ix0 ix1 ix2 hf H locs cells slots ls hw hl
  unfold pc_J8_newLength_cabcc_0 at hf
  refine lv_iload_n hx hb dJ8_newLength_cabcc_0 rfl (lv_at hl.1 0 rfl) ?_
  refine lv_iload_n hx hb dJ8_newLength_cabcc_1 rfl (lv_at hl.1 1 rfl) ?_
  refine lv_iload_n hx hb dJ8_newLength_cabcc_2 rfl (lv_at hl.1 2 rfl) ?_
  obtain ⟨σ1, z3, hσ1, hf⟩ := cc_cn_s hf
  obtain ⟨iz3, mσ1⟩ := hR 6 σ [x1, x2] σ1 0 z3 hσ1
  have mσ1 : cw_Met l v yJ9_max_7cf53 cJ9_max_7cf53 2 (some .int) d [.int (rI x1), .int (rI x2)] σ σ1 0 (some (.int (rI z3))) := mσ1 ix1 ix2
  refine cw_cs (n := 2) (rest := [.int (rI x0)]) (As := [.int (rI x1), .int (rI x2)]) B mσ1 cgo_yJ9_max_7cf53 cml_J8_194 cst_yJ9_max_7cf53 (by decide +kernel) (by decide) rfl hl.1.1 (Nat.le_of_ble_eq_true rfl) dJ8_newLength_cabcc_3 rfl hw (fun h0 H locs cells slots hw => ?_) (fun h0 H locs cells slots q ce hw h1 h2 h3 => ?_)
  · skip
    obtain ⟨z4, ez4, iz4, hf⟩ := cc_ck_s hf
    refine rn_add hx hb ez4 dJ8_newLength_cabcc_6 ?_
    refine cl_istore_n (lv' := [(3, .int (rI z4)), (0, .int (rI x0)), (1, .int (rI x1)), (2, .int (rI x2))]) hx hb dJ8_newLength_cabcc_7 rfl hl (by decide) rfl (fun ls hl => ?_)
    refine lv_iconst (v := rI 0) hx hb dJ8_newLength_cabcc_8 rfl ?_
    refine lv_iload_n hx hb dJ8_newLength_cabcc_9 rfl (lv_at hl.1 0 rfl) ?_
    refine rn_icmp_ge (a := 0) (b := z4) (tgt := 21) hx hb ⟨by decide, by decide⟩ iz4 dJ8_newLength_cabcc_10 (by decide) (fun c5 => ?_) (fun c5 => ?_)
    · replace hf := cc_if_t hf c5
      exact pw_J8_newLength_cabcc_21 rfl hR htr hd5 B hnh σ1 x0 x1 ix0 ix1 hf _ _ _ _ _ hw (cl_sub hl [1, 2] rfl)
    · replace hf := cc_if_f hf c5
      refine lv_iload_n hx hb dJ8_newLength_cabcc_13 rfl (lv_at hl.1 0 rfl) ?_
      refine lv_ldc (v := rI 2147483639) hx hb hown (hts _ clc_J8_200) dJ8_newLength_cabcc_14 ?_
      refine rn_icmp_gt (a := z4) (b := 2147483639) (tgt := 21) hx hb iz4 ⟨by decide, by decide⟩ dJ8_newLength_cabcc_16 (by decide) (fun c6 => ?_) (fun c6 => ?_)
      · replace hf := cc_if_t hf c6
        exact pw_J8_newLength_cabcc_21 rfl hR htr hd5 B hnh σ1 x0 x1 ix0 ix1 hf _ _ _ _ _ hw (cl_sub hl [1, 2] rfl)
      · replace hf := cc_if_f hf c6
        refine lv_iload_n hx hb dJ8_newLength_cabcc_19 rfl (lv_at hl.1 0 rfl) ?_
        exact cw_reti B hf hw dJ8_newLength_cabcc_20
  · exact absurd rfl h0

set_option maxHeartbeats 4000000 in
set_option maxRecDepth 100000 in
theorem pm_J8_newLength_cabcc {v : cwE} {bd : cBd} {l : Launch} {d : Nat} {rec : Nat → CS → List Int → CO} (hbd : bd = cw_bd v) (hR : cw_Rec l v d rec) (htr : l.stackTraces = false) (hd5 : 5 ≤ d) (σ σ' : CS) (x0 x1 x2 : Int) (kd : Nat) (r : Int) (ix0 : inR x0) (ix1 : inR x1) (ix2 : inR x2) (hf : pc_J8_newLength_cabcc_0 rec bd σ x0 x1 x2 = some (σ', kd, r)) : cw_Met l v yJ8_newLength_cabcc cJ8_newLength_cabcc 4 (some .int) (d + 1) [.int (rI x0), .int (rI x1), .int (rI x2)] σ σ' kd (some (.int (rI r))) := by
  refine cw_ofW (by decide +kernel) ?_
  intro p e s m args below meth c s₁ B hml hv
  obtain ⟨rfl, hM, hK⟩ := hv
  have hts := atoms_spec (ws := Cond.code yJ8_newLength_cabcc cJ8_newLength_cabcc 4 (some .int) :: cw_bw) B.pre
  have hB : cw_B v RJ8 p s m _ meth c cJ8_newLength_cabcc 4 (some .int) := ⟨B.exec, B.bytes, B.returns, hml, findClass_of_methodNamed B.named, fun w h => hts w (List.mem_cons_of_mem _ h), B.notSynchronized, hK⟩
  have hnh := cc_nh B (hts _ List.mem_cons_self)
  rw [lg_entry_eq]
  obtain ⟨ls, hls, hl⟩ := cl_ent [.int (rI x0), .int (rI x1), .int (rI x2)] 4 (cl_1i (cl_1i (cl_1i cl_10))) (Nat.le_of_ble_eq_true rfl)
  rw [hls]
  exact pw_J8_newLength_cabcc_0 hbd hR htr hd5 hB hnh σ x0 x1 x2 ix0 ix1 ix2 hf _ _ _ _ _ (cw_W0 hM) (cl_sub hl [0, 1, 2] rfl)

set_option maxHeartbeats 4000000 in
set_option maxRecDepth 100000 in
theorem pw_J9_max_7cf53_0 {v : cwE} {bd : cBd} {p : Program} {l : Launch} {e : Env} {s : State} {m : MethodId} {args : Array Value} {below : List Frame} {meth : Method} {c : Code} {d : Nat} {rec : Nat → CS → List Int → CO} {σ0 σ' : CS} {kd : Nat} {r : Int} (hbd : bd = cw_bd v) (hR : cw_Rec l v d rec) (htr : l.stackTraces = false) (hd5 : 5 ≤ d) (B : cw_B v RJ9 p s m args meth c cJ9_max_7cf53 2 (some .int)) (hnh : ∀ x ∈ c.exceptionTable.toList, False) : ∀ (σ : CS) (x0 x1 : Int), inR x0 → inR x1 → pc_J9_max_7cf53_0 rec bd σ x0 x1 = some (σ', kd, r) → ∀ (H : Heap) (locs : List Loc) (cells slots : Nat) (ls : Array Slot), cw_W v s σ0 σ H locs cells slots → cl_has ls 2 [(0, .int (rI x0)), (1, .int (rI x1))] → W p l e (cw_rm v (d + 1) σ0) s m args below meth c H locs cells slots (cw_Z below v σ0 σ' kd (some (.int (rI r))) args s) (F0 m 0 ls []) := by
  subst hbd
  obtain ⟨hx, hb, hr, hml, hown, hts, hlk, hK⟩ := id B
  intro σ x0 x1 ix0 ix1 hf H locs cells slots ls hw hl
  unfold pc_J9_max_7cf53_0 at hf
  refine lv_iload_n hx hb dJ9_max_7cf53_0 rfl (lv_at hl.1 0 rfl) ?_
  refine lv_iload_n hx hb dJ9_max_7cf53_1 rfl (lv_at hl.1 1 rfl) ?_
  refine rn_icmp_lt (a := x0) (b := x1) (tgt := 9) hx hb ix0 ix1 dJ9_max_7cf53_2 (by decide) (fun c1 => ?_) (fun c1 => ?_)
  · replace hf := cc_if_t hf c1
    refine lv_iload_n hx hb dJ9_max_7cf53_9 rfl (lv_at hl.1 1 rfl) ?_
    exact cw_reti B hf hw dJ9_max_7cf53_10
  · replace hf := cc_if_f hf c1
    refine lv_iload_n hx hb dJ9_max_7cf53_5 rfl (lv_at hl.1 0 rfl) ?_
    refine lv_goto (tgt := 10) hx hb dJ9_max_7cf53_6 (by decide) ?_
    exact cw_reti B hf hw dJ9_max_7cf53_10

