section LWE
set_option maxHeartbeats 4000000 in
set_option maxRecDepth 100000 in
theorem lw_c_text {l : Launch} {v : cwE} {d o b kd : Nat} {cL : ClassId} {σ σ1 : CS} {x1 : Int} {r : Int} {y : Int64} (hM : cw_Met l v yX11_text cX11_text 2 (some .int) d (cR v (b : Int) :: [.int (rI x1)]) σ σ1 kd (some (.int (rI r)))) (hb0 : c_tg σ b = 12) (hkd : kd = 0 ∨ kd = 2) (hto : ¬ cw_tm v σ o) :
    lw_Met l v yL_text cL_text 4 [(0, 9, 12, 13)] d [.ref (cw_mp v b), .int (rI x1), .ref o] σ σ1 o cL y (if kd = 0 then (rI r).toInt64 else y) (if kd = 0 then 0 else 1) := by
  refine lw_ofW (by decide) ?_
  intro p e s m args below meth c s₁ B hml hP
  obtain ⟨rfl, hM0, hK, ho, hcL⟩ := hP
  have hts := atoms_spec (ws := Cond.codeWith yL_text cL_text 4 (some .int) [(0, 9, 12, 13)] :: lw_gw) B.pre
  have hg : ∀ w ∈ lw_gw, w.before _ s = true := fun w h => hts w (List.mem_cons_of_mem _ h)
  have hB : cw_B v RL p s m _ meth c cL_text 4 (some .int) := ⟨B.exec, B.bytes, B.returns, hml, findClass_of_methodNamed B.named, fun w h => hg w (lw_cwg w h), B.notSynchronized, hK⟩
  have htab := vx_table (x := yL_text) B (hts _ List.mem_cons_self)
  have hx := B.exec
  have hb := B.bytes
  have hl := lv_entry ([.ref (cw_mp v b), .int (rI x1), .ref o]) (n := 4) (Nat.le_of_ble_eq_true rfl)
  rw [lg_entry_eq]
  generalize (lg_sl ([.ref (cw_mp v b), .int (rI x1), .ref o]) ++ List.replicate (4 - (lg_sl ([.ref (cw_mp v b), .int (rI x1), .ref o])).length) Slot.unset).toArray = ls at hl ⊢
  have hl : lv_has ls 4 [(0, .ref (cw_mp v b)), (1, .int (rI x1)), (2, .ref o)] := hl
  refine lv_aload_n hx hb dL_text_0 rfl (lv_at hl 2 rfl) ?_
  refine lv_iconst (v := 0) hx hb dL_text_1 (by decide) ?_
  refine lv_aload_n hx hb dL_text_2 rfl (lv_at hl 0 rfl) ?_
  refine lv_iload_n hx hb dL_text_3 rfl (lv_at hl 1 rfl) ?_
  exact lw_core hB (pc := 4) (lo := 0) (hi := 9) (hpc := 12) (h1 := 13) (ix := 13) (tgt := 15) (index := 7) (n := 1) (As := [.int (rI x1)]) (b := (b : Int)) (r := r) hM ⟨Int.natCast_nonneg b, hb0⟩ (hg _ (lw_gi 2 75 rfl rfl)) (hg _ (lw_gi 1 1 rfl rfl)) (hg _ (lw_gi 2 72 rfl rfl)) (hg _ (lw_gi 2 73 rfl rfl)) (hg _ (lw_gi 2 74 rfl rfl))
    (by decide +kernel) (by decide) rfl hl.1 htab rfl (fun hk => by rw [show kd = 2 from hkd.resolve_left hk]; exact (hg _ (lw_gi 2 71 rfl rfl))) hM0 ho hto hcL (fun H locs cells slots Q q kk => lv_astore_n hx hb dL_text_12 rfl hl (by decide) rfl (fun ls' _ => kk ls'))
    dL_text_4 dL_text_7 dL_text_8 dL_text_9 rfl dL_text_15 dL_text_16 dL_text_13 dL_text_14 (by rw [cR_r (Int.natCast_nonneg b)]; rfl)
set_option maxHeartbeats 4000000 in
set_option maxRecDepth 100000 in
theorem lw_c_fault {l : Launch} {v : cwE} {d o b kd : Nat} {cL : ClassId} {σ σ1 : CS} {x1 : Int} {r : Int} {y : Int64} (hM : cw_Met l v yX11_fault cX11_fault 2 (some .int) d (cR v (b : Int) :: [.int (rI x1)]) σ σ1 kd (some (.int (rI r)))) (hb0 : c_tg σ b = 12) (hkd : kd = 0 ∨ kd = 3) (hto : ¬ cw_tm v σ o) :
    lw_Met l v yL_fault cL_fault 4 [(0, 9, 12, 18)] d [.ref (cw_mp v b), .int (rI x1), .ref o] σ σ1 o cL y (if kd = 0 then (rI r).toInt64 else y) (if kd = 0 then 0 else 1) := by
  refine lw_ofW (by decide) ?_
  intro p e s m args below meth c s₁ B hml hP
  obtain ⟨rfl, hM0, hK, ho, hcL⟩ := hP
  have hts := atoms_spec (ws := Cond.codeWith yL_fault cL_fault 4 (some .int) [(0, 9, 12, 18)] :: lw_gw) B.pre
  have hg : ∀ w ∈ lw_gw, w.before _ s = true := fun w h => hts w (List.mem_cons_of_mem _ h)
  have hB : cw_B v RL p s m _ meth c cL_fault 4 (some .int) := ⟨B.exec, B.bytes, B.returns, hml, findClass_of_methodNamed B.named, fun w h => hg w (lw_cwg w h), B.notSynchronized, hK⟩
  have htab := vx_table (x := yL_fault) B (hts _ List.mem_cons_self)
  have hx := B.exec
  have hb := B.bytes
  have hl := lv_entry ([.ref (cw_mp v b), .int (rI x1), .ref o]) (n := 4) (Nat.le_of_ble_eq_true rfl)
  rw [lg_entry_eq]
  generalize (lg_sl ([.ref (cw_mp v b), .int (rI x1), .ref o]) ++ List.replicate (4 - (lg_sl ([.ref (cw_mp v b), .int (rI x1), .ref o])).length) Slot.unset).toArray = ls at hl ⊢
  have hl : lv_has ls 4 [(0, .ref (cw_mp v b)), (1, .int (rI x1)), (2, .ref o)] := hl
  refine lv_aload_n hx hb dL_fault_0 rfl (lv_at hl 2 rfl) ?_
  refine lv_iconst (v := 0) hx hb dL_fault_1 (by decide) ?_
  refine lv_aload_n hx hb dL_fault_2 rfl (lv_at hl 0 rfl) ?_
  refine lv_iload_n hx hb dL_fault_3 rfl (lv_at hl 1 rfl) ?_
  exact lw_core hB (pc := 4) (lo := 0) (hi := 9) (hpc := 12) (h1 := 13) (ix := 18) (tgt := 15) (index := 15) (n := 1) (As := [.int (rI x1)]) (b := (b : Int)) (r := r) hM ⟨Int.natCast_nonneg b, hb0⟩ (hg _ (lw_gi 5 164 rfl rfl)) (hg _ (lw_gi 1 1 rfl rfl)) (hg _ (lw_gi 5 161 rfl rfl)) (hg _ (lw_gi 5 162 rfl rfl)) (hg _ (lw_gi 5 163 rfl rfl))
    (by decide +kernel) (by decide) rfl hl.1 htab rfl (fun hk => by rw [show kd = 3 from hkd.resolve_left hk]; exact (hg _ (lw_gi 5 160 rfl rfl))) hM0 ho hto hcL (fun H locs cells slots Q q kk => lv_astore_n hx hb dL_fault_12 rfl hl (by decide) rfl (fun ls' _ => kk ls'))
    dL_fault_4 dL_fault_7 dL_fault_8 dL_fault_9 rfl dL_fault_15 dL_fault_16 dL_fault_13 dL_fault_14 (by rw [cR_r (Int.natCast_nonneg b)]; rfl)
set_option maxHeartbeats 4000000 in
set_option maxRecDepth 100000 in
theorem lw_c_corner {l : Launch} {v : cwE} {d o b kd : Nat} {cL : ClassId} {σ σ1 : CS} {x1 : Int} {r : Int} {y : Int64} (hM : cw_Met l v yX11_corner cX11_corner 3 (some .int) d (cR v (b : Int) :: [.int (rI x1)]) σ σ1 kd (some (.int (rI r)))) (hb0 : c_tg σ b = 12) (hkd : kd = 0 ∨ kd = 2) (hto : ¬ cw_tm v σ o) :
    lw_Met l v yL_corner cL_corner 4 [(0, 9, 12, 13)] d [.ref (cw_mp v b), .int (rI x1), .ref o] σ σ1 o cL y (if kd = 0 then (rI r).toInt64 else y) (if kd = 0 then 0 else 1) := by
  refine lw_ofW (by decide) ?_
  intro p e s m args below meth c s₁ B hml hP
  obtain ⟨rfl, hM0, hK, ho, hcL⟩ := hP
  have hts := atoms_spec (ws := Cond.codeWith yL_corner cL_corner 4 (some .int) [(0, 9, 12, 13)] :: lw_gw) B.pre
  have hg : ∀ w ∈ lw_gw, w.before _ s = true := fun w h => hts w (List.mem_cons_of_mem _ h)
  have hB : cw_B v RL p s m _ meth c cL_corner 4 (some .int) := ⟨B.exec, B.bytes, B.returns, hml, findClass_of_methodNamed B.named, fun w h => hg w (lw_cwg w h), B.notSynchronized, hK⟩
  have htab := vx_table (x := yL_corner) B (hts _ List.mem_cons_self)
  have hx := B.exec
  have hb := B.bytes
  have hl := lv_entry ([.ref (cw_mp v b), .int (rI x1), .ref o]) (n := 4) (Nat.le_of_ble_eq_true rfl)
  rw [lg_entry_eq]
  generalize (lg_sl ([.ref (cw_mp v b), .int (rI x1), .ref o]) ++ List.replicate (4 - (lg_sl ([.ref (cw_mp v b), .int (rI x1), .ref o])).length) Slot.unset).toArray = ls at hl ⊢
  have hl : lv_has ls 4 [(0, .ref (cw_mp v b)), (1, .int (rI x1)), (2, .ref o)] := hl
  refine lv_aload_n hx hb dL_corner_0 rfl (lv_at hl 2 rfl) ?_
  refine lv_iconst (v := 0) hx hb dL_corner_1 (by decide) ?_
  refine lv_aload_n hx hb dL_corner_2 rfl (lv_at hl 0 rfl) ?_
  refine lv_iload_n hx hb dL_corner_3 rfl (lv_at hl 1 rfl) ?_
  exact lw_core hB (pc := 4) (lo := 0) (hi := 9) (hpc := 12) (h1 := 13) (ix := 13) (tgt := 15) (index := 20) (n := 1) (As := [.int (rI x1)]) (b := (b : Int)) (r := r) hM ⟨Int.natCast_nonneg b, hb0⟩ (hg _ (lw_gi 5 186 rfl rfl)) (hg _ (lw_gi 1 1 rfl rfl)) (hg _ (lw_gi 5 183 rfl rfl)) (hg _ (lw_gi 5 184 rfl rfl)) (hg _ (lw_gi 5 185 rfl rfl))
    (by decide +kernel) (by decide) rfl hl.1 htab rfl (fun hk => by rw [show kd = 2 from hkd.resolve_left hk]; exact (hg _ (lw_gi 2 71 rfl rfl))) hM0 ho hto hcL (fun H locs cells slots Q q kk => lv_astore_n hx hb dL_corner_12 rfl hl (by decide) rfl (fun ls' _ => kk ls'))
    dL_corner_4 dL_corner_7 dL_corner_8 dL_corner_9 rfl dL_corner_15 dL_corner_16 dL_corner_13 dL_corner_14 (by rw [cR_r (Int.natCast_nonneg b)]; rfl)
set_option maxHeartbeats 4000000 in
set_option maxRecDepth 100000 in
theorem lw_c_limit {l : Launch} {v : cwE} {d o b kd : Nat} {cL : ClassId} {σ σ1 : CS} {x1 : Int} {r : Int} {y : Int64} (hM : cw_Met l v yX11_limit cX11_limit 3 (some .int) d (cR v (b : Int) :: [.int (rI x1)]) σ σ1 kd (some (.int (rI r)))) (hb0 : c_tg σ b = 12) (hkd : kd = 0 ∨ kd = 2) (hto : ¬ cw_tm v σ o) :
    lw_Met l v yL_limit cL_limit 4 [(0, 9, 12, 13)] d [.ref (cw_mp v b), .int (rI x1), .ref o] σ σ1 o cL y (if kd = 0 then (rI r).toInt64 else y) (if kd = 0 then 0 else 1) := by
  refine lw_ofW (by decide) ?_
  intro p e s m args below meth c s₁ B hml hP
  obtain ⟨rfl, hM0, hK, ho, hcL⟩ := hP
  have hts := atoms_spec (ws := Cond.codeWith yL_limit cL_limit 4 (some .int) [(0, 9, 12, 13)] :: lw_gw) B.pre
  have hg : ∀ w ∈ lw_gw, w.before _ s = true := fun w h => hts w (List.mem_cons_of_mem _ h)
  have hB : cw_B v RL p s m _ meth c cL_limit 4 (some .int) := ⟨B.exec, B.bytes, B.returns, hml, findClass_of_methodNamed B.named, fun w h => hg w (lw_cwg w h), B.notSynchronized, hK⟩
  have htab := vx_table (x := yL_limit) B (hts _ List.mem_cons_self)
  have hx := B.exec
  have hb := B.bytes
  have hl := lv_entry ([.ref (cw_mp v b), .int (rI x1), .ref o]) (n := 4) (Nat.le_of_ble_eq_true rfl)
  rw [lg_entry_eq]
  generalize (lg_sl ([.ref (cw_mp v b), .int (rI x1), .ref o]) ++ List.replicate (4 - (lg_sl ([.ref (cw_mp v b), .int (rI x1), .ref o])).length) Slot.unset).toArray = ls at hl ⊢
  have hl : lv_has ls 4 [(0, .ref (cw_mp v b)), (1, .int (rI x1)), (2, .ref o)] := hl
  refine lv_aload_n hx hb dL_limit_0 rfl (lv_at hl 2 rfl) ?_
  refine lv_iconst (v := 0) hx hb dL_limit_1 (by decide) ?_
  refine lv_aload_n hx hb dL_limit_2 rfl (lv_at hl 0 rfl) ?_
  refine lv_iload_n hx hb dL_limit_3 rfl (lv_at hl 1 rfl) ?_
  exact lw_core hB (pc := 4) (lo := 0) (hi := 9) (hpc := 12) (h1 := 13) (ix := 13) (tgt := 15) (index := 23) (n := 1) (As := [.int (rI x1)]) (b := (b : Int)) (r := r) hM ⟨Int.natCast_nonneg b, hb0⟩ (hg _ (lw_gi 5 193 rfl rfl)) (hg _ (lw_gi 1 1 rfl rfl)) (hg _ (lw_gi 5 190 rfl rfl)) (hg _ (lw_gi 5 191 rfl rfl)) (hg _ (lw_gi 5 192 rfl rfl))
    (by decide +kernel) (by decide) rfl hl.1 htab rfl (fun hk => by rw [show kd = 2 from hkd.resolve_left hk]; exact (hg _ (lw_gi 2 71 rfl rfl))) hM0 ho hto hcL (fun H locs cells slots Q q kk => lv_astore_n hx hb dL_limit_12 rfl hl (by decide) rfl (fun ls' _ => kk ls'))
    dL_limit_4 dL_limit_7 dL_limit_8 dL_limit_9 rfl dL_limit_15 dL_limit_16 dL_limit_13 dL_limit_14 (by rw [cR_r (Int.natCast_nonneg b)]; rfl)
set_option maxHeartbeats 4000000 in
set_option maxRecDepth 100000 in
theorem lw_c_out {l : Launch} {v : cwE} {d o b kd : Nat} {cL : ClassId} {σ σ1 : CS} {x1 : Int} {r : Int} {y : Int64} (hM : cw_Met l v yX11_out cX11_out 2 (some .int) d (cR v (b : Int) :: [.int (rI x1)]) σ σ1 kd (some (.int (rI r)))) (hb0 : c_tg σ b = 12) (hkd : kd = 0 ∨ kd = 3) (hto : ¬ cw_tm v σ o) :
    lw_Met l v yL_out cL_out 4 [(0, 9, 12, 18)] d [.ref (cw_mp v b), .int (rI x1), .ref o] σ σ1 o cL y (if kd = 0 then (rI r).toInt64 else y) (if kd = 0 then 0 else 1) := by
  refine lw_ofW (by decide) ?_
  intro p e s m args below meth c s₁ B hml hP
  obtain ⟨rfl, hM0, hK, ho, hcL⟩ := hP
  have hts := atoms_spec (ws := Cond.codeWith yL_out cL_out 4 (some .int) [(0, 9, 12, 18)] :: lw_gw) B.pre
  have hg : ∀ w ∈ lw_gw, w.before _ s = true := fun w h => hts w (List.mem_cons_of_mem _ h)
  have hB : cw_B v RL p s m _ meth c cL_out 4 (some .int) := ⟨B.exec, B.bytes, B.returns, hml, findClass_of_methodNamed B.named, fun w h => hg w (lw_cwg w h), B.notSynchronized, hK⟩
  have htab := vx_table (x := yL_out) B (hts _ List.mem_cons_self)
  have hx := B.exec
  have hb := B.bytes
  have hl := lv_entry ([.ref (cw_mp v b), .int (rI x1), .ref o]) (n := 4) (Nat.le_of_ble_eq_true rfl)
  rw [lg_entry_eq]
  generalize (lg_sl ([.ref (cw_mp v b), .int (rI x1), .ref o]) ++ List.replicate (4 - (lg_sl ([.ref (cw_mp v b), .int (rI x1), .ref o])).length) Slot.unset).toArray = ls at hl ⊢
  have hl : lv_has ls 4 [(0, .ref (cw_mp v b)), (1, .int (rI x1)), (2, .ref o)] := hl
  refine lv_aload_n hx hb dL_out_0 rfl (lv_at hl 2 rfl) ?_
  refine lv_iconst (v := 0) hx hb dL_out_1 (by decide) ?_
  refine lv_aload_n hx hb dL_out_2 rfl (lv_at hl 0 rfl) ?_
  refine lv_iload_n hx hb dL_out_3 rfl (lv_at hl 1 rfl) ?_
  exact lw_core hB (pc := 4) (lo := 0) (hi := 9) (hpc := 12) (h1 := 13) (ix := 18) (tgt := 15) (index := 26) (n := 1) (As := [.int (rI x1)]) (b := (b : Int)) (r := r) hM ⟨Int.natCast_nonneg b, hb0⟩ (hg _ (lw_gi 5 200 rfl rfl)) (hg _ (lw_gi 1 1 rfl rfl)) (hg _ (lw_gi 5 197 rfl rfl)) (hg _ (lw_gi 5 198 rfl rfl)) (hg _ (lw_gi 5 199 rfl rfl))
    (by decide +kernel) (by decide) rfl hl.1 htab rfl (fun hk => by rw [show kd = 3 from hkd.resolve_left hk]; exact (hg _ (lw_gi 5 160 rfl rfl))) hM0 ho hto hcL (fun H locs cells slots Q q kk => lv_astore_n hx hb dL_out_12 rfl hl (by decide) rfl (fun ls' _ => kk ls'))
    dL_out_4 dL_out_7 dL_out_8 dL_out_9 rfl dL_out_15 dL_out_16 dL_out_13 dL_out_14 (by rw [cR_r (Int.natCast_nonneg b)]; rfl)
set_option maxHeartbeats 4000000 in
set_option maxRecDepth 100000 in
theorem lw_c_count {l : Launch} {v : cwE} {d o b kd : Nat} {cL : ClassId} {σ σ1 : CS} {x1 : Int} {r : Int} {y : Int64} (hM : cw_Met l v yX11_count cX11_count 2 (some .int) d (cR v (b : Int) :: [.int (rI x1)]) σ σ1 kd (some (.int (rI r)))) (hb0 : c_tg σ b = 12) (hkd : kd = 0 ∨ kd = 3) (hto : ¬ cw_tm v σ o) :
    lw_Met l v yL_count cL_count 4 [(0, 9, 12, 18)] d [.ref (cw_mp v b), .int (rI x1), .ref o] σ σ1 o cL y (if kd = 0 then (rI r).toInt64 else y) (if kd = 0 then 0 else 1) := by
  refine lw_ofW (by decide) ?_
  intro p e s m args below meth c s₁ B hml hP
  obtain ⟨rfl, hM0, hK, ho, hcL⟩ := hP
  have hts := atoms_spec (ws := Cond.codeWith yL_count cL_count 4 (some .int) [(0, 9, 12, 18)] :: lw_gw) B.pre
  have hg : ∀ w ∈ lw_gw, w.before _ s = true := fun w h => hts w (List.mem_cons_of_mem _ h)
  have hB : cw_B v RL p s m _ meth c cL_count 4 (some .int) := ⟨B.exec, B.bytes, B.returns, hml, findClass_of_methodNamed B.named, fun w h => hg w (lw_cwg w h), B.notSynchronized, hK⟩
  have htab := vx_table (x := yL_count) B (hts _ List.mem_cons_self)
  have hx := B.exec
  have hb := B.bytes
  have hl := lv_entry ([.ref (cw_mp v b), .int (rI x1), .ref o]) (n := 4) (Nat.le_of_ble_eq_true rfl)
  rw [lg_entry_eq]
  generalize (lg_sl ([.ref (cw_mp v b), .int (rI x1), .ref o]) ++ List.replicate (4 - (lg_sl ([.ref (cw_mp v b), .int (rI x1), .ref o])).length) Slot.unset).toArray = ls at hl ⊢
  have hl : lv_has ls 4 [(0, .ref (cw_mp v b)), (1, .int (rI x1)), (2, .ref o)] := hl
  refine lv_aload_n hx hb dL_count_0 rfl (lv_at hl 2 rfl) ?_
  refine lv_iconst (v := 0) hx hb dL_count_1 (by decide) ?_
  refine lv_aload_n hx hb dL_count_2 rfl (lv_at hl 0 rfl) ?_
  refine lv_iload_n hx hb dL_count_3 rfl (lv_at hl 1 rfl) ?_
  exact lw_core hB (pc := 4) (lo := 0) (hi := 9) (hpc := 12) (h1 := 13) (ix := 18) (tgt := 15) (index := 29) (n := 1) (As := [.int (rI x1)]) (b := (b : Int)) (r := r) hM ⟨Int.natCast_nonneg b, hb0⟩ (hg _ (lw_gi 5 207 rfl rfl)) (hg _ (lw_gi 1 1 rfl rfl)) (hg _ (lw_gi 5 204 rfl rfl)) (hg _ (lw_gi 5 205 rfl rfl)) (hg _ (lw_gi 5 206 rfl rfl))
    (by decide +kernel) (by decide) rfl hl.1 htab rfl (fun hk => by rw [show kd = 3 from hkd.resolve_left hk]; exact (hg _ (lw_gi 5 160 rfl rfl))) hM0 ho hto hcL (fun H locs cells slots Q q kk => lv_astore_n hx hb dL_count_12 rfl hl (by decide) rfl (fun ls' _ => kk ls'))
    dL_count_4 dL_count_7 dL_count_8 dL_count_9 rfl dL_count_15 dL_count_16 dL_count_13 dL_count_14 (by rw [cR_r (Int.natCast_nonneg b)]; rfl)
set_option maxHeartbeats 4000000 in
set_option maxRecDepth 100000 in
theorem lw_c_name {l : Launch} {v : cwE} {d o b kd : Nat} {cL : ClassId} {σ σ1 : CS} {x1 x2 : Int} {r : Int} {y : Int64} (hM : cw_Met l v yX11_name cX11_name 3 (some .int) d (cR v (b : Int) :: [.int (rI x1), .int (rI x2)]) σ σ1 kd (some (.int (rI r)))) (hb0 : c_tg σ b = 12) (hkd : kd = 0 ∨ kd = 3) (hto : ¬ cw_tm v σ o) :
    lw_Met l v yL_name cL_name 5 [(0, 10, 13, 18)] d [.ref (cw_mp v b), .int (rI x1), .int (rI x2), .ref o] σ σ1 o cL y (if kd = 0 then (rI r).toInt64 else y) (if kd = 0 then 0 else 1) := by
  refine lw_ofW (by decide) ?_
  intro p e s m args below meth c s₁ B hml hP
  obtain ⟨rfl, hM0, hK, ho, hcL⟩ := hP
  have hts := atoms_spec (ws := Cond.codeWith yL_name cL_name 5 (some .int) [(0, 10, 13, 18)] :: lw_gw) B.pre
  have hg : ∀ w ∈ lw_gw, w.before _ s = true := fun w h => hts w (List.mem_cons_of_mem _ h)
  have hB : cw_B v RL p s m _ meth c cL_name 5 (some .int) := ⟨B.exec, B.bytes, B.returns, hml, findClass_of_methodNamed B.named, fun w h => hg w (lw_cwg w h), B.notSynchronized, hK⟩
  have htab := vx_table (x := yL_name) B (hts _ List.mem_cons_self)
  have hx := B.exec
  have hb := B.bytes
  have hl := lv_entry ([.ref (cw_mp v b), .int (rI x1), .int (rI x2), .ref o]) (n := 5) (Nat.le_of_ble_eq_true rfl)
  rw [lg_entry_eq]
  generalize (lg_sl ([.ref (cw_mp v b), .int (rI x1), .int (rI x2), .ref o]) ++ List.replicate (5 - (lg_sl ([.ref (cw_mp v b), .int (rI x1), .int (rI x2), .ref o])).length) Slot.unset).toArray = ls at hl ⊢
  have hl : lv_has ls 5 [(0, .ref (cw_mp v b)), (1, .int (rI x1)), (2, .int (rI x2)), (3, .ref o)] := hl
  refine lv_aload_n hx hb dL_name_0 rfl (lv_at hl 3 rfl) ?_
  refine lv_iconst (v := 0) hx hb dL_name_1 (by decide) ?_
  refine lv_aload_n hx hb dL_name_2 rfl (lv_at hl 0 rfl) ?_
  refine lv_iload_n hx hb dL_name_3 rfl (lv_at hl 1 rfl) ?_
  refine lv_iload_n hx hb dL_name_4 rfl (lv_at hl 2 rfl) ?_
  exact lw_core hB (pc := 5) (lo := 0) (hi := 10) (hpc := 13) (h1 := 15) (ix := 18) (tgt := 17) (index := 32) (n := 2) (As := [.int (rI x1), .int (rI x2)]) (b := (b : Int)) (r := r) hM ⟨Int.natCast_nonneg b, hb0⟩ (hg _ (lw_gi 5 214 rfl rfl)) (hg _ (lw_gi 1 1 rfl rfl)) (hg _ (lw_gi 5 211 rfl rfl)) (hg _ (lw_gi 5 212 rfl rfl)) (hg _ (lw_gi 5 213 rfl rfl))
    (by decide +kernel) (by decide) rfl hl.1 htab rfl (fun hk => by rw [show kd = 3 from hkd.resolve_left hk]; exact (hg _ (lw_gi 5 160 rfl rfl))) hM0 ho hto hcL (fun H locs cells slots Q q kk => lv_astore hx hb dL_name_13 hl (by decide) rfl (fun ls' _ => kk ls'))
    dL_name_5 dL_name_8 dL_name_9 dL_name_10 rfl dL_name_17 dL_name_18 dL_name_15 dL_name_16 (by rw [cR_r (Int.natCast_nonneg b)]; rfl)
set_option maxHeartbeats 4000000 in
set_option maxRecDepth 100000 in
theorem lw_c_sort {l : Launch} {v : cwE} {d o b kd : Nat} {cL : ClassId} {σ σ1 : CS} {x1 x2 : Int} {r : Int} {y : Int64} (hM : cw_Met l v yX11_sort cX11_sort 3 (some .int) d (cR v (b : Int) :: [.int (rI x1), .int (rI x2)]) σ σ1 kd (some (.int (rI r)))) (hb0 : c_tg σ b = 12) (hkd : kd = 0 ∨ kd = 3) (hto : ¬ cw_tm v σ o) :
    lw_Met l v yL_sort cL_sort 5 [(0, 10, 13, 18)] d [.ref (cw_mp v b), .int (rI x1), .int (rI x2), .ref o] σ σ1 o cL y (if kd = 0 then (rI r).toInt64 else y) (if kd = 0 then 0 else 1) := by
  refine lw_ofW (by decide) ?_
  intro p e s m args below meth c s₁ B hml hP
  obtain ⟨rfl, hM0, hK, ho, hcL⟩ := hP
  have hts := atoms_spec (ws := Cond.codeWith yL_sort cL_sort 5 (some .int) [(0, 10, 13, 18)] :: lw_gw) B.pre
  have hg : ∀ w ∈ lw_gw, w.before _ s = true := fun w h => hts w (List.mem_cons_of_mem _ h)
  have hB : cw_B v RL p s m _ meth c cL_sort 5 (some .int) := ⟨B.exec, B.bytes, B.returns, hml, findClass_of_methodNamed B.named, fun w h => hg w (lw_cwg w h), B.notSynchronized, hK⟩
  have htab := vx_table (x := yL_sort) B (hts _ List.mem_cons_self)
  have hx := B.exec
  have hb := B.bytes
  have hl := lv_entry ([.ref (cw_mp v b), .int (rI x1), .int (rI x2), .ref o]) (n := 5) (Nat.le_of_ble_eq_true rfl)
  rw [lg_entry_eq]
  generalize (lg_sl ([.ref (cw_mp v b), .int (rI x1), .int (rI x2), .ref o]) ++ List.replicate (5 - (lg_sl ([.ref (cw_mp v b), .int (rI x1), .int (rI x2), .ref o])).length) Slot.unset).toArray = ls at hl ⊢
  have hl : lv_has ls 5 [(0, .ref (cw_mp v b)), (1, .int (rI x1)), (2, .int (rI x2)), (3, .ref o)] := hl
  refine lv_aload_n hx hb dL_sort_0 rfl (lv_at hl 3 rfl) ?_
  refine lv_iconst (v := 0) hx hb dL_sort_1 (by decide) ?_
  refine lv_aload_n hx hb dL_sort_2 rfl (lv_at hl 0 rfl) ?_
  refine lv_iload_n hx hb dL_sort_3 rfl (lv_at hl 1 rfl) ?_
  refine lv_iload_n hx hb dL_sort_4 rfl (lv_at hl 2 rfl) ?_
  exact lw_core hB (pc := 5) (lo := 0) (hi := 10) (hpc := 13) (h1 := 15) (ix := 18) (tgt := 17) (index := 36) (n := 2) (As := [.int (rI x1), .int (rI x2)]) (b := (b : Int)) (r := r) hM ⟨Int.natCast_nonneg b, hb0⟩ (hg _ (lw_gi 5 223 rfl rfl)) (hg _ (lw_gi 1 1 rfl rfl)) (hg _ (lw_gi 5 220 rfl rfl)) (hg _ (lw_gi 5 221 rfl rfl)) (hg _ (lw_gi 5 222 rfl rfl))
    (by decide +kernel) (by decide) rfl hl.1 htab rfl (fun hk => by rw [show kd = 3 from hkd.resolve_left hk]; exact (hg _ (lw_gi 5 160 rfl rfl))) hM0 ho hto hcL (fun H locs cells slots Q q kk => lv_astore hx hb dL_sort_13 hl (by decide) rfl (fun ls' _ => kk ls'))
    dL_sort_5 dL_sort_8 dL_sort_9 dL_sort_10 rfl dL_sort_17 dL_sort_18 dL_sort_15 dL_sort_16 (by rw [cR_r (Int.natCast_nonneg b)]; rfl)
set_option maxHeartbeats 4000000 in
set_option maxRecDepth 100000 in
theorem lw_c_rule {l : Launch} {v : cwE} {d o b kd : Nat} {cL : ClassId} {σ σ1 : CS} {x1 x2 : Int} {r : Int} {y : Int64} (hM : cw_Met l v yX11_rule cX11_rule 3 (some .int) d (cR v (b : Int) :: [.int (rI x1), .int (rI x2)]) σ σ1 kd (some (.int (rI r)))) (hb0 : c_tg σ b = 12) (hkd : kd = 0 ∨ kd = 3) (hto : ¬ cw_tm v σ o) :
    lw_Met l v yL_rule cL_rule 5 [(0, 10, 13, 18)] d [.ref (cw_mp v b), .int (rI x1), .int (rI x2), .ref o] σ σ1 o cL y (if kd = 0 then (rI r).toInt64 else y) (if kd = 0 then 0 else 1) := by
  refine lw_ofW (by decide) ?_
  intro p e s m args below meth c s₁ B hml hP
  obtain ⟨rfl, hM0, hK, ho, hcL⟩ := hP
  have hts := atoms_spec (ws := Cond.codeWith yL_rule cL_rule 5 (some .int) [(0, 10, 13, 18)] :: lw_gw) B.pre
  have hg : ∀ w ∈ lw_gw, w.before _ s = true := fun w h => hts w (List.mem_cons_of_mem _ h)
  have hB : cw_B v RL p s m _ meth c cL_rule 5 (some .int) := ⟨B.exec, B.bytes, B.returns, hml, findClass_of_methodNamed B.named, fun w h => hg w (lw_cwg w h), B.notSynchronized, hK⟩
  have htab := vx_table (x := yL_rule) B (hts _ List.mem_cons_self)
  have hx := B.exec
  have hb := B.bytes
  have hl := lv_entry ([.ref (cw_mp v b), .int (rI x1), .int (rI x2), .ref o]) (n := 5) (Nat.le_of_ble_eq_true rfl)
  rw [lg_entry_eq]
  generalize (lg_sl ([.ref (cw_mp v b), .int (rI x1), .int (rI x2), .ref o]) ++ List.replicate (5 - (lg_sl ([.ref (cw_mp v b), .int (rI x1), .int (rI x2), .ref o])).length) Slot.unset).toArray = ls at hl ⊢
  have hl : lv_has ls 5 [(0, .ref (cw_mp v b)), (1, .int (rI x1)), (2, .int (rI x2)), (3, .ref o)] := hl
  refine lv_aload_n hx hb dL_rule_0 rfl (lv_at hl 3 rfl) ?_
  refine lv_iconst (v := 0) hx hb dL_rule_1 (by decide) ?_
  refine lv_aload_n hx hb dL_rule_2 rfl (lv_at hl 0 rfl) ?_
  refine lv_iload_n hx hb dL_rule_3 rfl (lv_at hl 1 rfl) ?_
  refine lv_iload_n hx hb dL_rule_4 rfl (lv_at hl 2 rfl) ?_
  exact lw_core hB (pc := 5) (lo := 0) (hi := 10) (hpc := 13) (h1 := 15) (ix := 18) (tgt := 17) (index := 39) (n := 2) (As := [.int (rI x1), .int (rI x2)]) (b := (b : Int)) (r := r) hM ⟨Int.natCast_nonneg b, hb0⟩ (hg _ (lw_gi 5 230 rfl rfl)) (hg _ (lw_gi 1 1 rfl rfl)) (hg _ (lw_gi 5 227 rfl rfl)) (hg _ (lw_gi 5 228 rfl rfl)) (hg _ (lw_gi 5 229 rfl rfl))
    (by decide +kernel) (by decide) rfl hl.1 htab rfl (fun hk => by rw [show kd = 3 from hkd.resolve_left hk]; exact (hg _ (lw_gi 5 160 rfl rfl))) hM0 ho hto hcL (fun H locs cells slots Q q kk => lv_astore hx hb dL_rule_13 hl (by decide) rfl (fun ls' _ => kk ls'))
    dL_rule_5 dL_rule_8 dL_rule_9 dL_rule_10 rfl dL_rule_17 dL_rule_18 dL_rule_15 dL_rule_16 (by rw [cR_r (Int.natCast_nonneg b)]; rfl)
set_option maxHeartbeats 4000000 in
set_option maxRecDepth 100000 in
theorem lw_c_type {l : Launch} {v : cwE} {d o b kd : Nat} {cL : ClassId} {σ σ1 : CS} {x1 : Int} {r : Int} {y : Int64} (hM : cw_Met l v yX11_type cX11_type 2 (some .int) d (cR v (b : Int) :: [.int (rI x1)]) σ σ1 kd (some (.int (rI r)))) (hb0 : c_tg σ b = 12) (hkd : kd = 0 ∨ kd = 3) (hto : ¬ cw_tm v σ o) :
    lw_Met l v yL_type cL_type 4 [(0, 9, 12, 18)] d [.ref (cw_mp v b), .int (rI x1), .ref o] σ σ1 o cL y (if kd = 0 then (rI r).toInt64 else y) (if kd = 0 then 0 else 1) := by
  refine lw_ofW (by decide) ?_
  intro p e s m args below meth c s₁ B hml hP
  obtain ⟨rfl, hM0, hK, ho, hcL⟩ := hP
  have hts := atoms_spec (ws := Cond.codeWith yL_type cL_type 4 (some .int) [(0, 9, 12, 18)] :: lw_gw) B.pre
  have hg : ∀ w ∈ lw_gw, w.before _ s = true := fun w h => hts w (List.mem_cons_of_mem _ h)
  have hB : cw_B v RL p s m _ meth c cL_type 4 (some .int) := ⟨B.exec, B.bytes, B.returns, hml, findClass_of_methodNamed B.named, fun w h => hg w (lw_cwg w h), B.notSynchronized, hK⟩
  have htab := vx_table (x := yL_type) B (hts _ List.mem_cons_self)
  have hx := B.exec
  have hb := B.bytes
  have hl := lv_entry ([.ref (cw_mp v b), .int (rI x1), .ref o]) (n := 4) (Nat.le_of_ble_eq_true rfl)
  rw [lg_entry_eq]
  generalize (lg_sl ([.ref (cw_mp v b), .int (rI x1), .ref o]) ++ List.replicate (4 - (lg_sl ([.ref (cw_mp v b), .int (rI x1), .ref o])).length) Slot.unset).toArray = ls at hl ⊢
  have hl : lv_has ls 4 [(0, .ref (cw_mp v b)), (1, .int (rI x1)), (2, .ref o)] := hl
  refine lv_aload_n hx hb dL_type_0 rfl (lv_at hl 2 rfl) ?_
  refine lv_iconst (v := 0) hx hb dL_type_1 (by decide) ?_
  refine lv_aload_n hx hb dL_type_2 rfl (lv_at hl 0 rfl) ?_
  refine lv_iload_n hx hb dL_type_3 rfl (lv_at hl 1 rfl) ?_
  exact lw_core hB (pc := 4) (lo := 0) (hi := 9) (hpc := 12) (h1 := 13) (ix := 18) (tgt := 15) (index := 42) (n := 1) (As := [.int (rI x1)]) (b := (b : Int)) (r := r) hM ⟨Int.natCast_nonneg b, hb0⟩ (hg _ (lw_gi 5 237 rfl rfl)) (hg _ (lw_gi 1 1 rfl rfl)) (hg _ (lw_gi 5 234 rfl rfl)) (hg _ (lw_gi 5 235 rfl rfl)) (hg _ (lw_gi 5 236 rfl rfl))
    (by decide +kernel) (by decide) rfl hl.1 htab rfl (fun hk => by rw [show kd = 3 from hkd.resolve_left hk]; exact (hg _ (lw_gi 5 160 rfl rfl))) hM0 ho hto hcL (fun H locs cells slots Q q kk => lv_astore_n hx hb dL_type_12 rfl hl (by decide) rfl (fun ls' _ => kk ls'))
    dL_type_4 dL_type_7 dL_type_8 dL_type_9 rfl dL_type_15 dL_type_16 dL_type_13 dL_type_14 (by rw [cR_r (Int.natCast_nonneg b)]; rfl)
set_option maxHeartbeats 4000000 in
set_option maxRecDepth 100000 in
theorem lw_c_same {l : Launch} {v : cwE} {d o b kd : Nat} {cL : ClassId} {σ σ1 : CS} {x1 x2 : Int} {r : Int} {y : Int64} (hM : cw_Met l v yX11_same cX11_same 3 (some .int) d (cR v (b : Int) :: [.int (rI x1), .int (rI x2)]) σ σ1 kd (some (.int (rI r)))) (hb0 : c_tg σ b = 12) (hkd : kd = 0 ∨ kd = 3) (hto : ¬ cw_tm v σ o) :
    lw_Met l v yL_same cL_same 5 [(0, 10, 13, 18)] d [.ref (cw_mp v b), .int (rI x1), .int (rI x2), .ref o] σ σ1 o cL y (if kd = 0 then (rI r).toInt64 else y) (if kd = 0 then 0 else 1) := by
  refine lw_ofW (by decide) ?_
  intro p e s m args below meth c s₁ B hml hP
  obtain ⟨rfl, hM0, hK, ho, hcL⟩ := hP
  have hts := atoms_spec (ws := Cond.codeWith yL_same cL_same 5 (some .int) [(0, 10, 13, 18)] :: lw_gw) B.pre
  have hg : ∀ w ∈ lw_gw, w.before _ s = true := fun w h => hts w (List.mem_cons_of_mem _ h)
  have hB : cw_B v RL p s m _ meth c cL_same 5 (some .int) := ⟨B.exec, B.bytes, B.returns, hml, findClass_of_methodNamed B.named, fun w h => hg w (lw_cwg w h), B.notSynchronized, hK⟩
  have htab := vx_table (x := yL_same) B (hts _ List.mem_cons_self)
  have hx := B.exec
  have hb := B.bytes
  have hl := lv_entry ([.ref (cw_mp v b), .int (rI x1), .int (rI x2), .ref o]) (n := 5) (Nat.le_of_ble_eq_true rfl)
  rw [lg_entry_eq]
  generalize (lg_sl ([.ref (cw_mp v b), .int (rI x1), .int (rI x2), .ref o]) ++ List.replicate (5 - (lg_sl ([.ref (cw_mp v b), .int (rI x1), .int (rI x2), .ref o])).length) Slot.unset).toArray = ls at hl ⊢
  have hl : lv_has ls 5 [(0, .ref (cw_mp v b)), (1, .int (rI x1)), (2, .int (rI x2)), (3, .ref o)] := hl
  refine lv_aload_n hx hb dL_same_0 rfl (lv_at hl 3 rfl) ?_
  refine lv_iconst (v := 0) hx hb dL_same_1 (by decide) ?_
  refine lv_aload_n hx hb dL_same_2 rfl (lv_at hl 0 rfl) ?_
  refine lv_iload_n hx hb dL_same_3 rfl (lv_at hl 1 rfl) ?_
  refine lv_iload_n hx hb dL_same_4 rfl (lv_at hl 2 rfl) ?_
  exact lw_core hB (pc := 5) (lo := 0) (hi := 10) (hpc := 13) (h1 := 15) (ix := 18) (tgt := 17) (index := 45) (n := 2) (As := [.int (rI x1), .int (rI x2)]) (b := (b : Int)) (r := r) hM ⟨Int.natCast_nonneg b, hb0⟩ (hg _ (lw_gi 6 8 rfl rfl)) (hg _ (lw_gi 1 1 rfl rfl)) (hg _ (lw_gi 6 5 rfl rfl)) (hg _ (lw_gi 6 6 rfl rfl)) (hg _ (lw_gi 6 7 rfl rfl))
    (by decide +kernel) (by decide) rfl hl.1 htab rfl (fun hk => by rw [show kd = 3 from hkd.resolve_left hk]; exact (hg _ (lw_gi 5 160 rfl rfl))) hM0 ho hto hcL (fun H locs cells slots Q q kk => lv_astore hx hb dL_same_13 hl (by decide) rfl (fun ls' _ => kk ls'))
    dL_same_5 dL_same_8 dL_same_9 dL_same_10 rfl dL_same_17 dL_same_18 dL_same_15 dL_same_16 (by rw [cR_r (Int.natCast_nonneg b)]; rfl)
set_option maxHeartbeats 4000000 in
set_option maxRecDepth 100000 in
theorem lw_c_mark {l : Launch} {v : cwE} {d o b kd : Nat} {cL : ClassId} {σ σ1 : CS} {r : Int} {y : Int64} (hM : cw_Met l v yX11_mark cX11_mark 1 (some .int) d (cR v (b : Int) :: []) σ σ1 kd (some (.int (rI r)))) (hb0 : c_tg σ b = 12) (hkd : kd = 0 ∨ kd = 1) (hto : ¬ cw_tm v σ o) :
    lw_Met l v yL_mark cL_mark 3 [(0, 8, 11, 52)] d [.ref (cw_mp v b), .ref o] σ σ1 o cL y (if kd = 0 then (rI r).toInt64 else y) (if kd = 0 then 0 else 1) := by
  refine lw_ofW (by decide) ?_
  intro p e s m args below meth c s₁ B hml hP
  obtain ⟨rfl, hM0, hK, ho, hcL⟩ := hP
  have hts := atoms_spec (ws := Cond.codeWith yL_mark cL_mark 3 (some .int) [(0, 8, 11, 52)] :: lw_gw) B.pre
  have hg : ∀ w ∈ lw_gw, w.before _ s = true := fun w h => hts w (List.mem_cons_of_mem _ h)
  have hB : cw_B v RL p s m _ meth c cL_mark 3 (some .int) := ⟨B.exec, B.bytes, B.returns, hml, findClass_of_methodNamed B.named, fun w h => hg w (lw_cwg w h), B.notSynchronized, hK⟩
  have htab := vx_table (x := yL_mark) B (hts _ List.mem_cons_self)
  have hx := B.exec
  have hb := B.bytes
  have hl := lv_entry ([.ref (cw_mp v b), .ref o]) (n := 3) (Nat.le_of_ble_eq_true rfl)
  rw [lg_entry_eq]
  generalize (lg_sl ([.ref (cw_mp v b), .ref o]) ++ List.replicate (3 - (lg_sl ([.ref (cw_mp v b), .ref o])).length) Slot.unset).toArray = ls at hl ⊢
  have hl : lv_has ls 3 [(0, .ref (cw_mp v b)), (1, .ref o)] := hl
  refine lv_aload_n hx hb dL_mark_0 rfl (lv_at hl 1 rfl) ?_
  refine lv_iconst (v := 0) hx hb dL_mark_1 (by decide) ?_
  refine lv_aload_n hx hb dL_mark_2 rfl (lv_at hl 0 rfl) ?_
  exact lw_core hB (pc := 3) (lo := 0) (hi := 8) (hpc := 11) (h1 := 12) (ix := 52) (tgt := 14) (index := 48) (n := 0) (As := []) (b := (b : Int)) (r := r) hM ⟨Int.natCast_nonneg b, hb0⟩ (hg _ (lw_gi 6 22 rfl rfl)) (hg _ (lw_gi 1 1 rfl rfl)) (hg _ (lw_gi 6 19 rfl rfl)) (hg _ (lw_gi 6 20 rfl rfl)) (hg _ (lw_gi 6 21 rfl rfl))
    (by decide +kernel) (by decide) rfl hl.1 htab rfl (fun hk => by rw [show kd = 1 from hkd.resolve_left hk]; exact (hg _ (lw_gi 6 18 rfl rfl))) hM0 ho hto hcL (fun H locs cells slots Q q kk => lv_astore_n hx hb dL_mark_11 rfl hl (by decide) rfl (fun ls' _ => kk ls'))
    dL_mark_3 dL_mark_6 dL_mark_7 dL_mark_8 rfl dL_mark_14 dL_mark_15 dL_mark_12 dL_mark_13 (by rw [cR_r (Int.natCast_nonneg b)]; rfl)
set_option maxHeartbeats 4000000 in
set_option maxRecDepth 100000 in
theorem lw_c_back {l : Launch} {v : cwE} {d o b kd : Nat} {cL : ClassId} {σ σ1 : CS} {r : Int} {y : Int64} (hM : cw_Met l v yX11_back cX11_back 1 (some .int) d (cR v (b : Int) :: []) σ σ1 kd (some (.int (rI r)))) (hb0 : c_tg σ b = 12) (hkd : kd = 0 ∨ kd = 1) (hto : ¬ cw_tm v σ o) :
    lw_Met l v yL_back cL_back 3 [(0, 8, 11, 52)] d [.ref (cw_mp v b), .ref o] σ σ1 o cL y (if kd = 0 then (rI r).toInt64 else y) (if kd = 0 then 0 else 1) := by
  refine lw_ofW (by decide) ?_
  intro p e s m args below meth c s₁ B hml hP
  obtain ⟨rfl, hM0, hK, ho, hcL⟩ := hP
  have hts := atoms_spec (ws := Cond.codeWith yL_back cL_back 3 (some .int) [(0, 8, 11, 52)] :: lw_gw) B.pre
  have hg : ∀ w ∈ lw_gw, w.before _ s = true := fun w h => hts w (List.mem_cons_of_mem _ h)
  have hB : cw_B v RL p s m _ meth c cL_back 3 (some .int) := ⟨B.exec, B.bytes, B.returns, hml, findClass_of_methodNamed B.named, fun w h => hg w (lw_cwg w h), B.notSynchronized, hK⟩
  have htab := vx_table (x := yL_back) B (hts _ List.mem_cons_self)
  have hx := B.exec
  have hb := B.bytes
  have hl := lv_entry ([.ref (cw_mp v b), .ref o]) (n := 3) (Nat.le_of_ble_eq_true rfl)
  rw [lg_entry_eq]
  generalize (lg_sl ([.ref (cw_mp v b), .ref o]) ++ List.replicate (3 - (lg_sl ([.ref (cw_mp v b), .ref o])).length) Slot.unset).toArray = ls at hl ⊢
  have hl : lv_has ls 3 [(0, .ref (cw_mp v b)), (1, .ref o)] := hl
  refine lv_aload_n hx hb dL_back_0 rfl (lv_at hl 1 rfl) ?_
  refine lv_iconst (v := 0) hx hb dL_back_1 (by decide) ?_
  refine lv_aload_n hx hb dL_back_2 rfl (lv_at hl 0 rfl) ?_
  exact lw_core hB (pc := 3) (lo := 0) (hi := 8) (hpc := 11) (h1 := 12) (ix := 52) (tgt := 14) (index := 54) (n := 0) (As := []) (b := (b : Int)) (r := r) hM ⟨Int.natCast_nonneg b, hb0⟩ (hg _ (lw_gi 6 29 rfl rfl)) (hg _ (lw_gi 1 1 rfl rfl)) (hg _ (lw_gi 6 26 rfl rfl)) (hg _ (lw_gi 6 27 rfl rfl)) (hg _ (lw_gi 6 28 rfl rfl))
    (by decide +kernel) (by decide) rfl hl.1 htab rfl (fun hk => by rw [show kd = 1 from hkd.resolve_left hk]; exact (hg _ (lw_gi 6 18 rfl rfl))) hM0 ho hto hcL (fun H locs cells slots Q q kk => lv_astore_n hx hb dL_back_11 rfl hl (by decide) rfl (fun ls' _ => kk ls'))
    dL_back_3 dL_back_6 dL_back_7 dL_back_8 rfl dL_back_14 dL_back_15 dL_back_12 dL_back_13 (by rw [cR_r (Int.natCast_nonneg b)]; rfl)
end LWE
