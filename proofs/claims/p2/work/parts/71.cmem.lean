theorem cw_gr {big : List Cond} (ws : List Cond) (ps : List Nat) (hp : ps.filterMap (fun i => big[i]?) = ws) (h : ws.all goodWord = true) : GoodIn big ws := by
  intro w hw
  have h1 := List.all_eq_true.mp h w hw
  rw [← hp] at hw
  obtain ⟨i, -, hi⟩ := List.mem_filterMap.mp hw
  exact ⟨List.mem_of_getElem? hi, good_of_word h1⟩
theorem cwi_1 : ∀ w ∈ u_ws (cw_tab 1).1 (cw_tab 1).2.1 (cw_tab 1).2.2, w ∈ cw_bw := fun w h => List.mem_append_left _ (List.mem_append_left _ h)
theorem cwt_1 : cw_OKt 1 := ⟨⟨by decide, by decide⟩, cwi_1, tyX0_ok, by decide +kernel⟩
theorem cwd_1 {v : cwE} : ∀ f, f < (cw_tab 1).2.2 → defaultValue (cw_ty 1 f) = cw_fv v 1 f (if cw_isR 1 f = true then -1 else 0) := by
  intro f hf
  match f, hf with
  | 0, _ => rfl
  | 1, _ => rfl
  | 2, _ => rfl
  | 3, _ => rfl
  | 4, _ => rfl
  | 5, _ => rfl
  | 6, _ => rfl
  | 7, _ => rfl
  | 8, _ => rfl
  | 9, _ => rfl
  | 10, _ => rfl
  | f + 11, hf => exact absurd hf (by simp [cw_tab])
theorem cwi_2 : ∀ w ∈ u_ws (cw_tab 2).1 (cw_tab 2).2.1 (cw_tab 2).2.2, w ∈ cw_bw := fun w h => List.mem_append_left _ (List.mem_append_right _ (List.mem_append_left _ h))
theorem cwt_2 : cw_OKt 2 := ⟨⟨by decide, by decide⟩, cwi_2, tyX1_ok, by decide +kernel⟩
theorem cwd_2 {v : cwE} : ∀ f, f < (cw_tab 2).2.2 → defaultValue (cw_ty 2 f) = cw_fv v 2 f (if cw_isR 2 f = true then -1 else 0) := by
  intro f hf
  match f, hf with
  | 0, _ => rfl
  | 1, _ => rfl
  | 2, _ => rfl
  | 3, _ => rfl
  | f + 4, hf => exact absurd hf (by simp [cw_tab])
theorem cwi_3 : ∀ w ∈ u_ws (cw_tab 3).1 (cw_tab 3).2.1 (cw_tab 3).2.2, w ∈ cw_bw := fun w h => List.mem_append_left _ (List.mem_append_right _ (List.mem_append_right _ (List.mem_append_left _ h)))
theorem cwt_3 : cw_OKt 3 := ⟨⟨by decide, by decide⟩, cwi_3, tyX2_ok, by decide +kernel⟩
theorem cwd_3 {v : cwE} : ∀ f, f < (cw_tab 3).2.2 → defaultValue (cw_ty 3 f) = cw_fv v 3 f (if cw_isR 3 f = true then -1 else 0) := by
  intro f hf
  match f, hf with
  | 0, _ => rfl
  | 1, _ => rfl
  | 2, _ => rfl
  | 3, _ => rfl
  | 4, _ => rfl
  | f + 5, hf => exact absurd hf (by simp [cw_tab])
theorem cwi_4 : ∀ w ∈ u_ws (cw_tab 4).1 (cw_tab 4).2.1 (cw_tab 4).2.2, w ∈ cw_bw := fun w h => List.mem_append_left _ (List.mem_append_right _ (List.mem_append_right _ (List.mem_append_right _ (List.mem_append_left _ h))))
theorem cwt_4 : cw_OKt 4 := ⟨⟨by decide, by decide⟩, cwi_4, tyX3_ok, by decide +kernel⟩
theorem cwd_4 {v : cwE} : ∀ f, f < (cw_tab 4).2.2 → defaultValue (cw_ty 4 f) = cw_fv v 4 f (if cw_isR 4 f = true then -1 else 0) := by
  intro f hf
  match f, hf with
  | 0, _ => rfl
  | 1, _ => rfl
  | 2, _ => rfl
  | 3, _ => rfl
  | 4, _ => rfl
  | f + 5, hf => exact absurd hf (by simp [cw_tab])
theorem cwi_5 : ∀ w ∈ u_ws (cw_tab 5).1 (cw_tab 5).2.1 (cw_tab 5).2.2, w ∈ cw_bw := fun w h => List.mem_append_left _ (List.mem_append_right _ (List.mem_append_right _ (List.mem_append_right _ (List.mem_append_right _ (List.mem_append_left _ h)))))
theorem cwt_5 : cw_OKt 5 := ⟨⟨by decide, by decide⟩, cwi_5, tyX4_ok, by decide +kernel⟩
theorem cwd_5 {v : cwE} : ∀ f, f < (cw_tab 5).2.2 → defaultValue (cw_ty 5 f) = cw_fv v 5 f (if cw_isR 5 f = true then -1 else 0) := by
  intro f hf
  match f, hf with
  | 0, _ => rfl
  | 1, _ => rfl
  | 2, _ => rfl
  | 3, _ => rfl
  | 4, _ => rfl
  | 5, _ => rfl
  | 6, _ => rfl
  | 7, _ => rfl
  | f + 8, hf => exact absurd hf (by simp [cw_tab])
theorem cwi_6 : ∀ w ∈ u_ws (cw_tab 6).1 (cw_tab 6).2.1 (cw_tab 6).2.2, w ∈ cw_bw := fun w h => List.mem_append_left _ (List.mem_append_right _ (List.mem_append_right _ (List.mem_append_right _ (List.mem_append_right _ (List.mem_append_right _ (List.mem_append_left _ h))))))
theorem cwt_6 : cw_OKt 6 := ⟨⟨by decide, by decide⟩, cwi_6, tyX5_ok, by decide +kernel⟩
theorem cwd_6 {v : cwE} : ∀ f, f < (cw_tab 6).2.2 → defaultValue (cw_ty 6 f) = cw_fv v 6 f (if cw_isR 6 f = true then -1 else 0) := by
  intro f hf
  match f, hf with
  | 0, _ => rfl
  | 1, _ => rfl
  | 2, _ => rfl
  | f + 3, hf => exact absurd hf (by simp [cw_tab])
theorem cwi_7 : ∀ w ∈ u_ws (cw_tab 7).1 (cw_tab 7).2.1 (cw_tab 7).2.2, w ∈ cw_bw := fun w h => List.mem_append_left _ (List.mem_append_right _ (List.mem_append_right _ (List.mem_append_right _ (List.mem_append_right _ (List.mem_append_right _ (List.mem_append_right _ (List.mem_append_left _ h)))))))
theorem cwt_7 : cw_OKt 7 := ⟨⟨by decide, by decide⟩, cwi_7, tyX6_ok, by decide +kernel⟩
theorem cwd_7 {v : cwE} : ∀ f, f < (cw_tab 7).2.2 → defaultValue (cw_ty 7 f) = cw_fv v 7 f (if cw_isR 7 f = true then -1 else 0) := by
  intro f hf
  match f, hf with
  | 0, _ => rfl
  | 1, _ => rfl
  | 2, _ => rfl
  | 3, _ => rfl
  | 4, _ => rfl
  | 5, _ => rfl
  | 6, _ => rfl
  | 7, _ => rfl
  | 8, _ => rfl
  | 9, _ => rfl
  | 10, _ => rfl
  | f + 11, hf => exact absurd hf (by simp [cw_tab])
theorem cwi_8 : ∀ w ∈ u_ws (cw_tab 8).1 (cw_tab 8).2.1 (cw_tab 8).2.2, w ∈ cw_bw := fun w h => List.mem_append_left _ (List.mem_append_right _ (List.mem_append_right _ (List.mem_append_right _ (List.mem_append_right _ (List.mem_append_right _ (List.mem_append_right _ (List.mem_append_right _ (List.mem_append_left _ h))))))))
theorem cwt_8 : cw_OKt 8 := ⟨⟨by decide, by decide⟩, cwi_8, tyX7_ok, by decide +kernel⟩
theorem cwd_8 {v : cwE} : ∀ f, f < (cw_tab 8).2.2 → defaultValue (cw_ty 8 f) = cw_fv v 8 f (if cw_isR 8 f = true then -1 else 0) := by
  intro f hf
  match f, hf with
  | 0, _ => rfl
  | 1, _ => rfl
  | 2, _ => rfl
  | 3, _ => rfl
  | 4, _ => rfl
  | 5, _ => rfl
  | 6, _ => rfl
  | 7, _ => rfl
  | 8, _ => rfl
  | 9, _ => rfl
  | 10, _ => rfl
  | f + 11, hf => exact absurd hf (by simp [cw_tab])
theorem cwi_9 : ∀ w ∈ u_ws (cw_tab 9).1 (cw_tab 9).2.1 (cw_tab 9).2.2, w ∈ cw_bw := fun w h => List.mem_append_left _ (List.mem_append_right _ (List.mem_append_right _ (List.mem_append_right _ (List.mem_append_right _ (List.mem_append_right _ (List.mem_append_right _ (List.mem_append_right _ (List.mem_append_right _ (List.mem_append_left _ h)))))))))
theorem cwt_9 : cw_OKt 9 := ⟨⟨by decide, by decide⟩, cwi_9, tyX8_ok, by decide +kernel⟩
theorem cwd_9 {v : cwE} : ∀ f, f < (cw_tab 9).2.2 → defaultValue (cw_ty 9 f) = cw_fv v 9 f (if cw_isR 9 f = true then -1 else 0) := by
  intro f hf
  match f, hf with
  | 0, _ => rfl
  | 1, _ => rfl
  | 2, _ => rfl
  | 3, _ => rfl
  | 4, _ => rfl
  | f + 5, hf => exact absurd hf (by simp [cw_tab])
theorem cwi_10 : ∀ w ∈ u_ws (cw_tab 10).1 (cw_tab 10).2.1 (cw_tab 10).2.2, w ∈ cw_bw := fun w h => List.mem_append_left _ (List.mem_append_right _ (List.mem_append_right _ (List.mem_append_right _ (List.mem_append_right _ (List.mem_append_right _ (List.mem_append_right _ (List.mem_append_right _ (List.mem_append_right _ (List.mem_append_right _ (List.mem_append_left _ h))))))))))
theorem cwt_10 : cw_OKt 10 := ⟨⟨by decide, by decide⟩, cwi_10, tyX9_ok, by decide +kernel⟩
theorem cwd_10 {v : cwE} : ∀ f, f < (cw_tab 10).2.2 → defaultValue (cw_ty 10 f) = cw_fv v 10 f (if cw_isR 10 f = true then -1 else 0) := by
  intro f hf
  match f, hf with
  | 0, _ => rfl
  | 1, _ => rfl
  | 2, _ => rfl
  | 3, _ => rfl
  | 4, _ => rfl
  | f + 5, hf => exact absurd hf (by simp [cw_tab])
theorem cwi_11 : ∀ w ∈ u_ws (cw_tab 11).1 (cw_tab 11).2.1 (cw_tab 11).2.2, w ∈ cw_bw := fun w h => List.mem_append_left _ (List.mem_append_right _ (List.mem_append_right _ (List.mem_append_right _ (List.mem_append_right _ (List.mem_append_right _ (List.mem_append_right _ (List.mem_append_right _ (List.mem_append_right _ (List.mem_append_right _ (List.mem_append_right _ (List.mem_append_left _ h)))))))))))
theorem cwt_11 : cw_OKt 11 := ⟨⟨by decide, by decide⟩, cwi_11, tyX10_ok, by decide +kernel⟩
theorem cwd_11 {v : cwE} : ∀ f, f < (cw_tab 11).2.2 → defaultValue (cw_ty 11 f) = cw_fv v 11 f (if cw_isR 11 f = true then -1 else 0) := by
  intro f hf
  match f, hf with
  | 0, _ => rfl
  | 1, _ => rfl
  | f + 2, hf => exact absurd hf (by simp [cw_tab])
theorem cwi_12 : ∀ w ∈ u_ws (cw_tab 12).1 (cw_tab 12).2.1 (cw_tab 12).2.2, w ∈ cw_bw := fun w h => List.mem_append_left _ (List.mem_append_right _ (List.mem_append_right _ (List.mem_append_right _ (List.mem_append_right _ (List.mem_append_right _ (List.mem_append_right _ (List.mem_append_right _ (List.mem_append_right _ (List.mem_append_right _ (List.mem_append_right _ (List.mem_append_right _ (List.mem_append_left _ h))))))))))))
theorem cwt_12 : cw_OKt 12 := ⟨⟨by decide, by decide⟩, cwi_12, tyX11_ok, by decide +kernel⟩
theorem cwd_12 {v : cwE} : ∀ f, f < (cw_tab 12).2.2 → defaultValue (cw_ty 12 f) = cw_fv v 12 f (if cw_isR 12 f = true then -1 else 0) := by
  intro f hf
  match f, hf with
  | 0, _ => rfl
  | 1, _ => rfl
  | 2, _ => rfl
  | 3, _ => rfl
  | 4, _ => rfl
  | 5, _ => rfl
  | 6, _ => rfl
  | 7, _ => rfl
  | 8, _ => rfl
  | 9, _ => rfl
  | f + 10, hf => exact absurd hf (by simp [cw_tab])
theorem cwi_13 : ∀ w ∈ u_ws (cw_tab 13).1 (cw_tab 13).2.1 (cw_tab 13).2.2, w ∈ cw_bw := fun w h => List.mem_append_left _ (List.mem_append_right _ (List.mem_append_right _ (List.mem_append_right _ (List.mem_append_right _ (List.mem_append_right _ (List.mem_append_right _ (List.mem_append_right _ (List.mem_append_right _ (List.mem_append_right _ (List.mem_append_right _ (List.mem_append_right _ (List.mem_append_right _ (List.mem_append_left _ h)))))))))))))
theorem cwt_13 : cw_OKt 13 := ⟨⟨by decide, by decide⟩, cwi_13, tyJx4a65c_ok, by decide +kernel⟩
theorem cwd_13 {v : cwE} : ∀ f, f < (cw_tab 13).2.2 → defaultValue (cw_ty 13 f) = cw_fv v 13 f (if cw_isR 13 f = true then -1 else 0) := by
  intro f hf
  match f, hf with
  | 0, _ => rfl
  | 1, _ => rfl
  | 2, _ => rfl
  | f + 3, hf => exact absurd hf (by simp [cw_tab])
set_option maxRecDepth 100000 in
theorem cfl_Jx4a65c_9 : Cond.fieldLink RJx4a65c 9 ((cw_tab 13).2.1 1).1 ((cw_tab 13).2.1 1).2.1 ((cw_tab 13).2.1 1).2.2.1 ∈ cw_bw := List.mem_of_getElem? (i := 83) rfl
set_option maxRecDepth 100000 in
theorem cfl_Jx4a65c_48 : Cond.fieldLink RJx4a65c 48 ((cw_tab 13).2.1 2).1 ((cw_tab 13).2.1 2).2.1 ((cw_tab 13).2.1 2).2.2.1 ∈ cw_bw := List.mem_of_getElem? (i := 84) rfl
set_option maxRecDepth 100000 in
theorem cfl_Jxc12de_7 : Cond.fieldLink RJxc12de 7 ((cw_tab 13).2.1 0).1 ((cw_tab 13).2.1 0).2.1 ((cw_tab 13).2.1 0).2.2.1 ∈ cw_bw := List.mem_of_getElem? (i := 85) rfl
set_option maxRecDepth 100000 in
theorem cfl_X0_16 : Cond.fieldLink RX0 16 ((cw_tab 1).2.1 0).1 ((cw_tab 1).2.1 0).2.1 ((cw_tab 1).2.1 0).2.2.1 ∈ cw_bw := List.mem_of_getElem? (i := 86) rfl
set_option maxRecDepth 100000 in
theorem cfl_X0_20 : Cond.fieldLink RX0 20 ((cw_tab 1).2.1 1).1 ((cw_tab 1).2.1 1).2.1 ((cw_tab 1).2.1 1).2.2.1 ∈ cw_bw := List.mem_of_getElem? (i := 87) rfl
set_option maxRecDepth 100000 in
theorem cfl_X0_24 : Cond.fieldLink RX0 24 ((cw_tab 1).2.1 2).1 ((cw_tab 1).2.1 2).2.1 ((cw_tab 1).2.1 2).2.2.1 ∈ cw_bw := List.mem_of_getElem? (i := 88) rfl
set_option maxRecDepth 100000 in
theorem cfl_X0_27 : Cond.fieldLink RX0 27 ((cw_tab 1).2.1 3).1 ((cw_tab 1).2.1 3).2.1 ((cw_tab 1).2.1 3).2.2.1 ∈ cw_bw := List.mem_of_getElem? (i := 89) rfl
set_option maxRecDepth 100000 in
theorem cfl_X0_31 : Cond.fieldLink RX0 31 ((cw_tab 1).2.1 4).1 ((cw_tab 1).2.1 4).2.1 ((cw_tab 1).2.1 4).2.2.1 ∈ cw_bw := List.mem_of_getElem? (i := 90) rfl
set_option maxRecDepth 100000 in
theorem cfl_X0_34 : Cond.fieldLink RX0 34 ((cw_tab 1).2.1 5).1 ((cw_tab 1).2.1 5).2.1 ((cw_tab 1).2.1 5).2.2.1 ∈ cw_bw := List.mem_of_getElem? (i := 91) rfl
set_option maxRecDepth 100000 in
theorem cfl_X0_39 : Cond.fieldLink RX0 39 ((cw_tab 1).2.1 6).1 ((cw_tab 1).2.1 6).2.1 ((cw_tab 1).2.1 6).2.2.1 ∈ cw_bw := List.mem_of_getElem? (i := 92) rfl
set_option maxRecDepth 100000 in
theorem cfl_X0_43 : Cond.fieldLink RX0 43 ((cw_tab 1).2.1 7).1 ((cw_tab 1).2.1 7).2.1 ((cw_tab 1).2.1 7).2.2.1 ∈ cw_bw := List.mem_of_getElem? (i := 93) rfl
set_option maxRecDepth 100000 in
theorem cfl_X0_46 : Cond.fieldLink RX0 46 ((cw_tab 1).2.1 8).1 ((cw_tab 1).2.1 8).2.1 ((cw_tab 1).2.1 8).2.2.1 ∈ cw_bw := List.mem_of_getElem? (i := 94) rfl
set_option maxRecDepth 100000 in
theorem cfl_X0_49 : Cond.fieldLink RX0 49 ((cw_tab 1).2.1 9).1 ((cw_tab 1).2.1 9).2.1 ((cw_tab 1).2.1 9).2.2.1 ∈ cw_bw := List.mem_of_getElem? (i := 95) rfl
set_option maxRecDepth 100000 in
theorem cfl_X0_52 : Cond.fieldLink RX0 52 ((cw_tab 1).2.1 10).1 ((cw_tab 1).2.1 10).2.1 ((cw_tab 1).2.1 10).2.2.1 ∈ cw_bw := List.mem_of_getElem? (i := 96) rfl
set_option maxRecDepth 100000 in
theorem cfl_X0_74 : Cond.fieldLink RX0 74 ((cw_tab 6).2.1 2).1 ((cw_tab 6).2.1 2).2.1 ((cw_tab 6).2.1 2).2.2.1 ∈ cw_bw := List.mem_of_getElem? (i := 97) rfl
set_option maxRecDepth 100000 in
theorem cfl_X0_85 : Cond.fieldLink RX0 85 ((cw_tab 7).2.1 4).1 ((cw_tab 7).2.1 4).2.1 ((cw_tab 7).2.1 4).2.2.1 ∈ cw_bw := List.mem_of_getElem? (i := 98) rfl
set_option maxRecDepth 100000 in
theorem cfl_X0_88 : Cond.fieldLink RX0 88 ((cw_tab 7).2.1 5).1 ((cw_tab 7).2.1 5).2.1 ((cw_tab 7).2.1 5).2.2.1 ∈ cw_bw := List.mem_of_getElem? (i := 99) rfl
set_option maxRecDepth 100000 in
theorem cfl_X1_7 : Cond.fieldLink RX1 7 ((cw_tab 2).2.1 0).1 ((cw_tab 2).2.1 0).2.1 ((cw_tab 2).2.1 0).2.2.1 ∈ cw_bw := List.mem_of_getElem? (i := 100) rfl
set_option maxRecDepth 100000 in
theorem cfl_X1_13 : Cond.fieldLink RX1 13 ((cw_tab 2).2.1 1).1 ((cw_tab 2).2.1 1).2.1 ((cw_tab 2).2.1 1).2.2.1 ∈ cw_bw := List.mem_of_getElem? (i := 101) rfl
set_option maxRecDepth 100000 in
theorem cfl_X1_17 : Cond.fieldLink RX1 17 ((cw_tab 2).2.1 2).1 ((cw_tab 2).2.1 2).2.1 ((cw_tab 2).2.1 2).2.2.1 ∈ cw_bw := List.mem_of_getElem? (i := 102) rfl
set_option maxRecDepth 100000 in
theorem cfl_X1_21 : Cond.fieldLink RX1 21 ((cw_tab 2).2.1 3).1 ((cw_tab 2).2.1 3).2.1 ((cw_tab 2).2.1 3).2.2.1 ∈ cw_bw := List.mem_of_getElem? (i := 103) rfl
set_option maxRecDepth 100000 in
theorem cfl_X1_24 : Cond.fieldLink RX1 24 ((cw_tab 7).2.1 0).1 ((cw_tab 7).2.1 0).2.1 ((cw_tab 7).2.1 0).2.2.1 ∈ cw_bw := List.mem_of_getElem? (i := 104) rfl
set_option maxRecDepth 100000 in
theorem cfl_X1_31 : Cond.fieldLink RX1 31 ((cw_tab 7).2.1 1).1 ((cw_tab 7).2.1 1).2.1 ((cw_tab 7).2.1 1).2.2.1 ∈ cw_bw := List.mem_of_getElem? (i := 105) rfl
set_option maxRecDepth 100000 in
theorem cfl_X10_9 : Cond.fieldLink RX10 9 ((cw_tab 11).2.1 0).1 ((cw_tab 11).2.1 0).2.1 ((cw_tab 11).2.1 0).2.2.1 ∈ cw_bw := List.mem_of_getElem? (i := 106) rfl
set_option maxRecDepth 100000 in
theorem cfl_X10_15 : Cond.fieldLink RX10 15 ((cw_tab 11).2.1 1).1 ((cw_tab 11).2.1 1).2.1 ((cw_tab 11).2.1 1).2.2.1 ∈ cw_bw := List.mem_of_getElem? (i := 107) rfl
set_option maxRecDepth 100000 in
theorem cfl_X11_9 : Cond.fieldLink RX11 9 ((cw_tab 12).2.1 0).1 ((cw_tab 12).2.1 0).2.1 ((cw_tab 12).2.1 0).2.2.1 ∈ cw_bw := List.mem_of_getElem? (i := 108) rfl
set_option maxRecDepth 100000 in
theorem cfl_X11_16 : Cond.fieldLink RX11 16 ((cw_tab 12).2.1 1).1 ((cw_tab 12).2.1 1).2.1 ((cw_tab 12).2.1 1).2.2.1 ∈ cw_bw := List.mem_of_getElem? (i := 109) rfl
set_option maxRecDepth 100000 in
theorem cfl_X11_23 : Cond.fieldLink RX11 23 ((cw_tab 12).2.1 2).1 ((cw_tab 12).2.1 2).2.1 ((cw_tab 12).2.1 2).2.2.1 ∈ cw_bw := List.mem_of_getElem? (i := 110) rfl
set_option maxRecDepth 100000 in
theorem cfl_X11_32 : Cond.fieldLink RX11 32 ((cw_tab 12).2.1 3).1 ((cw_tab 12).2.1 3).2.1 ((cw_tab 12).2.1 3).2.2.1 ∈ cw_bw := List.mem_of_getElem? (i := 111) rfl
set_option maxRecDepth 100000 in
theorem cfl_X11_41 : Cond.fieldLink RX11 41 ((cw_tab 12).2.1 4).1 ((cw_tab 12).2.1 4).2.1 ((cw_tab 12).2.1 4).2.2.1 ∈ cw_bw := List.mem_of_getElem? (i := 112) rfl
set_option maxRecDepth 100000 in
theorem cfl_X11_50 : Cond.fieldLink RX11 50 ((cw_tab 12).2.1 5).1 ((cw_tab 12).2.1 5).2.1 ((cw_tab 12).2.1 5).2.2.1 ∈ cw_bw := List.mem_of_getElem? (i := 113) rfl
set_option maxRecDepth 100000 in
theorem cfl_X11_54 : Cond.fieldLink RX11 54 ((cw_tab 12).2.1 6).1 ((cw_tab 12).2.1 6).2.1 ((cw_tab 12).2.1 6).2.2.1 ∈ cw_bw := List.mem_of_getElem? (i := 114) rfl
set_option maxRecDepth 100000 in
theorem cfl_X11_58 : Cond.fieldLink RX11 58 ((cw_tab 12).2.1 7).1 ((cw_tab 12).2.1 7).2.1 ((cw_tab 12).2.1 7).2.2.1 ∈ cw_bw := List.mem_of_getElem? (i := 115) rfl
set_option maxRecDepth 100000 in
theorem cfl_X11_61 : Cond.fieldLink RX11 61 ((cw_tab 12).2.1 8).1 ((cw_tab 12).2.1 8).2.1 ((cw_tab 12).2.1 8).2.2.1 ∈ cw_bw := List.mem_of_getElem? (i := 116) rfl
set_option maxRecDepth 100000 in
theorem cfl_X11_64 : Cond.fieldLink RX11 64 ((cw_tab 12).2.1 9).1 ((cw_tab 12).2.1 9).2.1 ((cw_tab 12).2.1 9).2.2.1 ∈ cw_bw := List.mem_of_getElem? (i := 117) rfl
set_option maxRecDepth 100000 in
theorem cfl_X11_84 : Cond.fieldLink RX11 84 ((cw_tab 1).2.1 5).1 ((cw_tab 1).2.1 5).2.1 ((cw_tab 1).2.1 5).2.2.1 ∈ cw_bw := List.mem_of_getElem? (i := 118) rfl
set_option maxRecDepth 100000 in
theorem cfl_X11_88 : Cond.fieldLink RX11 88 ((cw_tab 6).2.1 2).1 ((cw_tab 6).2.1 2).2.1 ((cw_tab 6).2.1 2).2.2.1 ∈ cw_bw := List.mem_of_getElem? (i := 119) rfl
set_option maxRecDepth 100000 in
theorem cfl_X11_93 : Cond.fieldLink RX11 93 ((cw_tab 5).2.1 4).1 ((cw_tab 5).2.1 4).2.1 ((cw_tab 5).2.1 4).2.2.1 ∈ cw_bw := List.mem_of_getElem? (i := 120) rfl
set_option maxRecDepth 100000 in
theorem cfl_X11_96 : Cond.fieldLink RX11 96 ((cw_tab 5).2.1 7).1 ((cw_tab 5).2.1 7).2.1 ((cw_tab 5).2.1 7).2.2.1 ∈ cw_bw := List.mem_of_getElem? (i := 121) rfl
set_option maxRecDepth 100000 in
theorem cfl_X11_99 : Cond.fieldLink RX11 99 ((cw_tab 5).2.1 6).1 ((cw_tab 5).2.1 6).2.1 ((cw_tab 5).2.1 6).2.2.1 ∈ cw_bw := List.mem_of_getElem? (i := 122) rfl
set_option maxRecDepth 100000 in
theorem cfl_X11_102 : Cond.fieldLink RX11 102 ((cw_tab 5).2.1 2).1 ((cw_tab 5).2.1 2).2.1 ((cw_tab 5).2.1 2).2.2.1 ∈ cw_bw := List.mem_of_getElem? (i := 123) rfl
set_option maxRecDepth 100000 in
theorem cfl_X11_106 : Cond.fieldLink RX11 106 ((cw_tab 5).2.1 3).1 ((cw_tab 5).2.1 3).2.1 ((cw_tab 5).2.1 3).2.2.1 ∈ cw_bw := List.mem_of_getElem? (i := 124) rfl
set_option maxRecDepth 100000 in
theorem cfl_X11_109 : Cond.fieldLink RX11 109 ((cw_tab 1).2.1 0).1 ((cw_tab 1).2.1 0).2.1 ((cw_tab 1).2.1 0).2.2.1 ∈ cw_bw := List.mem_of_getElem? (i := 125) rfl
set_option maxRecDepth 100000 in
theorem cfl_X11_112 : Cond.fieldLink RX11 112 ((cw_tab 1).2.1 3).1 ((cw_tab 1).2.1 3).2.1 ((cw_tab 1).2.1 3).2.2.1 ∈ cw_bw := List.mem_of_getElem? (i := 126) rfl
set_option maxRecDepth 100000 in
theorem cfl_X11_115 : Cond.fieldLink RX11 115 ((cw_tab 1).2.1 4).1 ((cw_tab 1).2.1 4).2.1 ((cw_tab 1).2.1 4).2.2.1 ∈ cw_bw := List.mem_of_getElem? (i := 127) rfl
set_option maxRecDepth 100000 in
theorem cfl_X11_118 : Cond.fieldLink RX11 118 ((cw_tab 1).2.1 10).1 ((cw_tab 1).2.1 10).2.1 ((cw_tab 1).2.1 10).2.2.1 ∈ cw_bw := List.mem_of_getElem? (i := 128) rfl
set_option maxRecDepth 100000 in
theorem cfl_X11_125 : Cond.fieldLink RX11 125 ((cw_tab 1).2.1 7).1 ((cw_tab 1).2.1 7).2.1 ((cw_tab 1).2.1 7).2.2.1 ∈ cw_bw := List.mem_of_getElem? (i := 129) rfl
set_option maxRecDepth 100000 in
theorem cfl_X11_129 : Cond.fieldLink RX11 129 ((cw_tab 1).2.1 8).1 ((cw_tab 1).2.1 8).2.1 ((cw_tab 1).2.1 8).2.2.1 ∈ cw_bw := List.mem_of_getElem? (i := 130) rfl
set_option maxRecDepth 100000 in
theorem cfl_X11_132 : Cond.fieldLink RX11 132 ((cw_tab 6).2.1 1).1 ((cw_tab 6).2.1 1).2.1 ((cw_tab 6).2.1 1).2.2.1 ∈ cw_bw := List.mem_of_getElem? (i := 131) rfl
set_option maxRecDepth 100000 in
theorem cfl_X11_145 : Cond.fieldLink RX11 145 ((cw_tab 1).2.1 6).1 ((cw_tab 1).2.1 6).2.1 ((cw_tab 1).2.1 6).2.2.1 ∈ cw_bw := List.mem_of_getElem? (i := 132) rfl
set_option maxRecDepth 100000 in
theorem cfl_X11_155 : Cond.fieldLink RX11 155 ((cw_tab 1).2.1 9).1 ((cw_tab 1).2.1 9).2.1 ((cw_tab 1).2.1 9).2.2.1 ∈ cw_bw := List.mem_of_getElem? (i := 133) rfl
set_option maxRecDepth 100000 in
theorem cfl_X11_183 : Cond.fieldLink RX11 183 ((cw_tab 11).2.1 0).1 ((cw_tab 11).2.1 0).2.1 ((cw_tab 11).2.1 0).2.2.1 ∈ cw_bw := List.mem_of_getElem? (i := 134) rfl
set_option maxRecDepth 100000 in
theorem cfl_X11_186 : Cond.fieldLink RX11 186 ((cw_tab 11).2.1 1).1 ((cw_tab 11).2.1 1).2.1 ((cw_tab 11).2.1 1).2.2.1 ∈ cw_bw := List.mem_of_getElem? (i := 135) rfl
set_option maxRecDepth 100000 in
theorem cfl_X11_205 : Cond.fieldLink RX11 205 ((cw_tab 10).2.1 1).1 ((cw_tab 10).2.1 1).2.1 ((cw_tab 10).2.1 1).2.2.1 ∈ cw_bw := List.mem_of_getElem? (i := 136) rfl
set_option maxRecDepth 100000 in
theorem cfl_X11_208 : Cond.fieldLink RX11 208 ((cw_tab 10).2.1 0).1 ((cw_tab 10).2.1 0).2.1 ((cw_tab 10).2.1 0).2.2.1 ∈ cw_bw := List.mem_of_getElem? (i := 137) rfl
set_option maxRecDepth 100000 in
theorem cfl_X11_229 : Cond.fieldLink RX11 229 ((cw_tab 10).2.1 3).1 ((cw_tab 10).2.1 3).2.1 ((cw_tab 10).2.1 3).2.2.1 ∈ cw_bw := List.mem_of_getElem? (i := 138) rfl
set_option maxRecDepth 100000 in
theorem cfl_X11_249 : Cond.fieldLink RX11 249 ((cw_tab 10).2.1 2).1 ((cw_tab 10).2.1 2).2.1 ((cw_tab 10).2.1 2).2.2.1 ∈ cw_bw := List.mem_of_getElem? (i := 139) rfl
set_option maxRecDepth 100000 in
theorem cfl_X11_255 : Cond.fieldLink RX11 255 ((cw_tab 7).2.1 2).1 ((cw_tab 7).2.1 2).2.1 ((cw_tab 7).2.1 2).2.2.1 ∈ cw_bw := List.mem_of_getElem? (i := 140) rfl
set_option maxRecDepth 100000 in
theorem cfl_X11_263 : Cond.fieldLink RX11 263 ((cw_tab 7).2.1 4).1 ((cw_tab 7).2.1 4).2.1 ((cw_tab 7).2.1 4).2.2.1 ∈ cw_bw := List.mem_of_getElem? (i := 141) rfl
set_option maxRecDepth 100000 in
theorem cfl_X11_266 : Cond.fieldLink RX11 266 ((cw_tab 7).2.1 5).1 ((cw_tab 7).2.1 5).2.1 ((cw_tab 7).2.1 5).2.2.1 ∈ cw_bw := List.mem_of_getElem? (i := 142) rfl
set_option maxRecDepth 100000 in
theorem cfl_X11_279 : Cond.fieldLink RX11 279 ((cw_tab 10).2.1 4).1 ((cw_tab 10).2.1 4).2.1 ((cw_tab 10).2.1 4).2.2.1 ∈ cw_bw := List.mem_of_getElem? (i := 143) rfl
set_option maxRecDepth 100000 in
theorem cfl_X11_308 : Cond.fieldLink RX11 308 ((cw_tab 3).2.1 4).1 ((cw_tab 3).2.1 4).2.1 ((cw_tab 3).2.1 4).2.2.1 ∈ cw_bw := List.mem_of_getElem? (i := 144) rfl
set_option maxRecDepth 100000 in
theorem cfl_X11_315 : Cond.fieldLink RX11 315 ((cw_tab 7).2.1 3).1 ((cw_tab 7).2.1 3).2.1 ((cw_tab 7).2.1 3).2.2.1 ∈ cw_bw := List.mem_of_getElem? (i := 145) rfl
set_option maxRecDepth 100000 in
theorem cfl_X2_9 : Cond.fieldLink RX2 9 ((cw_tab 3).2.1 4).1 ((cw_tab 3).2.1 4).2.1 ((cw_tab 3).2.1 4).2.2.1 ∈ cw_bw := List.mem_of_getElem? (i := 146) rfl
set_option maxRecDepth 100000 in
theorem cfl_X2_15 : Cond.fieldLink RX2 15 ((cw_tab 3).2.1 0).1 ((cw_tab 3).2.1 0).2.1 ((cw_tab 3).2.1 0).2.2.1 ∈ cw_bw := List.mem_of_getElem? (i := 147) rfl
set_option maxRecDepth 100000 in
theorem cfl_X2_19 : Cond.fieldLink RX2 19 ((cw_tab 3).2.1 1).1 ((cw_tab 3).2.1 1).2.1 ((cw_tab 3).2.1 1).2.2.1 ∈ cw_bw := List.mem_of_getElem? (i := 148) rfl
set_option maxRecDepth 100000 in
theorem cfl_X2_23 : Cond.fieldLink RX2 23 ((cw_tab 3).2.1 2).1 ((cw_tab 3).2.1 2).2.1 ((cw_tab 3).2.1 2).2.2.1 ∈ cw_bw := List.mem_of_getElem? (i := 149) rfl
set_option maxRecDepth 100000 in
theorem cfl_X2_27 : Cond.fieldLink RX2 27 ((cw_tab 3).2.1 3).1 ((cw_tab 3).2.1 3).2.1 ((cw_tab 3).2.1 3).2.2.1 ∈ cw_bw := List.mem_of_getElem? (i := 150) rfl
set_option maxRecDepth 100000 in
theorem cfl_X2_39 : Cond.fieldLink RX2 39 ((cw_tab 7).2.1 6).1 ((cw_tab 7).2.1 6).2.1 ((cw_tab 7).2.1 6).2.2.1 ∈ cw_bw := List.mem_of_getElem? (i := 151) rfl
set_option maxRecDepth 100000 in
theorem cfl_X2_48 : Cond.fieldLink RX2 48 ((cw_tab 7).2.1 0).1 ((cw_tab 7).2.1 0).2.1 ((cw_tab 7).2.1 0).2.2.1 ∈ cw_bw := List.mem_of_getElem? (i := 152) rfl
set_option maxRecDepth 100000 in
theorem cfl_X2_51 : Cond.fieldLink RX2 51 ((cw_tab 7).2.1 7).1 ((cw_tab 7).2.1 7).2.1 ((cw_tab 7).2.1 7).2.2.1 ∈ cw_bw := List.mem_of_getElem? (i := 153) rfl
set_option maxRecDepth 100000 in
theorem cfl_X2_59 : Cond.fieldLink RX2 59 ((cw_tab 7).2.1 8).1 ((cw_tab 7).2.1 8).2.1 ((cw_tab 7).2.1 8).2.2.1 ∈ cw_bw := List.mem_of_getElem? (i := 154) rfl
set_option maxRecDepth 100000 in
theorem cfl_X2_73 : Cond.fieldLink RX2 73 ((cw_tab 7).2.1 3).1 ((cw_tab 7).2.1 3).2.1 ((cw_tab 7).2.1 3).2.2.1 ∈ cw_bw := List.mem_of_getElem? (i := 155) rfl
set_option maxRecDepth 100000 in
theorem cfl_X2_85 : Cond.fieldLink RX2 85 ((cw_tab 7).2.1 10).1 ((cw_tab 7).2.1 10).2.1 ((cw_tab 7).2.1 10).2.2.1 ∈ cw_bw := List.mem_of_getElem? (i := 156) rfl
set_option maxRecDepth 100000 in
theorem cfl_X2_90 : Cond.fieldLink RX2 90 ((cw_tab 7).2.1 1).1 ((cw_tab 7).2.1 1).2.1 ((cw_tab 7).2.1 1).2.2.1 ∈ cw_bw := List.mem_of_getElem? (i := 157) rfl
set_option maxRecDepth 100000 in
theorem cfl_X2_112 : Cond.fieldLink RX2 112 ((cw_tab 9).2.1 0).1 ((cw_tab 9).2.1 0).2.1 ((cw_tab 9).2.1 0).2.2.1 ∈ cw_bw := List.mem_of_getElem? (i := 158) rfl
set_option maxRecDepth 100000 in
theorem cfl_X2_118 : Cond.fieldLink RX2 118 ((cw_tab 9).2.1 2).1 ((cw_tab 9).2.1 2).2.1 ((cw_tab 9).2.1 2).2.2.1 ∈ cw_bw := List.mem_of_getElem? (i := 159) rfl
set_option maxRecDepth 100000 in
theorem cfl_X2_125 : Cond.fieldLink RX2 125 ((cw_tab 9).2.1 1).1 ((cw_tab 9).2.1 1).2.1 ((cw_tab 9).2.1 1).2.2.1 ∈ cw_bw := List.mem_of_getElem? (i := 160) rfl
set_option maxRecDepth 100000 in
theorem cfl_X2_128 : Cond.fieldLink RX2 128 ((cw_tab 9).2.1 4).1 ((cw_tab 9).2.1 4).2.1 ((cw_tab 9).2.1 4).2.2.1 ∈ cw_bw := List.mem_of_getElem? (i := 161) rfl
set_option maxRecDepth 100000 in
theorem cfl_X2_132 : Cond.fieldLink RX2 132 ((cw_tab 1).2.1 5).1 ((cw_tab 1).2.1 5).2.1 ((cw_tab 1).2.1 5).2.2.1 ∈ cw_bw := List.mem_of_getElem? (i := 162) rfl
set_option maxRecDepth 100000 in
theorem cfl_X2_138 : Cond.fieldLink RX2 138 ((cw_tab 7).2.1 4).1 ((cw_tab 7).2.1 4).2.1 ((cw_tab 7).2.1 4).2.2.1 ∈ cw_bw := List.mem_of_getElem? (i := 163) rfl
set_option maxRecDepth 100000 in
theorem cfl_X2_141 : Cond.fieldLink RX2 141 ((cw_tab 7).2.1 5).1 ((cw_tab 7).2.1 5).2.1 ((cw_tab 7).2.1 5).2.2.1 ∈ cw_bw := List.mem_of_getElem? (i := 164) rfl
set_option maxRecDepth 100000 in
theorem cfl_X2_150 : Cond.fieldLink RX2 150 ((cw_tab 1).2.1 8).1 ((cw_tab 1).2.1 8).2.1 ((cw_tab 1).2.1 8).2.2.1 ∈ cw_bw := List.mem_of_getElem? (i := 165) rfl
set_option maxRecDepth 100000 in
theorem cfl_X2_154 : Cond.fieldLink RX2 154 ((cw_tab 1).2.1 6).1 ((cw_tab 1).2.1 6).2.1 ((cw_tab 1).2.1 6).2.2.1 ∈ cw_bw := List.mem_of_getElem? (i := 166) rfl
set_option maxRecDepth 100000 in
theorem cfl_X2_157 : Cond.fieldLink RX2 157 ((cw_tab 1).2.1 0).1 ((cw_tab 1).2.1 0).2.1 ((cw_tab 1).2.1 0).2.2.1 ∈ cw_bw := List.mem_of_getElem? (i := 167) rfl
set_option maxRecDepth 100000 in
theorem cfl_X2_160 : Cond.fieldLink RX2 160 ((cw_tab 7).2.1 2).1 ((cw_tab 7).2.1 2).2.1 ((cw_tab 7).2.1 2).2.2.1 ∈ cw_bw := List.mem_of_getElem? (i := 168) rfl
set_option maxRecDepth 100000 in
theorem cfl_X3_7 : Cond.fieldLink RX3 7 ((cw_tab 4).2.1 0).1 ((cw_tab 4).2.1 0).2.1 ((cw_tab 4).2.1 0).2.2.1 ∈ cw_bw := List.mem_of_getElem? (i := 169) rfl
set_option maxRecDepth 100000 in
theorem cfl_X3_13 : Cond.fieldLink RX3 13 ((cw_tab 4).2.1 1).1 ((cw_tab 4).2.1 1).2.1 ((cw_tab 4).2.1 1).2.2.1 ∈ cw_bw := List.mem_of_getElem? (i := 170) rfl
set_option maxRecDepth 100000 in
theorem cfl_X3_17 : Cond.fieldLink RX3 17 ((cw_tab 4).2.1 2).1 ((cw_tab 4).2.1 2).2.1 ((cw_tab 4).2.1 2).2.2.1 ∈ cw_bw := List.mem_of_getElem? (i := 171) rfl
set_option maxRecDepth 100000 in
theorem cfl_X3_21 : Cond.fieldLink RX3 21 ((cw_tab 4).2.1 3).1 ((cw_tab 4).2.1 3).2.1 ((cw_tab 4).2.1 3).2.2.1 ∈ cw_bw := List.mem_of_getElem? (i := 172) rfl
set_option maxRecDepth 100000 in
theorem cfl_X3_24 : Cond.fieldLink RX3 24 ((cw_tab 4).2.1 4).1 ((cw_tab 4).2.1 4).2.1 ((cw_tab 4).2.1 4).2.2.1 ∈ cw_bw := List.mem_of_getElem? (i := 173) rfl
set_option maxRecDepth 100000 in
theorem cfl_X4_9 : Cond.fieldLink RX4 9 ((cw_tab 5).2.1 2).1 ((cw_tab 5).2.1 2).2.1 ((cw_tab 5).2.1 2).2.2.1 ∈ cw_bw := List.mem_of_getElem? (i := 174) rfl
set_option maxRecDepth 100000 in
theorem cfl_X4_15 : Cond.fieldLink RX4 15 ((cw_tab 5).2.1 3).1 ((cw_tab 5).2.1 3).2.1 ((cw_tab 5).2.1 3).2.2.1 ∈ cw_bw := List.mem_of_getElem? (i := 175) rfl
set_option maxRecDepth 100000 in
theorem cfl_X4_19 : Cond.fieldLink RX4 19 ((cw_tab 5).2.1 4).1 ((cw_tab 5).2.1 4).2.1 ((cw_tab 5).2.1 4).2.2.1 ∈ cw_bw := List.mem_of_getElem? (i := 176) rfl
set_option maxRecDepth 100000 in
theorem cfl_X4_22 : Cond.fieldLink RX4 22 ((cw_tab 5).2.1 5).1 ((cw_tab 5).2.1 5).2.1 ((cw_tab 5).2.1 5).2.2.1 ∈ cw_bw := List.mem_of_getElem? (i := 177) rfl
set_option maxRecDepth 100000 in
theorem cfl_X4_25 : Cond.fieldLink RX4 25 ((cw_tab 5).2.1 6).1 ((cw_tab 5).2.1 6).2.1 ((cw_tab 5).2.1 6).2.2.1 ∈ cw_bw := List.mem_of_getElem? (i := 178) rfl
set_option maxRecDepth 100000 in
theorem cfl_X4_29 : Cond.fieldLink RX4 29 ((cw_tab 5).2.1 7).1 ((cw_tab 5).2.1 7).2.1 ((cw_tab 5).2.1 7).2.2.1 ∈ cw_bw := List.mem_of_getElem? (i := 179) rfl
set_option maxRecDepth 100000 in
theorem cfl_X4_32 : Cond.fieldLink RX4 32 ((cw_tab 5).2.1 0).1 ((cw_tab 5).2.1 0).2.1 ((cw_tab 5).2.1 0).2.2.1 ∈ cw_bw := List.mem_of_getElem? (i := 180) rfl
set_option maxRecDepth 100000 in
theorem cfl_X4_36 : Cond.fieldLink RX4 36 ((cw_tab 5).2.1 1).1 ((cw_tab 5).2.1 1).2.1 ((cw_tab 5).2.1 1).2.2.1 ∈ cw_bw := List.mem_of_getElem? (i := 181) rfl
set_option maxRecDepth 100000 in
theorem cfl_X4_70 : Cond.fieldLink RX4 70 ((cw_tab 2).2.1 3).1 ((cw_tab 2).2.1 3).2.1 ((cw_tab 2).2.1 3).2.2.1 ∈ cw_bw := List.mem_of_getElem? (i := 182) rfl
set_option maxRecDepth 100000 in
theorem cfl_X4_84 : Cond.fieldLink RX4 84 ((cw_tab 11).2.1 0).1 ((cw_tab 11).2.1 0).2.1 ((cw_tab 11).2.1 0).2.2.1 ∈ cw_bw := List.mem_of_getElem? (i := 183) rfl
set_option maxRecDepth 100000 in
theorem cfl_X4_89 : Cond.fieldLink RX4 89 ((cw_tab 11).2.1 1).1 ((cw_tab 11).2.1 1).2.1 ((cw_tab 11).2.1 1).2.2.1 ∈ cw_bw := List.mem_of_getElem? (i := 184) rfl
set_option maxRecDepth 100000 in
theorem cfl_X4_103 : Cond.fieldLink RX4 103 ((cw_tab 7).2.1 0).1 ((cw_tab 7).2.1 0).2.1 ((cw_tab 7).2.1 0).2.2.1 ∈ cw_bw := List.mem_of_getElem? (i := 185) rfl
set_option maxRecDepth 100000 in
theorem cfl_X4_108 : Cond.fieldLink RX4 108 ((cw_tab 7).2.1 8).1 ((cw_tab 7).2.1 8).2.1 ((cw_tab 7).2.1 8).2.2.1 ∈ cw_bw := List.mem_of_getElem? (i := 186) rfl
set_option maxRecDepth 100000 in
theorem cfl_X4_114 : Cond.fieldLink RX4 114 ((cw_tab 7).2.1 6).1 ((cw_tab 7).2.1 6).2.1 ((cw_tab 7).2.1 6).2.2.1 ∈ cw_bw := List.mem_of_getElem? (i := 187) rfl
set_option maxRecDepth 100000 in
theorem cfl_X4_118 : Cond.fieldLink RX4 118 ((cw_tab 7).2.1 1).1 ((cw_tab 7).2.1 1).2.1 ((cw_tab 7).2.1 1).2.2.1 ∈ cw_bw := List.mem_of_getElem? (i := 188) rfl
set_option maxRecDepth 100000 in
theorem cfl_X4_121 : Cond.fieldLink RX4 121 ((cw_tab 7).2.1 7).1 ((cw_tab 7).2.1 7).2.1 ((cw_tab 7).2.1 7).2.2.1 ∈ cw_bw := List.mem_of_getElem? (i := 189) rfl
set_option maxRecDepth 100000 in
theorem cfl_X4_124 : Cond.fieldLink RX4 124 ((cw_tab 4).2.1 1).1 ((cw_tab 4).2.1 1).2.1 ((cw_tab 4).2.1 1).2.2.1 ∈ cw_bw := List.mem_of_getElem? (i := 190) rfl
set_option maxRecDepth 100000 in
theorem cfl_X4_127 : Cond.fieldLink RX4 127 ((cw_tab 4).2.1 2).1 ((cw_tab 4).2.1 2).2.1 ((cw_tab 4).2.1 2).2.2.1 ∈ cw_bw := List.mem_of_getElem? (i := 191) rfl
set_option maxRecDepth 100000 in
theorem cfl_X4_130 : Cond.fieldLink RX4 130 ((cw_tab 4).2.1 4).1 ((cw_tab 4).2.1 4).2.1 ((cw_tab 4).2.1 4).2.2.1 ∈ cw_bw := List.mem_of_getElem? (i := 192) rfl
set_option maxRecDepth 100000 in
theorem cfl_X4_143 : Cond.fieldLink RX4 143 ((cw_tab 4).2.1 3).1 ((cw_tab 4).2.1 3).2.1 ((cw_tab 4).2.1 3).2.2.1 ∈ cw_bw := List.mem_of_getElem? (i := 193) rfl
set_option maxRecDepth 100000 in
theorem cfl_X4_152 : Cond.fieldLink RX4 152 ((cw_tab 2).2.1 0).1 ((cw_tab 2).2.1 0).2.1 ((cw_tab 2).2.1 0).2.2.1 ∈ cw_bw := List.mem_of_getElem? (i := 194) rfl
set_option maxRecDepth 100000 in
theorem cfl_X4_155 : Cond.fieldLink RX4 155 ((cw_tab 2).2.1 2).1 ((cw_tab 2).2.1 2).2.1 ((cw_tab 2).2.1 2).2.2.1 ∈ cw_bw := List.mem_of_getElem? (i := 195) rfl
set_option maxRecDepth 100000 in
theorem cfl_X4_160 : Cond.fieldLink RX4 160 ((cw_tab 2).2.1 1).1 ((cw_tab 2).2.1 1).2.1 ((cw_tab 2).2.1 1).2.2.1 ∈ cw_bw := List.mem_of_getElem? (i := 196) rfl
set_option maxRecDepth 100000 in
theorem cfl_X4_165 : Cond.fieldLink RX4 165 ((cw_tab 7).2.1 9).1 ((cw_tab 7).2.1 9).2.1 ((cw_tab 7).2.1 9).2.2.1 ∈ cw_bw := List.mem_of_getElem? (i := 197) rfl
set_option maxRecDepth 100000 in
theorem cfl_X4_168 : Cond.fieldLink RX4 168 ((cw_tab 7).2.1 10).1 ((cw_tab 7).2.1 10).2.1 ((cw_tab 7).2.1 10).2.2.1 ∈ cw_bw := List.mem_of_getElem? (i := 198) rfl
set_option maxRecDepth 100000 in
theorem cfl_X4_180 : Cond.fieldLink RX4 180 ((cw_tab 1).2.1 0).1 ((cw_tab 1).2.1 0).2.1 ((cw_tab 1).2.1 0).2.2.1 ∈ cw_bw := List.mem_of_getElem? (i := 199) rfl
set_option maxRecDepth 100000 in
theorem cfl_X4_188 : Cond.fieldLink RX4 188 ((cw_tab 1).2.1 5).1 ((cw_tab 1).2.1 5).2.1 ((cw_tab 1).2.1 5).2.2.1 ∈ cw_bw := List.mem_of_getElem? (i := 200) rfl
set_option maxRecDepth 100000 in
theorem cfl_X4_197 : Cond.fieldLink RX4 197 ((cw_tab 6).2.1 1).1 ((cw_tab 6).2.1 1).2.1 ((cw_tab 6).2.1 1).2.2.1 ∈ cw_bw := List.mem_of_getElem? (i := 201) rfl
set_option maxRecDepth 100000 in
theorem cfl_X5_9 : Cond.fieldLink RX5 9 ((cw_tab 6).2.1 2).1 ((cw_tab 6).2.1 2).2.1 ((cw_tab 6).2.1 2).2.2.1 ∈ cw_bw := List.mem_of_getElem? (i := 202) rfl
set_option maxRecDepth 100000 in
theorem cfl_X5_15 : Cond.fieldLink RX5 15 ((cw_tab 6).2.1 0).1 ((cw_tab 6).2.1 0).2.1 ((cw_tab 6).2.1 0).2.2.1 ∈ cw_bw := List.mem_of_getElem? (i := 203) rfl
set_option maxRecDepth 100000 in
theorem cfl_X5_19 : Cond.fieldLink RX5 19 ((cw_tab 6).2.1 1).1 ((cw_tab 6).2.1 1).2.1 ((cw_tab 6).2.1 1).2.2.1 ∈ cw_bw := List.mem_of_getElem? (i := 204) rfl
set_option maxRecDepth 100000 in
theorem cfl_X6_9 : Cond.fieldLink RX6 9 ((cw_tab 7).2.1 2).1 ((cw_tab 7).2.1 2).2.1 ((cw_tab 7).2.1 2).2.2.1 ∈ cw_bw := List.mem_of_getElem? (i := 205) rfl
set_option maxRecDepth 100000 in
theorem cfl_X6_15 : Cond.fieldLink RX6 15 ((cw_tab 7).2.1 3).1 ((cw_tab 7).2.1 3).2.1 ((cw_tab 7).2.1 3).2.2.1 ∈ cw_bw := List.mem_of_getElem? (i := 206) rfl
set_option maxRecDepth 100000 in
theorem cfl_X6_18 : Cond.fieldLink RX6 18 ((cw_tab 7).2.1 4).1 ((cw_tab 7).2.1 4).2.1 ((cw_tab 7).2.1 4).2.2.1 ∈ cw_bw := List.mem_of_getElem? (i := 207) rfl
set_option maxRecDepth 100000 in
theorem cfl_X6_21 : Cond.fieldLink RX6 21 ((cw_tab 7).2.1 5).1 ((cw_tab 7).2.1 5).2.1 ((cw_tab 7).2.1 5).2.2.1 ∈ cw_bw := List.mem_of_getElem? (i := 208) rfl
set_option maxRecDepth 100000 in
theorem cfl_X6_24 : Cond.fieldLink RX6 24 ((cw_tab 7).2.1 6).1 ((cw_tab 7).2.1 6).2.1 ((cw_tab 7).2.1 6).2.2.1 ∈ cw_bw := List.mem_of_getElem? (i := 209) rfl
set_option maxRecDepth 100000 in
theorem cfl_X6_28 : Cond.fieldLink RX6 28 ((cw_tab 7).2.1 7).1 ((cw_tab 7).2.1 7).2.1 ((cw_tab 7).2.1 7).2.2.1 ∈ cw_bw := List.mem_of_getElem? (i := 210) rfl
set_option maxRecDepth 100000 in
theorem cfl_X6_31 : Cond.fieldLink RX6 31 ((cw_tab 7).2.1 8).1 ((cw_tab 7).2.1 8).2.1 ((cw_tab 7).2.1 8).2.2.1 ∈ cw_bw := List.mem_of_getElem? (i := 211) rfl
set_option maxRecDepth 100000 in
theorem cfl_X6_35 : Cond.fieldLink RX6 35 ((cw_tab 7).2.1 9).1 ((cw_tab 7).2.1 9).2.1 ((cw_tab 7).2.1 9).2.2.1 ∈ cw_bw := List.mem_of_getElem? (i := 212) rfl
set_option maxRecDepth 100000 in
theorem cfl_X6_38 : Cond.fieldLink RX6 38 ((cw_tab 7).2.1 10).1 ((cw_tab 7).2.1 10).2.1 ((cw_tab 7).2.1 10).2.2.1 ∈ cw_bw := List.mem_of_getElem? (i := 213) rfl
set_option maxRecDepth 100000 in
theorem cfl_X6_41 : Cond.fieldLink RX6 41 ((cw_tab 7).2.1 0).1 ((cw_tab 7).2.1 0).2.1 ((cw_tab 7).2.1 0).2.2.1 ∈ cw_bw := List.mem_of_getElem? (i := 214) rfl
set_option maxRecDepth 100000 in
theorem cfl_X6_44 : Cond.fieldLink RX6 44 ((cw_tab 7).2.1 1).1 ((cw_tab 7).2.1 1).2.1 ((cw_tab 7).2.1 1).2.2.1 ∈ cw_bw := List.mem_of_getElem? (i := 215) rfl
set_option maxRecDepth 100000 in
theorem cfl_X7_9 : Cond.fieldLink RX7 9 ((cw_tab 8).2.1 5).1 ((cw_tab 8).2.1 5).2.1 ((cw_tab 8).2.1 5).2.2.1 ∈ cw_bw := List.mem_of_getElem? (i := 216) rfl
set_option maxRecDepth 100000 in
theorem cfl_X7_15 : Cond.fieldLink RX7 15 ((cw_tab 8).2.1 6).1 ((cw_tab 8).2.1 6).2.1 ((cw_tab 8).2.1 6).2.2.1 ∈ cw_bw := List.mem_of_getElem? (i := 217) rfl
set_option maxRecDepth 100000 in
theorem cfl_X7_18 : Cond.fieldLink RX7 18 ((cw_tab 8).2.1 7).1 ((cw_tab 8).2.1 7).2.1 ((cw_tab 8).2.1 7).2.2.1 ∈ cw_bw := List.mem_of_getElem? (i := 218) rfl
set_option maxRecDepth 100000 in
theorem cfl_X7_21 : Cond.fieldLink RX7 21 ((cw_tab 8).2.1 8).1 ((cw_tab 8).2.1 8).2.1 ((cw_tab 8).2.1 8).2.2.1 ∈ cw_bw := List.mem_of_getElem? (i := 219) rfl
set_option maxRecDepth 100000 in
theorem cfl_X7_24 : Cond.fieldLink RX7 24 ((cw_tab 8).2.1 9).1 ((cw_tab 8).2.1 9).2.1 ((cw_tab 8).2.1 9).2.2.1 ∈ cw_bw := List.mem_of_getElem? (i := 220) rfl
set_option maxRecDepth 100000 in
theorem cfl_X7_27 : Cond.fieldLink RX7 27 ((cw_tab 8).2.1 10).1 ((cw_tab 8).2.1 10).2.1 ((cw_tab 8).2.1 10).2.2.1 ∈ cw_bw := List.mem_of_getElem? (i := 221) rfl
set_option maxRecDepth 100000 in
theorem cfl_X7_30 : Cond.fieldLink RX7 30 ((cw_tab 8).2.1 0).1 ((cw_tab 8).2.1 0).2.1 ((cw_tab 8).2.1 0).2.2.1 ∈ cw_bw := List.mem_of_getElem? (i := 222) rfl
set_option maxRecDepth 100000 in
theorem cfl_X7_34 : Cond.fieldLink RX7 34 ((cw_tab 8).2.1 1).1 ((cw_tab 8).2.1 1).2.1 ((cw_tab 8).2.1 1).2.2.1 ∈ cw_bw := List.mem_of_getElem? (i := 223) rfl
set_option maxRecDepth 100000 in
theorem cfl_X7_38 : Cond.fieldLink RX7 38 ((cw_tab 8).2.1 2).1 ((cw_tab 8).2.1 2).2.1 ((cw_tab 8).2.1 2).2.2.1 ∈ cw_bw := List.mem_of_getElem? (i := 224) rfl
set_option maxRecDepth 100000 in
theorem cfl_X7_42 : Cond.fieldLink RX7 42 ((cw_tab 8).2.1 3).1 ((cw_tab 8).2.1 3).2.1 ((cw_tab 8).2.1 3).2.2.1 ∈ cw_bw := List.mem_of_getElem? (i := 225) rfl
set_option maxRecDepth 100000 in
theorem cfl_X7_45 : Cond.fieldLink RX7 45 ((cw_tab 8).2.1 4).1 ((cw_tab 8).2.1 4).2.1 ((cw_tab 8).2.1 4).2.2.1 ∈ cw_bw := List.mem_of_getElem? (i := 226) rfl
set_option maxRecDepth 100000 in
theorem cfl_X7_131 : Cond.fieldLink RX7 131 ((cw_tab 7).2.1 2).1 ((cw_tab 7).2.1 2).2.1 ((cw_tab 7).2.1 2).2.2.1 ∈ cw_bw := List.mem_of_getElem? (i := 227) rfl
set_option maxRecDepth 100000 in
theorem cfl_X7_134 : Cond.fieldLink RX7 134 ((cw_tab 7).2.1 3).1 ((cw_tab 7).2.1 3).2.1 ((cw_tab 7).2.1 3).2.2.1 ∈ cw_bw := List.mem_of_getElem? (i := 228) rfl
set_option maxRecDepth 100000 in
theorem cfl_X7_137 : Cond.fieldLink RX7 137 ((cw_tab 7).2.1 4).1 ((cw_tab 7).2.1 4).2.1 ((cw_tab 7).2.1 4).2.2.1 ∈ cw_bw := List.mem_of_getElem? (i := 229) rfl
set_option maxRecDepth 100000 in
theorem cfl_X7_140 : Cond.fieldLink RX7 140 ((cw_tab 7).2.1 5).1 ((cw_tab 7).2.1 5).2.1 ((cw_tab 7).2.1 5).2.2.1 ∈ cw_bw := List.mem_of_getElem? (i := 230) rfl
set_option maxRecDepth 100000 in
theorem cfl_X8_7 : Cond.fieldLink RX8 7 ((cw_tab 9).2.1 0).1 ((cw_tab 9).2.1 0).2.1 ((cw_tab 9).2.1 0).2.2.1 ∈ cw_bw := List.mem_of_getElem? (i := 231) rfl
set_option maxRecDepth 100000 in
theorem cfl_X8_13 : Cond.fieldLink RX8 13 ((cw_tab 9).2.1 1).1 ((cw_tab 9).2.1 1).2.1 ((cw_tab 9).2.1 1).2.2.1 ∈ cw_bw := List.mem_of_getElem? (i := 232) rfl
set_option maxRecDepth 100000 in
theorem cfl_X8_16 : Cond.fieldLink RX8 16 ((cw_tab 9).2.1 2).1 ((cw_tab 9).2.1 2).2.1 ((cw_tab 9).2.1 2).2.2.1 ∈ cw_bw := List.mem_of_getElem? (i := 233) rfl
set_option maxRecDepth 100000 in
theorem cfl_X8_20 : Cond.fieldLink RX8 20 ((cw_tab 9).2.1 4).1 ((cw_tab 9).2.1 4).2.1 ((cw_tab 9).2.1 4).2.2.1 ∈ cw_bw := List.mem_of_getElem? (i := 234) rfl
set_option maxRecDepth 100000 in
theorem cfl_X8_28 : Cond.fieldLink RX8 28 ((cw_tab 7).2.1 0).1 ((cw_tab 7).2.1 0).2.1 ((cw_tab 7).2.1 0).2.2.1 ∈ cw_bw := List.mem_of_getElem? (i := 235) rfl
set_option maxRecDepth 100000 in
theorem cfl_X8_35 : Cond.fieldLink RX8 35 ((cw_tab 7).2.1 1).1 ((cw_tab 7).2.1 1).2.1 ((cw_tab 7).2.1 1).2.2.1 ∈ cw_bw := List.mem_of_getElem? (i := 236) rfl
set_option maxRecDepth 100000 in
theorem cfl_X8_38 : Cond.fieldLink RX8 38 ((cw_tab 7).2.1 6).1 ((cw_tab 7).2.1 6).2.1 ((cw_tab 7).2.1 6).2.2.1 ∈ cw_bw := List.mem_of_getElem? (i := 237) rfl
set_option maxRecDepth 100000 in
theorem cfl_X8_44 : Cond.fieldLink RX8 44 ((cw_tab 9).2.1 3).1 ((cw_tab 9).2.1 3).2.1 ((cw_tab 9).2.1 3).2.2.1 ∈ cw_bw := List.mem_of_getElem? (i := 238) rfl
set_option maxRecDepth 100000 in
theorem cfl_X9_7 : Cond.fieldLink RX9 7 ((cw_tab 10).2.1 0).1 ((cw_tab 10).2.1 0).2.1 ((cw_tab 10).2.1 0).2.2.1 ∈ cw_bw := List.mem_of_getElem? (i := 239) rfl
set_option maxRecDepth 100000 in
theorem cfl_X9_13 : Cond.fieldLink RX9 13 ((cw_tab 10).2.1 1).1 ((cw_tab 10).2.1 1).2.1 ((cw_tab 10).2.1 1).2.2.1 ∈ cw_bw := List.mem_of_getElem? (i := 240) rfl
set_option maxRecDepth 100000 in
theorem cfl_X9_16 : Cond.fieldLink RX9 16 ((cw_tab 10).2.1 2).1 ((cw_tab 10).2.1 2).2.1 ((cw_tab 10).2.1 2).2.2.1 ∈ cw_bw := List.mem_of_getElem? (i := 241) rfl
set_option maxRecDepth 100000 in
theorem cfl_X9_20 : Cond.fieldLink RX9 20 ((cw_tab 10).2.1 3).1 ((cw_tab 10).2.1 3).2.1 ((cw_tab 10).2.1 3).2.2.1 ∈ cw_bw := List.mem_of_getElem? (i := 242) rfl
set_option maxRecDepth 100000 in
theorem cfl_X9_23 : Cond.fieldLink RX9 23 ((cw_tab 10).2.1 4).1 ((cw_tab 10).2.1 4).2.1 ((cw_tab 10).2.1 4).2.2.1 ∈ cw_bw := List.mem_of_getElem? (i := 243) rfl
set_option maxRecDepth 100000 in
theorem clc_J8_200 : Cond.constant RJ8 200 2147483639 ∈ cw_bw := List.mem_of_getElem? (i := 244) rfl
set_option maxRecDepth 100000 in
theorem clc_X4_83 : Cond.constant RX4 83 60000 ∈ cw_bw := List.mem_of_getElem? (i := 245) rfl
set_option maxRecDepth 100000 in
theorem clc_X4_102 : Cond.constant RX4 102 1000000 ∈ cw_bw := List.mem_of_getElem? (i := 246) rfl
set_option maxRecDepth 100000 in
theorem cml_J15_105 : Cond.methodLink RJ15 105 yJ3_checkIndex_8e157 ∈ cw_bw := List.mem_of_getElem? (i := 247) rfl
set_option maxRecDepth 100000 in
theorem cml_J7_300 : Cond.methodLink RJ7 300 yJ7_copyOf_6403c ∈ cw_bw := List.mem_of_getElem? (i := 248) rfl
set_option maxRecDepth 100000 in
theorem cml_J8_201 : Cond.methodLink RJ8 201 yJ8_hugeLength_7cf53 ∈ cw_bw := List.mem_of_getElem? (i := 249) rfl
set_option maxRecDepth 100000 in
theorem cml_Jx4a65c_1 : Cond.methodLink RJx4a65c 1 yJxc12de_init_da8c8 ∈ cw_bw := List.mem_of_getElem? (i := 250) rfl
set_option maxRecDepth 100000 in
theorem cml_Jx4a65c_66 : Cond.methodLink RJx4a65c 66 yJ7_copyOf_1904c ∈ cw_bw := List.mem_of_getElem? (i := 251) rfl
set_option maxRecDepth 100000 in
theorem cml_Jx4a65c_69 : Cond.methodLink RJx4a65c 69 yJx4a65c_grow_92f84 ∈ cw_bw := List.mem_of_getElem? (i := 252) rfl
set_option maxRecDepth 100000 in
theorem cml_Jx4a65c_73 : Cond.methodLink RJx4a65c 73 yJ8_newLength_cabcc ∈ cw_bw := List.mem_of_getElem? (i := 253) rfl
set_option maxRecDepth 100000 in
theorem cml_Jx4a65c_118 : Cond.methodLink RJx4a65c 118 yJ15_checkIndex_7cf53 ∈ cw_bw := List.mem_of_getElem? (i := 254) rfl
set_option maxRecDepth 100000 in
theorem cml_Jx4a65c_123 : Cond.methodLink RJx4a65c 123 yJx4a65c_elementData_915e3 ∈ cw_bw := List.mem_of_getElem? (i := 255) rfl
set_option maxRecDepth 100000 in
theorem cml_Jx4a65c_129 : Cond.methodLink RJx4a65c 129 yJx4a65c_grow_d5877 ∈ cw_bw := List.mem_of_getElem? (i := 256) rfl
set_option maxRecDepth 100000 in
theorem cml_Jx4a65c_131 : Cond.methodLink RJx4a65c 131 yJx4a65c_add_72be8 ∈ cw_bw := List.mem_of_getElem? (i := 257) rfl
set_option maxRecDepth 100000 in
theorem cml_Jxc12de_1 : Cond.methodLink RJxc12de 1 yJxa1e45_init_da8c8 ∈ cw_bw := List.mem_of_getElem? (i := 258) rfl
set_option maxRecDepth 100000 in
theorem cml_X0_13 : Cond.methodLink RX0 13 yX5_init ∈ cw_bw := List.mem_of_getElem? (i := 259) rfl
set_option maxRecDepth 100000 in
theorem cml_X0_55 : Cond.methodLink RX0 55 yX0_clear ∈ cw_bw := List.mem_of_getElem? (i := 260) rfl
set_option maxRecDepth 100000 in
theorem cml_X0_62 : Cond.methodLink RX0 62 yX5_add ∈ cw_bw := List.mem_of_getElem? (i := 261) rfl
set_option maxRecDepth 100000 in
theorem cml_X0_66 : Cond.methodLink RX0 66 yX0_setAxiom ∈ cw_bw := List.mem_of_getElem? (i := 262) rfl
set_option maxRecDepth 100000 in
theorem cml_X0_70 : Cond.methodLink RX0 70 yX0_setRule ∈ cw_bw := List.mem_of_getElem? (i := 263) rfl
set_option maxRecDepth 100000 in
theorem cml_X0_77 : Cond.methodLink RX0 77 yX5_has ∈ cw_bw := List.mem_of_getElem? (i := 264) rfl
set_option maxRecDepth 100000 in
theorem cml_X0_81 : Cond.methodLink RX0 81 yX5_isFull ∈ cw_bw := List.mem_of_getElem? (i := 265) rfl
set_option maxRecDepth 100000 in
theorem cml_X1_32 : Cond.methodLink RX1 32 yX3_init_ ∈ cw_bw := List.mem_of_getElem? (i := 266) rfl
set_option maxRecDepth 100000 in
theorem cml_X11_29 : Cond.methodLink RX11 29 yX4_init ∈ cw_bw := List.mem_of_getElem? (i := 269) rfl
set_option maxRecDepth 100000 in
theorem cml_X11_38 : Cond.methodLink RX11 38 yX7_init ∈ cw_bw := List.mem_of_getElem? (i := 270) rfl
set_option maxRecDepth 100000 in
theorem cml_X11_47 : Cond.methodLink RX11 47 yX2_init ∈ cw_bw := List.mem_of_getElem? (i := 271) rfl
set_option maxRecDepth 100000 in
theorem cml_X11_67 : Cond.methodLink RX11 67 yX0_loadCorner ∈ cw_bw := List.mem_of_getElem? (i := 272) rfl
set_option maxRecDepth 100000 in
theorem cml_X11_71 : Cond.methodLink RX11 71 yX11_feedFour ∈ cw_bw := List.mem_of_getElem? (i := 273) rfl
set_option maxRecDepth 100000 in
theorem cml_X11_77 : Cond.methodLink RX11 77 yX11_runText ∈ cw_bw := List.mem_of_getElem? (i := 274) rfl
set_option maxRecDepth 100000 in
theorem cml_X11_121 : Cond.methodLink RX11 121 yX5_has ∈ cw_bw := List.mem_of_getElem? (i := 275) rfl
set_option maxRecDepth 100000 in
theorem cml_X11_135 : Cond.methodLink RX11 135 yX5_signOf ∈ cw_bw := List.mem_of_getElem? (i := 276) rfl
set_option maxRecDepth 100000 in
theorem cml_X11_139 : Cond.methodLink RX11 139 yX0_axiomOf ∈ cw_bw := List.mem_of_getElem? (i := 277) rfl
set_option maxRecDepth 100000 in
theorem cml_X11_142 : Cond.methodLink RX11 142 yX0_ruleOf ∈ cw_bw := List.mem_of_getElem? (i := 278) rfl
set_option maxRecDepth 100000 in
theorem cml_X11_148 : Cond.methodLink RX11 148 yX11_tellTypeOf ∈ cw_bw := List.mem_of_getElem? (i := 279) rfl
set_option maxRecDepth 100000 in
theorem cml_X11_152 : Cond.methodLink RX11 152 yX11_compareNames ∈ cw_bw := List.mem_of_getElem? (i := 280) rfl
set_option maxRecDepth 100000 in
theorem cml_X11_161 : Cond.methodLink RX11 161 yX10_clear ∈ cw_bw := List.mem_of_getElem? (i := 281) rfl
set_option maxRecDepth 100000 in
theorem cml_X11_164 : Cond.methodLink RX11 164 yX7_readText ∈ cw_bw := List.mem_of_getElem? (i := 282) rfl
set_option maxRecDepth 100000 in
theorem cml_X11_179 : Cond.methodLink RX11 179 yX11_perform ∈ cw_bw := List.mem_of_getElem? (i := 283) rfl
set_option maxRecDepth 100000 in
theorem cml_X11_189 : Cond.methodLink RX11 189 yX4_begin ∈ cw_bw := List.mem_of_getElem? (i := 284) rfl
set_option maxRecDepth 100000 in
theorem cml_X11_192 : Cond.methodLink RX11 192 yX4_tellWhole ∈ cw_bw := List.mem_of_getElem? (i := 285) rfl
set_option maxRecDepth 100000 in
theorem cml_X11_198 : Cond.methodLink RX11 198 yX6_init ∈ cw_bw := List.mem_of_getElem? (i := 286) rfl
set_option maxRecDepth 100000 in
theorem cml_X11_201 : Cond.methodLink RX11 201 yX4_areSame ∈ cw_bw := List.mem_of_getElem? (i := 287) rfl
set_option maxRecDepth 100000 in
theorem cml_X11_211 : Cond.methodLink RX11 211 yX11_addSort ∈ cw_bw := List.mem_of_getElem? (i := 288) rfl
set_option maxRecDepth 100000 in
theorem cml_X11_214 : Cond.methodLink RX11 214 yX11_addAxiom ∈ cw_bw := List.mem_of_getElem? (i := 289) rfl
set_option maxRecDepth 100000 in
theorem cml_X11_217 : Cond.methodLink RX11 217 yX11_addRule ∈ cw_bw := List.mem_of_getElem? (i := 290) rfl
set_option maxRecDepth 100000 in
theorem cml_X11_220 : Cond.methodLink RX11 220 yX11_assume ∈ cw_bw := List.mem_of_getElem? (i := 291) rfl
set_option maxRecDepth 100000 in
theorem cml_X11_223 : Cond.methodLink RX11 223 yX11_define ∈ cw_bw := List.mem_of_getElem? (i := 292) rfl
set_option maxRecDepth 100000 in
theorem cml_X11_226 : Cond.methodLink RX11 226 yX11_check ∈ cw_bw := List.mem_of_getElem? (i := 293) rfl
set_option maxRecDepth 100000 in
theorem cml_X11_233 : Cond.methodLink RX11 233 yX2_typeOf ∈ cw_bw := List.mem_of_getElem? (i := 294) rfl
set_option maxRecDepth 100000 in
theorem cml_X11_237 : Cond.methodLink RX11 237 yX4_put ∈ cw_bw := List.mem_of_getElem? (i := 295) rfl
set_option maxRecDepth 100000 in
theorem cml_X11_240 : Cond.methodLink RX11 240 yX4_tellHead ∈ cw_bw := List.mem_of_getElem? (i := 296) rfl
set_option maxRecDepth 100000 in
theorem cml_X11_243 : Cond.methodLink RX11 243 yX11_answerSame ∈ cw_bw := List.mem_of_getElem? (i := 297) rfl
set_option maxRecDepth 100000 in
theorem cml_X11_246 : Cond.methodLink RX11 246 yX11_refuseBesideNames ∈ cw_bw := List.mem_of_getElem? (i := 298) rfl
set_option maxRecDepth 100000 in
theorem cml_X11_252 : Cond.methodLink RX11 252 yX11_sortNumber ∈ cw_bw := List.mem_of_getElem? (i := 299) rfl
set_option maxRecDepth 100000 in
theorem cml_X11_256 : Cond.methodLink RX11 256 yX10_set ∈ cw_bw := List.mem_of_getElem? (i := 300) rfl
set_option maxRecDepth 100000 in
theorem cml_X11_259 : Cond.methodLink RX11 259 yX5_isFull ∈ cw_bw := List.mem_of_getElem? (i := 301) rfl
set_option maxRecDepth 100000 in
theorem cml_X11_269 : Cond.methodLink RX11 269 yX5_add ∈ cw_bw := List.mem_of_getElem? (i := 302) rfl
set_option maxRecDepth 100000 in
theorem cml_X11_273 : Cond.methodLink RX11 273 yX11_neededSort ∈ cw_bw := List.mem_of_getElem? (i := 303) rfl
set_option maxRecDepth 100000 in
theorem cml_X11_276 : Cond.methodLink RX11 276 yX0_setAxiom ∈ cw_bw := List.mem_of_getElem? (i := 304) rfl
set_option maxRecDepth 100000 in
theorem cml_X11_282 : Cond.methodLink RX11 282 yX0_setRule ∈ cw_bw := List.mem_of_getElem? (i := 305) rfl
set_option maxRecDepth 100000 in
theorem cml_X11_286 : Cond.methodLink RX11 286 yX5_find ∈ cw_bw := List.mem_of_getElem? (i := 306) rfl
set_option maxRecDepth 100000 in
theorem cml_X11_290 : Cond.methodLink RX11 290 yX11_needNewName ∈ cw_bw := List.mem_of_getElem? (i := 307) rfl
set_option maxRecDepth 100000 in
theorem cml_X11_293 : Cond.methodLink RX11 293 yX2_sortAsType ∈ cw_bw := List.mem_of_getElem? (i := 308) rfl
set_option maxRecDepth 100000 in
theorem cml_X11_296 : Cond.methodLink RX11 296 yX4_normalForm ∈ cw_bw := List.mem_of_getElem? (i := 309) rfl
set_option maxRecDepth 100000 in
theorem cml_X11_300 : Cond.methodLink RX11 300 yX11_needSame ∈ cw_bw := List.mem_of_getElem? (i := 310) rfl
set_option maxRecDepth 100000 in
theorem cml_X11_304 : Cond.methodLink RX11 304 yX0_addName ∈ cw_bw := List.mem_of_getElem? (i := 311) rfl
set_option maxRecDepth 100000 in
theorem cml_X11_311 : Cond.methodLink RX11 311 yX4_putAnswer ∈ cw_bw := List.mem_of_getElem? (i := 312) rfl
set_option maxRecDepth 100000 in
theorem cml_X2_31 : Cond.methodLink RX2 31 yX2_judge ∈ cw_bw := List.mem_of_getElem? (i := 313) rfl
set_option maxRecDepth 100000 in
theorem cml_X2_35 : Cond.methodLink RX2 35 yX2_neededSort ∈ cw_bw := List.mem_of_getElem? (i := 314) rfl
set_option maxRecDepth 100000 in
theorem cml_X2_45 : Cond.methodLink RX2 45 yX2_judgeName ∈ cw_bw := List.mem_of_getElem? (i := 315) rfl
set_option maxRecDepth 100000 in
theorem cml_X2_56 : Cond.methodLink RX2 56 yX8_init ∈ cw_bw := List.mem_of_getElem? (i := 316) rfl
set_option maxRecDepth 100000 in
theorem cml_X2_63 : Cond.methodLink RX2 63 yX2_needProduct ∈ cw_bw := List.mem_of_getElem? (i := 317) rfl
set_option maxRecDepth 100000 in
theorem cml_X2_67 : Cond.methodLink RX2 67 yX4_areSame ∈ cw_bw := List.mem_of_getElem? (i := 318) rfl
set_option maxRecDepth 100000 in
theorem cml_X2_76 : Cond.methodLink RX2 76 yX10_set ∈ cw_bw := List.mem_of_getElem? (i := 319) rfl
set_option maxRecDepth 100000 in
theorem cml_X2_93 : Cond.methodLink RX2 93 yX8_letsOf ∈ cw_bw := List.mem_of_getElem? (i := 320) rfl
set_option maxRecDepth 100000 in
theorem cml_X2_97 : Cond.methodLink RX2 97 yX3_init ∈ cw_bw := List.mem_of_getElem? (i := 321) rfl
set_option maxRecDepth 100000 in
theorem cml_X2_100 : Cond.methodLink RX2 100 yX4_normalForm ∈ cw_bw := List.mem_of_getElem? (i := 322) rfl
set_option maxRecDepth 100000 in
theorem cml_X2_104 : Cond.methodLink RX2 104 yX2_typeOfProduct ∈ cw_bw := List.mem_of_getElem? (i := 323) rfl
set_option maxRecDepth 100000 in
theorem cml_X2_108 : Cond.methodLink RX2 108 yX2_typeOfLambda ∈ cw_bw := List.mem_of_getElem? (i := 324) rfl
set_option maxRecDepth 100000 in
theorem cml_X2_115 : Cond.methodLink RX2 115 yX2_isNameOf ∈ cw_bw := List.mem_of_getElem? (i := 325) rfl
set_option maxRecDepth 100000 in
theorem cml_X2_121 : Cond.methodLink RX2 121 yX2_resolve ∈ cw_bw := List.mem_of_getElem? (i := 326) rfl
set_option maxRecDepth 100000 in
theorem cml_X2_144 : Cond.methodLink RX2 144 yX5_find ∈ cw_bw := List.mem_of_getElem? (i := 327) rfl
set_option maxRecDepth 100000 in
theorem cml_X2_163 : Cond.methodLink RX2 163 yX0_axiomOf ∈ cw_bw := List.mem_of_getElem? (i := 328) rfl
set_option maxRecDepth 100000 in
theorem cml_X2_167 : Cond.methodLink RX2 167 yX6_init ∈ cw_bw := List.mem_of_getElem? (i := 329) rfl
set_option maxRecDepth 100000 in
theorem cml_X2_169 : Cond.methodLink RX2 169 yX5_agree ∈ cw_bw := List.mem_of_getElem? (i := 330) rfl
set_option maxRecDepth 100000 in
theorem cml_X2_173 : Cond.methodLink RX2 173 yX2_neededRule ∈ cw_bw := List.mem_of_getElem? (i := 331) rfl
set_option maxRecDepth 100000 in
theorem cml_X2_177 : Cond.methodLink RX2 177 yX6_keepSorts ∈ cw_bw := List.mem_of_getElem? (i := 332) rfl
set_option maxRecDepth 100000 in
theorem cml_X2_180 : Cond.methodLink RX2 180 yX6_binder ∈ cw_bw := List.mem_of_getElem? (i := 333) rfl
set_option maxRecDepth 100000 in
theorem cml_X2_183 : Cond.methodLink RX2 183 yX0_ruleOf ∈ cw_bw := List.mem_of_getElem? (i := 334) rfl
set_option maxRecDepth 100000 in
theorem cml_X4_40 : Cond.methodLink RX4 40 yX4_compare ∈ cw_bw := List.mem_of_getElem? (i := 335) rfl
set_option maxRecDepth 100000 in
theorem cml_X4_44 : Cond.methodLink RX4 44 yX4_tell ∈ cw_bw := List.mem_of_getElem? (i := 336) rfl
set_option maxRecDepth 100000 in
theorem cml_X4_48 : Cond.methodLink RX4 48 yX4_normalize ∈ cw_bw := List.mem_of_getElem? (i := 337) rfl
set_option maxRecDepth 100000 in
theorem cml_X4_52 : Cond.methodLink RX4 52 yX4_head ∈ cw_bw := List.mem_of_getElem? (i := 338) rfl
set_option maxRecDepth 100000 in
theorem cml_X4_56 : Cond.methodLink RX4 56 yX4_putFront ∈ cw_bw := List.mem_of_getElem? (i := 339) rfl
set_option maxRecDepth 100000 in
theorem cml_X4_60 : Cond.methodLink RX4 60 yX4_put ∈ cw_bw := List.mem_of_getElem? (i := 340) rfl
set_option maxRecDepth 100000 in
theorem cml_X4_64 : Cond.methodLink RX4 64 yX1_isBinder ∈ cw_bw := List.mem_of_getElem? (i := 341) rfl
set_option maxRecDepth 100000 in
theorem cml_X4_74 : Cond.methodLink RX4 74 yX3_lengthOf ∈ cw_bw := List.mem_of_getElem? (i := 342) rfl
set_option maxRecDepth 100000 in
theorem cml_X4_80 : Cond.methodLink RX4 80 yX4_putNumber ∈ cw_bw := List.mem_of_getElem? (i := 343) rfl
set_option maxRecDepth 100000 in
theorem cml_X4_95 : Cond.methodLink RX4 95 yX4_spend ∈ cw_bw := List.mem_of_getElem? (i := 344) rfl
set_option maxRecDepth 100000 in
theorem cml_X4_98 : Cond.methodLink RX4 98 yX10_set ∈ cw_bw := List.mem_of_getElem? (i := 345) rfl
set_option maxRecDepth 100000 in
theorem cml_X4_111 : Cond.methodLink RX4 111 yX3_init ∈ cw_bw := List.mem_of_getElem? (i := 346) rfl
set_option maxRecDepth 100000 in
theorem cml_X4_133 : Cond.methodLink RX4 133 yX0_valueOf ∈ cw_bw := List.mem_of_getElem? (i := 347) rfl
set_option maxRecDepth 100000 in
theorem cml_X4_139 : Cond.methodLink RX4 139 yX3_find ∈ cw_bw := List.mem_of_getElem? (i := 348) rfl
set_option maxRecDepth 100000 in
theorem cml_X4_146 : Cond.methodLink RX4 146 yX1_init ∈ cw_bw := List.mem_of_getElem? (i := 349) rfl
set_option maxRecDepth 100000 in
theorem cml_X4_149 : Cond.methodLink RX4 149 yX4_look ∈ cw_bw := List.mem_of_getElem? (i := 350) rfl
set_option maxRecDepth 100000 in
theorem cml_X4_156 : Cond.methodLink RX4 156 yX1_envOfSecond ∈ cw_bw := List.mem_of_getElem? (i := 351) rfl
set_option maxRecDepth 100000 in
theorem cml_X4_161 : Cond.methodLink RX4 161 yX6_binder ∈ cw_bw := List.mem_of_getElem? (i := 352) rfl
set_option maxRecDepth 100000 in
theorem cml_X4_171 : Cond.methodLink RX4 171 yX6_keepSorts ∈ cw_bw := List.mem_of_getElem? (i := 353) rfl
set_option maxRecDepth 100000 in
theorem cml_X4_174 : Cond.methodLink RX4 174 yX6_init ∈ cw_bw := List.mem_of_getElem? (i := 354) rfl
set_option maxRecDepth 100000 in
theorem cml_X4_176 : Cond.methodLink RX4 176 yX6_use ∈ cw_bw := List.mem_of_getElem? (i := 355) rfl
set_option maxRecDepth 100000 in
theorem cml_X4_184 : Cond.methodLink RX4 184 yX4_putSigns ∈ cw_bw := List.mem_of_getElem? (i := 356) rfl
set_option maxRecDepth 100000 in
theorem cml_X4_191 : Cond.methodLink RX4 191 yX5_has ∈ cw_bw := List.mem_of_getElem? (i := 357) rfl
set_option maxRecDepth 100000 in
theorem cml_X4_200 : Cond.methodLink RX4 200 yX5_signOf ∈ cw_bw := List.mem_of_getElem? (i := 358) rfl
set_option maxRecDepth 100000 in
theorem cml_X5_23 : Cond.methodLink RX5 23 yX5_agree ∈ cw_bw := List.mem_of_getElem? (i := 359) rfl
set_option maxRecDepth 100000 in
theorem cml_X5_27 : Cond.methodLink RX5 27 yX5_isFull ∈ cw_bw := List.mem_of_getElem? (i := 360) rfl
set_option maxRecDepth 100000 in
theorem cml_X6_47 : Cond.methodLink RX6 47 yX6_init ∈ cw_bw := List.mem_of_getElem? (i := 361) rfl
set_option maxRecDepth 100000 in
theorem cml_X7_54 : Cond.methodLink RX7 54 yX7_scan ∈ cw_bw := List.mem_of_getElem? (i := 362) rfl
set_option maxRecDepth 100000 in
theorem cml_X7_59 : Cond.methodLink RX7 59 yJx4a65c_init_da8c8 ∈ cw_bw := List.mem_of_getElem? (i := 363) rfl
set_option maxRecDepth 100000 in
theorem cml_X7_60 : Cond.methodLink RX7 60 yX7_advance ∈ cw_bw := List.mem_of_getElem? (i := 364) rfl
set_option maxRecDepth 100000 in
theorem cml_X7_63 : Cond.methodLink RX7 63 yX7_statement ∈ cw_bw := List.mem_of_getElem? (i := 365) rfl
set_option maxRecDepth 100000 in
theorem cml_X7_73 : Cond.methodLink RX7 73 yX7_expect ∈ cw_bw := List.mem_of_getElem? (i := 366) rfl
set_option maxRecDepth 100000 in
theorem cml_X7_77 : Cond.methodLink RX7 77 yX7_nameStatement ∈ cw_bw := List.mem_of_getElem? (i := 367) rfl
set_option maxRecDepth 100000 in
theorem cml_X7_83 : Cond.methodLink RX7 83 yX7_refuse ∈ cw_bw := List.mem_of_getElem? (i := 368) rfl
set_option maxRecDepth 100000 in
theorem cml_X7_86 : Cond.methodLink RX7 86 yX7_takeName ∈ cw_bw := List.mem_of_getElem? (i := 369) rfl
set_option maxRecDepth 100000 in
theorem cml_X7_90 : Cond.methodLink RX7 90 yX9_init ∈ cw_bw := List.mem_of_getElem? (i := 370) rfl
set_option maxRecDepth 100000 in
theorem cml_X7_93 : Cond.methodLink RX7 93 yX7_axiom ∈ cw_bw := List.mem_of_getElem? (i := 371) rfl
set_option maxRecDepth 100000 in
theorem cml_X7_96 : Cond.methodLink RX7 96 yX7_sameStatement ∈ cw_bw := List.mem_of_getElem? (i := 372) rfl
set_option maxRecDepth 100000 in
theorem cml_X7_99 : Cond.methodLink RX7 99 yX7_termStatement ∈ cw_bw := List.mem_of_getElem? (i := 373) rfl
set_option maxRecDepth 100000 in
theorem cml_X7_103 : Cond.methodLink RX7 103 yX7_term ∈ cw_bw := List.mem_of_getElem? (i := 374) rfl
set_option maxRecDepth 100000 in
theorem cml_X7_107 : Cond.methodLink RX7 107 yX10_set ∈ cw_bw := List.mem_of_getElem? (i := 375) rfl
set_option maxRecDepth 100000 in
theorem cml_X7_116 : Cond.methodLink RX7 116 yX7_binder ∈ cw_bw := List.mem_of_getElem? (i := 376) rfl
set_option maxRecDepth 100000 in
theorem cml_X7_119 : Cond.methodLink RX7 119 yX7_use ∈ cw_bw := List.mem_of_getElem? (i := 377) rfl
set_option maxRecDepth 100000 in
theorem cml_X7_124 : Cond.methodLink RX7 124 yX7_newId ∈ cw_bw := List.mem_of_getElem? (i := 378) rfl
set_option maxRecDepth 100000 in
theorem cml_X7_128 : Cond.methodLink RX7 128 yX6_binder ∈ cw_bw := List.mem_of_getElem? (i := 379) rfl
set_option maxRecDepth 100000 in
theorem cml_X7_143 : Cond.methodLink RX7 143 yX7_atom ∈ cw_bw := List.mem_of_getElem? (i := 380) rfl
set_option maxRecDepth 100000 in
theorem cml_X7_146 : Cond.methodLink RX7 146 yX7_atomBegins ∈ cw_bw := List.mem_of_getElem? (i := 381) rfl
set_option maxRecDepth 100000 in
theorem cml_X7_157 : Cond.methodLink RX7 157 yX6_use ∈ cw_bw := List.mem_of_getElem? (i := 382) rfl
set_option maxRecDepth 100000 in
theorem cml_X7_160 : Cond.methodLink RX7 160 yX6_named ∈ cw_bw := List.mem_of_getElem? (i := 383) rfl
set_option maxRecDepth 100000 in
theorem cml_X7_164 : Cond.methodLink RX7 164 yX7_behindBlanks ∈ cw_bw := List.mem_of_getElem? (i := 384) rfl
set_option maxRecDepth 100000 in
theorem cml_X7_168 : Cond.methodLink RX7 168 yX7_isLetter ∈ cw_bw := List.mem_of_getElem? (i := 385) rfl
set_option maxRecDepth 100000 in
theorem cml_X7_172 : Cond.methodLink RX7 172 yX7_nameToken ∈ cw_bw := List.mem_of_getElem? (i := 386) rfl
set_option maxRecDepth 100000 in
theorem cml_X7_175 : Cond.methodLink RX7 175 yX7_signToken ∈ cw_bw := List.mem_of_getElem? (i := 387) rfl
set_option maxRecDepth 100000 in
theorem cml_X7_178 : Cond.methodLink RX7 178 yX7_closeOf ∈ cw_bw := List.mem_of_getElem? (i := 388) rfl
set_option maxRecDepth 100000 in
theorem cml_X7_181 : Cond.methodLink RX7 181 yX7_isNameSign ∈ cw_bw := List.mem_of_getElem? (i := 389) rfl
set_option maxRecDepth 100000 in
theorem cml_X7_184 : Cond.methodLink RX7 184 yX7_wordNumber ∈ cw_bw := List.mem_of_getElem? (i := 390) rfl
set_option maxRecDepth 100000 in
theorem cml_X7_189 : Cond.methodLink RX7 189 yX7_isWord ∈ cw_bw := List.mem_of_getElem? (i := 391) rfl
set_option maxRecDepth 100000 in
theorem cml_X8_24 : Cond.methodLink RX8 24 yX8_letsOf ∈ cw_bw := List.mem_of_getElem? (i := 392) rfl
set_option maxRecDepth 100000 in
theorem cml_X8_41 : Cond.methodLink RX8 41 yX3_init ∈ cw_bw := List.mem_of_getElem? (i := 393) rfl
set_option maxRecDepth 100000 in
theorem cst_yJ15_checkIndex_7cf53 : Cond.static yJ15_checkIndex_7cf53 ∈ cw_bw := List.mem_of_getElem? (i := 394) rfl
set_option maxRecDepth 100000 in
theorem cgo_yJ15_checkIndex_7cf53 : GoodIn cw_bw [Cond.code yJ15_checkIndex_7cf53 cJ15_checkIndex_7cf53 2 (some .int), Cond.initialized yJ15_checkIndex_7cf53.cls] := cw_gr _ [395, 396] rfl (by decide +kernel)
set_option maxRecDepth 100000 in
theorem cst_yJ3_checkIndex_8e157 : Cond.static yJ3_checkIndex_8e157 ∈ cw_bw := List.mem_of_getElem? (i := 397) rfl
set_option maxRecDepth 100000 in
theorem cgo_yJ3_checkIndex_8e157 : GoodIn cw_bw [Cond.code yJ3_checkIndex_8e157 cJ3_checkIndex_8e157 3 (some .int), Cond.initialized yJ3_checkIndex_8e157.cls] := cw_gr _ [398, 399] rfl (by decide +kernel)
set_option maxRecDepth 100000 in
theorem cst_yJ7_copyOf_1904c : Cond.static yJ7_copyOf_1904c ∈ cw_bw := List.mem_of_getElem? (i := 400) rfl
set_option maxRecDepth 100000 in
theorem cgo_yJ7_copyOf_1904c : GoodIn cw_bw [Cond.code yJ7_copyOf_1904c cJ7_copyOf_1904c 2 (some (.array (.object "java/lang/Object"))), Cond.initialized yJ7_copyOf_1904c.cls] := cw_gr _ [401, 402] rfl (by decide +kernel)
set_option maxRecDepth 100000 in
theorem cst_yJ7_copyOf_6403c : Cond.static yJ7_copyOf_6403c ∈ cw_bw := List.mem_of_getElem? (i := 403) rfl
set_option maxRecDepth 100000 in
theorem cgo_yJ7_copyOf_6403c : GoodIn cw_bw [Cond.code yJ7_copyOf_6403c cJ7_copyOf_6403c 4 (some (.array (.object "java/lang/Object"))), Cond.initialized yJ7_copyOf_6403c.cls] := cw_gr _ [404, 402] rfl (by decide +kernel)
set_option maxRecDepth 100000 in
theorem cst_yJ8_hugeLength_7cf53 : Cond.static yJ8_hugeLength_7cf53 ∈ cw_bw := List.mem_of_getElem? (i := 405) rfl
set_option maxRecDepth 100000 in
theorem cgo_yJ8_hugeLength_7cf53 : GoodIn cw_bw [Cond.code yJ8_hugeLength_7cf53 cJ8_hugeLength_7cf53 3 (some .int), Cond.initialized yJ8_hugeLength_7cf53.cls] := cw_gr _ [406, 407] rfl (by decide +kernel)
set_option maxRecDepth 100000 in
theorem cst_yJ8_newLength_cabcc : Cond.static yJ8_newLength_cabcc ∈ cw_bw := List.mem_of_getElem? (i := 408) rfl
set_option maxRecDepth 100000 in
theorem cgo_yJ8_newLength_cabcc : GoodIn cw_bw [Cond.code yJ8_newLength_cabcc cJ8_newLength_cabcc 4 (some .int), Cond.initialized yJ8_newLength_cabcc.cls] := cw_gr _ [409, 407] rfl (by decide +kernel)
set_option maxRecDepth 100000 in
theorem cin_yJx4a65c_add_72be8 : Cond.instanceMethod yJx4a65c_add_72be8 ∈ cw_bw := List.mem_of_getElem? (i := 410) rfl
set_option maxRecDepth 100000 in
theorem cse_yJx4a65c_add_72be8 : Cond.selects (cw_tab 13).1 yJx4a65c_add_72be8 yJx4a65c_add_72be8 ∈ cw_bw := List.mem_of_getElem? (i := 411) rfl
set_option maxRecDepth 100000 in
theorem cgo_yJx4a65c_add_72be8 : GoodIn cw_bw [Cond.code yJx4a65c_add_72be8 cJx4a65c_add_72be8 4 none, Cond.initialized yJx4a65c_add_72be8.cls] := cw_gr _ [412, 413] rfl (by decide +kernel)
set_option maxRecDepth 100000 in
theorem cin_yJx4a65c_add_9ea2d : Cond.instanceMethod yJx4a65c_add_9ea2d ∈ cw_bw := List.mem_of_getElem? (i := 414) rfl
set_option maxRecDepth 100000 in
theorem cgo_yJx4a65c_add_9ea2d : GoodIn cw_bw [Cond.code yJx4a65c_add_9ea2d cJx4a65c_add_9ea2d 2 (some .boolean), Cond.initialized yJx4a65c_add_9ea2d.cls] := cw_gr _ [416, 413] rfl (by decide +kernel)
set_option maxRecDepth 100000 in
theorem cin_yJx4a65c_elementData_915e3 : Cond.instanceMethod yJx4a65c_elementData_915e3 ∈ cw_bw := List.mem_of_getElem? (i := 417) rfl
set_option maxRecDepth 100000 in
theorem cse_yJx4a65c_elementData_915e3 : Cond.selects (cw_tab 13).1 yJx4a65c_elementData_915e3 yJx4a65c_elementData_915e3 ∈ cw_bw := List.mem_of_getElem? (i := 418) rfl
set_option maxRecDepth 100000 in
theorem cgo_yJx4a65c_elementData_915e3 : GoodIn cw_bw [Cond.code yJx4a65c_elementData_915e3 cJx4a65c_elementData_915e3 2 (some (.object "java/lang/Object")), Cond.initialized yJx4a65c_elementData_915e3.cls] := cw_gr _ [419, 413] rfl (by decide +kernel)
set_option maxRecDepth 100000 in
theorem cin_yJx4a65c_get_915e3 : Cond.instanceMethod yJx4a65c_get_915e3 ∈ cw_bw := List.mem_of_getElem? (i := 420) rfl
set_option maxRecDepth 100000 in
theorem cgo_yJx4a65c_get_915e3 : GoodIn cw_bw [Cond.code yJx4a65c_get_915e3 cJx4a65c_get_915e3 2 (some (.object "java/lang/Object")), Cond.initialized yJx4a65c_get_915e3.cls] := cw_gr _ [422, 413] rfl (by decide +kernel)
set_option maxRecDepth 100000 in
theorem cin_yJx4a65c_grow_92f84 : Cond.instanceMethod yJx4a65c_grow_92f84 ∈ cw_bw := List.mem_of_getElem? (i := 423) rfl
set_option maxRecDepth 100000 in
theorem cse_yJx4a65c_grow_92f84 : Cond.selects (cw_tab 13).1 yJx4a65c_grow_92f84 yJx4a65c_grow_92f84 ∈ cw_bw := List.mem_of_getElem? (i := 424) rfl
set_option maxRecDepth 100000 in
theorem cgo_yJx4a65c_grow_92f84 : GoodIn cw_bw [Cond.code yJx4a65c_grow_92f84 cJx4a65c_grow_92f84 4 (some (.array (.object "java/lang/Object"))), Cond.initialized yJx4a65c_grow_92f84.cls] := cw_gr _ [425, 413] rfl (by decide +kernel)
set_option maxRecDepth 100000 in
theorem cin_yJx4a65c_grow_d5877 : Cond.instanceMethod yJx4a65c_grow_d5877 ∈ cw_bw := List.mem_of_getElem? (i := 426) rfl
set_option maxRecDepth 100000 in
theorem cse_yJx4a65c_grow_d5877 : Cond.selects (cw_tab 13).1 yJx4a65c_grow_d5877 yJx4a65c_grow_d5877 ∈ cw_bw := List.mem_of_getElem? (i := 427) rfl
set_option maxRecDepth 100000 in
theorem cgo_yJx4a65c_grow_d5877 : GoodIn cw_bw [Cond.code yJx4a65c_grow_d5877 cJx4a65c_grow_d5877 1 (some (.array (.object "java/lang/Object"))), Cond.initialized yJx4a65c_grow_d5877.cls] := cw_gr _ [428, 413] rfl (by decide +kernel)
set_option maxRecDepth 100000 in
theorem cin_yJx4a65c_init_da8c8 : Cond.instanceMethod yJx4a65c_init_da8c8 ∈ cw_bw := List.mem_of_getElem? (i := 429) rfl
set_option maxRecDepth 100000 in
theorem cgo_yJx4a65c_init_da8c8 : GoodIn cw_bw [Cond.code yJx4a65c_init_da8c8 cJx4a65c_init_da8c8 1 none, Cond.initialized yJx4a65c_init_da8c8.cls] := cw_gr _ [430, 413] rfl (by decide +kernel)
set_option maxRecDepth 100000 in
theorem cin_yJx4a65c_size_8abf5 : Cond.instanceMethod yJx4a65c_size_8abf5 ∈ cw_bw := List.mem_of_getElem? (i := 431) rfl
set_option maxRecDepth 100000 in
theorem cgo_yJx4a65c_size_8abf5 : GoodIn cw_bw [Cond.code yJx4a65c_size_8abf5 cJx4a65c_size_8abf5 1 (some .int), Cond.initialized yJx4a65c_size_8abf5.cls] := cw_gr _ [433, 413] rfl (by decide +kernel)
set_option maxRecDepth 100000 in
theorem cin_yJxa1e45_init_da8c8 : Cond.instanceMethod yJxa1e45_init_da8c8 ∈ cw_bw := List.mem_of_getElem? (i := 434) rfl
set_option maxRecDepth 100000 in
theorem cgo_yJxa1e45_init_da8c8 : GoodIn cw_bw [Cond.code yJxa1e45_init_da8c8 cJxa1e45_init_da8c8 1 none, Cond.initialized yJxa1e45_init_da8c8.cls] := cw_gr _ [435, 436] rfl (by decide +kernel)
set_option maxRecDepth 100000 in
theorem cin_yJxc12de_init_da8c8 : Cond.instanceMethod yJxc12de_init_da8c8 ∈ cw_bw := List.mem_of_getElem? (i := 437) rfl
set_option maxRecDepth 100000 in
theorem cgo_yJxc12de_init_da8c8 : GoodIn cw_bw [Cond.code yJxc12de_init_da8c8 cJxc12de_init_da8c8 1 none, Cond.initialized yJxc12de_init_da8c8.cls] := cw_gr _ [438, 439] rfl (by decide +kernel)
set_option maxRecDepth 100000 in
theorem cin_yX0_addName : Cond.instanceMethod yX0_addName ∈ cw_bw := List.mem_of_getElem? (i := 440) rfl
set_option maxRecDepth 100000 in
theorem cse_yX0_addName : Cond.selects (cw_tab 1).1 yX0_addName yX0_addName ∈ cw_bw := List.mem_of_getElem? (i := 441) rfl
set_option maxRecDepth 100000 in
theorem cgo_yX0_addName : GoodIn cw_bw [Cond.code yX0_addName cX0_addName 7 none, Cond.initialized yX0_addName.cls] := cw_gr _ [442, 443] rfl (by decide +kernel)
set_option maxRecDepth 100000 in
theorem cin_yX0_axiomOf : Cond.instanceMethod yX0_axiomOf ∈ cw_bw := List.mem_of_getElem? (i := 444) rfl
set_option maxRecDepth 100000 in
theorem cse_yX0_axiomOf : Cond.selects (cw_tab 1).1 yX0_axiomOf yX0_axiomOf ∈ cw_bw := List.mem_of_getElem? (i := 445) rfl
set_option maxRecDepth 100000 in
theorem cgo_yX0_axiomOf : GoodIn cw_bw [Cond.code yX0_axiomOf cX0_axiomOf 2 (some .int), Cond.initialized yX0_axiomOf.cls] := cw_gr _ [446, 443] rfl (by decide +kernel)
set_option maxRecDepth 100000 in
theorem cin_yX0_clear : Cond.instanceMethod yX0_clear ∈ cw_bw := List.mem_of_getElem? (i := 447) rfl
set_option maxRecDepth 100000 in
theorem cse_yX0_clear : Cond.selects (cw_tab 1).1 yX0_clear yX0_clear ∈ cw_bw := List.mem_of_getElem? (i := 448) rfl
set_option maxRecDepth 100000 in
theorem cgo_yX0_clear : GoodIn cw_bw [Cond.code yX0_clear cX0_clear 2 none, Cond.initialized yX0_clear.cls] := cw_gr _ [449, 443] rfl (by decide +kernel)
set_option maxRecDepth 100000 in
theorem cin_yX0_init : Cond.instanceMethod yX0_init ∈ cw_bw := List.mem_of_getElem? (i := 450) rfl
set_option maxRecDepth 100000 in
theorem cgo_yX0_init : GoodIn cw_bw [Cond.code yX0_init cX0_init 1 none, Cond.initialized yX0_init.cls] := cw_gr _ [451, 443] rfl (by decide +kernel)
set_option maxRecDepth 100000 in
theorem cin_yX0_loadCorner : Cond.instanceMethod yX0_loadCorner ∈ cw_bw := List.mem_of_getElem? (i := 452) rfl
set_option maxRecDepth 100000 in
theorem cse_yX0_loadCorner : Cond.selects (cw_tab 1).1 yX0_loadCorner yX0_loadCorner ∈ cw_bw := List.mem_of_getElem? (i := 453) rfl
set_option maxRecDepth 100000 in
theorem cgo_yX0_loadCorner : GoodIn cw_bw [Cond.code yX0_loadCorner cX0_loadCorner 2 none, Cond.initialized yX0_loadCorner.cls] := cw_gr _ [454, 443] rfl (by decide +kernel)
set_option maxRecDepth 100000 in
theorem cin_yX0_ruleOf : Cond.instanceMethod yX0_ruleOf ∈ cw_bw := List.mem_of_getElem? (i := 455) rfl
set_option maxRecDepth 100000 in
theorem cse_yX0_ruleOf : Cond.selects (cw_tab 1).1 yX0_ruleOf yX0_ruleOf ∈ cw_bw := List.mem_of_getElem? (i := 456) rfl
set_option maxRecDepth 100000 in
theorem cgo_yX0_ruleOf : GoodIn cw_bw [Cond.code yX0_ruleOf cX0_ruleOf 3 (some .int), Cond.initialized yX0_ruleOf.cls] := cw_gr _ [457, 443] rfl (by decide +kernel)
set_option maxRecDepth 100000 in
theorem cin_yX0_setAxiom : Cond.instanceMethod yX0_setAxiom ∈ cw_bw := List.mem_of_getElem? (i := 458) rfl
set_option maxRecDepth 100000 in
theorem cse_yX0_setAxiom : Cond.selects (cw_tab 1).1 yX0_setAxiom yX0_setAxiom ∈ cw_bw := List.mem_of_getElem? (i := 459) rfl
set_option maxRecDepth 100000 in
theorem cgo_yX0_setAxiom : GoodIn cw_bw [Cond.code yX0_setAxiom cX0_setAxiom 3 none, Cond.initialized yX0_setAxiom.cls] := cw_gr _ [460, 443] rfl (by decide +kernel)
set_option maxRecDepth 100000 in
theorem cin_yX0_setRule : Cond.instanceMethod yX0_setRule ∈ cw_bw := List.mem_of_getElem? (i := 461) rfl
set_option maxRecDepth 100000 in
theorem cse_yX0_setRule : Cond.selects (cw_tab 1).1 yX0_setRule yX0_setRule ∈ cw_bw := List.mem_of_getElem? (i := 462) rfl
set_option maxRecDepth 100000 in
theorem cgo_yX0_setRule : GoodIn cw_bw [Cond.code yX0_setRule cX0_setRule 4 none, Cond.initialized yX0_setRule.cls] := cw_gr _ [463, 443] rfl (by decide +kernel)
set_option maxRecDepth 100000 in
theorem cin_yX0_valueOf : Cond.instanceMethod yX0_valueOf ∈ cw_bw := List.mem_of_getElem? (i := 464) rfl
set_option maxRecDepth 100000 in
theorem cse_yX0_valueOf : Cond.selects (cw_tab 1).1 yX0_valueOf yX0_valueOf ∈ cw_bw := List.mem_of_getElem? (i := 465) rfl
set_option maxRecDepth 100000 in
theorem cgo_yX0_valueOf : GoodIn cw_bw [Cond.code yX0_valueOf cX0_valueOf 2 (some (.object "PureHouse$Node")), Cond.initialized yX0_valueOf.cls] := cw_gr _ [466, 443] rfl (by decide +kernel)
set_option maxRecDepth 100000 in
theorem cin_yX1_envOfSecond : Cond.instanceMethod yX1_envOfSecond ∈ cw_bw := List.mem_of_getElem? (i := 467) rfl
set_option maxRecDepth 100000 in
theorem cse_yX1_envOfSecond : Cond.selects (cw_tab 2).1 yX1_envOfSecond yX1_envOfSecond ∈ cw_bw := List.mem_of_getElem? (i := 468) rfl
set_option maxRecDepth 100000 in
theorem cgo_yX1_envOfSecond : GoodIn cw_bw [Cond.code yX1_envOfSecond cX1_envOfSecond 2 (some (.object "PureHouse$Link")), Cond.initialized yX1_envOfSecond.cls] := cw_gr _ [469, 470] rfl (by decide +kernel)
set_option maxRecDepth 100000 in
theorem cin_yX1_init : Cond.instanceMethod yX1_init ∈ cw_bw := List.mem_of_getElem? (i := 471) rfl
set_option maxRecDepth 100000 in
theorem cgo_yX1_init : GoodIn cw_bw [Cond.code yX1_init cX1_init 5 none, Cond.initialized yX1_init.cls] := cw_gr _ [472, 470] rfl (by decide +kernel)
set_option maxRecDepth 100000 in
theorem cin_yX1_isBinder : Cond.instanceMethod yX1_isBinder ∈ cw_bw := List.mem_of_getElem? (i := 473) rfl
set_option maxRecDepth 100000 in
theorem cse_yX1_isBinder : Cond.selects (cw_tab 2).1 yX1_isBinder yX1_isBinder ∈ cw_bw := List.mem_of_getElem? (i := 474) rfl
set_option maxRecDepth 100000 in
theorem cgo_yX1_isBinder : GoodIn cw_bw [Cond.code yX1_isBinder cX1_isBinder 1 (some .boolean), Cond.initialized yX1_isBinder.cls] := cw_gr _ [475, 470] rfl (by decide +kernel)
set_option maxRecDepth 100000 in
theorem cin_yX10_clear : Cond.instanceMethod yX10_clear ∈ cw_bw := List.mem_of_getElem? (i := 476) rfl
set_option maxRecDepth 100000 in
theorem cse_yX10_clear : Cond.selects (cw_tab 11).1 yX10_clear yX10_clear ∈ cw_bw := List.mem_of_getElem? (i := 477) rfl
set_option maxRecDepth 100000 in
theorem cgo_yX10_clear : GoodIn cw_bw [Cond.code yX10_clear cX10_clear 1 none, Cond.initialized yX10_clear.cls] := cw_gr _ [478, 479] rfl (by decide +kernel)
set_option maxRecDepth 100000 in
theorem cin_yX10_init : Cond.instanceMethod yX10_init ∈ cw_bw := List.mem_of_getElem? (i := 480) rfl
set_option maxRecDepth 100000 in
theorem cgo_yX10_init : GoodIn cw_bw [Cond.code yX10_init cX10_init 1 none, Cond.initialized yX10_init.cls] := cw_gr _ [481, 479] rfl (by decide +kernel)
set_option maxRecDepth 100000 in
theorem cin_yX10_set : Cond.instanceMethod yX10_set ∈ cw_bw := List.mem_of_getElem? (i := 482) rfl
set_option maxRecDepth 100000 in
theorem cse_yX10_set : Cond.selects (cw_tab 11).1 yX10_set yX10_set ∈ cw_bw := List.mem_of_getElem? (i := 483) rfl
set_option maxRecDepth 100000 in
theorem cgo_yX10_set : GoodIn cw_bw [Cond.code yX10_set cX10_set 3 none, Cond.initialized yX10_set.cls] := cw_gr _ [484, 479] rfl (by decide +kernel)
set_option maxRecDepth 100000 in
theorem cin_yX11_addAxiom : Cond.instanceMethod yX11_addAxiom ∈ cw_bw := List.mem_of_getElem? (i := 485) rfl
set_option maxRecDepth 100000 in
theorem cse_yX11_addAxiom : Cond.selects (cw_tab 12).1 yX11_addAxiom yX11_addAxiom ∈ cw_bw := List.mem_of_getElem? (i := 486) rfl
set_option maxRecDepth 100000 in
theorem cgo_yX11_addAxiom : GoodIn cw_bw [Cond.code yX11_addAxiom cX11_addAxiom 4 none, Cond.initialized yX11_addAxiom.cls] := cw_gr _ [487, 488] rfl (by decide +kernel)
set_option maxRecDepth 100000 in
theorem cin_yX11_addRule : Cond.instanceMethod yX11_addRule ∈ cw_bw := List.mem_of_getElem? (i := 489) rfl
set_option maxRecDepth 100000 in
theorem cse_yX11_addRule : Cond.selects (cw_tab 12).1 yX11_addRule yX11_addRule ∈ cw_bw := List.mem_of_getElem? (i := 490) rfl
set_option maxRecDepth 100000 in
theorem cgo_yX11_addRule : GoodIn cw_bw [Cond.code yX11_addRule cX11_addRule 5 none, Cond.initialized yX11_addRule.cls] := cw_gr _ [491, 488] rfl (by decide +kernel)
set_option maxRecDepth 100000 in
theorem cin_yX11_addSort : Cond.instanceMethod yX11_addSort ∈ cw_bw := List.mem_of_getElem? (i := 492) rfl
set_option maxRecDepth 100000 in
theorem cse_yX11_addSort : Cond.selects (cw_tab 12).1 yX11_addSort yX11_addSort ∈ cw_bw := List.mem_of_getElem? (i := 493) rfl
set_option maxRecDepth 100000 in
theorem cgo_yX11_addSort : GoodIn cw_bw [Cond.code yX11_addSort cX11_addSort 2 none, Cond.initialized yX11_addSort.cls] := cw_gr _ [494, 488] rfl (by decide +kernel)
set_option maxRecDepth 100000 in
theorem cin_yX11_answerSame : Cond.instanceMethod yX11_answerSame ∈ cw_bw := List.mem_of_getElem? (i := 495) rfl
set_option maxRecDepth 100000 in
theorem cse_yX11_answerSame : Cond.selects (cw_tab 12).1 yX11_answerSame yX11_answerSame ∈ cw_bw := List.mem_of_getElem? (i := 496) rfl
set_option maxRecDepth 100000 in
theorem cgo_yX11_answerSame : GoodIn cw_bw [Cond.code yX11_answerSame cX11_answerSame 2 none, Cond.initialized yX11_answerSame.cls] := cw_gr _ [497, 488] rfl (by decide +kernel)
set_option maxRecDepth 100000 in
theorem cin_yX11_assume : Cond.instanceMethod yX11_assume ∈ cw_bw := List.mem_of_getElem? (i := 498) rfl
set_option maxRecDepth 100000 in
theorem cse_yX11_assume : Cond.selects (cw_tab 12).1 yX11_assume yX11_assume ∈ cw_bw := List.mem_of_getElem? (i := 499) rfl
set_option maxRecDepth 100000 in
theorem cgo_yX11_assume : GoodIn cw_bw [Cond.code yX11_assume cX11_assume 4 none, Cond.initialized yX11_assume.cls] := cw_gr _ [500, 488] rfl (by decide +kernel)
set_option maxRecDepth 100000 in
theorem cin_yX11_check : Cond.instanceMethod yX11_check ∈ cw_bw := List.mem_of_getElem? (i := 501) rfl
set_option maxRecDepth 100000 in
theorem cse_yX11_check : Cond.selects (cw_tab 12).1 yX11_check yX11_check ∈ cw_bw := List.mem_of_getElem? (i := 502) rfl
set_option maxRecDepth 100000 in
theorem cgo_yX11_check : GoodIn cw_bw [Cond.code yX11_check cX11_check 3 none, Cond.initialized yX11_check.cls] := cw_gr _ [503, 488] rfl (by decide +kernel)
set_option maxRecDepth 100000 in
theorem cin_yX11_compareNames : Cond.instanceMethod yX11_compareNames ∈ cw_bw := List.mem_of_getElem? (i := 504) rfl
set_option maxRecDepth 100000 in
theorem cse_yX11_compareNames : Cond.selects (cw_tab 12).1 yX11_compareNames yX11_compareNames ∈ cw_bw := List.mem_of_getElem? (i := 505) rfl
set_option maxRecDepth 100000 in
theorem cgo_yX11_compareNames : GoodIn cw_bw [Cond.codeWith yX11_compareNames cX11_compareNames 6 (some .int) [(29, 47, 48, 158)], Cond.initialized yX11_compareNames.cls] := cw_gr _ [506, 488] rfl (by decide +kernel)
set_option maxRecDepth 100000 in
theorem cin_yX11_define : Cond.instanceMethod yX11_define ∈ cw_bw := List.mem_of_getElem? (i := 507) rfl
set_option maxRecDepth 100000 in
theorem cse_yX11_define : Cond.selects (cw_tab 12).1 yX11_define yX11_define ∈ cw_bw := List.mem_of_getElem? (i := 508) rfl
set_option maxRecDepth 100000 in
theorem cgo_yX11_define : GoodIn cw_bw [Cond.code yX11_define cX11_define 3 none, Cond.initialized yX11_define.cls] := cw_gr _ [509, 488] rfl (by decide +kernel)
set_option maxRecDepth 100000 in
theorem cin_yX11_feedFour : Cond.instanceMethod yX11_feedFour ∈ cw_bw := List.mem_of_getElem? (i := 510) rfl
set_option maxRecDepth 100000 in
theorem cse_yX11_feedFour : Cond.selects (cw_tab 12).1 yX11_feedFour yX11_feedFour ∈ cw_bw := List.mem_of_getElem? (i := 511) rfl
set_option maxRecDepth 100000 in
theorem cgo_yX11_feedFour : GoodIn cw_bw [Cond.code yX11_feedFour cX11_feedFour 3 none, Cond.initialized yX11_feedFour.cls] := cw_gr _ [512, 488] rfl (by decide +kernel)
set_option maxRecDepth 100000 in
theorem cin_yX11_needNewName : Cond.instanceMethod yX11_needNewName ∈ cw_bw := List.mem_of_getElem? (i := 513) rfl
set_option maxRecDepth 100000 in
theorem cse_yX11_needNewName : Cond.selects (cw_tab 12).1 yX11_needNewName yX11_needNewName ∈ cw_bw := List.mem_of_getElem? (i := 514) rfl
set_option maxRecDepth 100000 in
theorem cgo_yX11_needNewName : GoodIn cw_bw [Cond.code yX11_needNewName cX11_needNewName 3 none, Cond.initialized yX11_needNewName.cls] := cw_gr _ [515, 488] rfl (by decide +kernel)
set_option maxRecDepth 100000 in
theorem cin_yX11_needSame : Cond.instanceMethod yX11_needSame ∈ cw_bw := List.mem_of_getElem? (i := 516) rfl
set_option maxRecDepth 100000 in
theorem cse_yX11_needSame : Cond.selects (cw_tab 12).1 yX11_needSame yX11_needSame ∈ cw_bw := List.mem_of_getElem? (i := 517) rfl
set_option maxRecDepth 100000 in
theorem cgo_yX11_needSame : GoodIn cw_bw [Cond.code yX11_needSame cX11_needSame 4 none, Cond.initialized yX11_needSame.cls] := cw_gr _ [518, 488] rfl (by decide +kernel)
set_option maxRecDepth 100000 in
theorem cin_yX11_neededSort : Cond.instanceMethod yX11_neededSort ∈ cw_bw := List.mem_of_getElem? (i := 519) rfl
set_option maxRecDepth 100000 in
theorem cse_yX11_neededSort : Cond.selects (cw_tab 12).1 yX11_neededSort yX11_neededSort ∈ cw_bw := List.mem_of_getElem? (i := 520) rfl
set_option maxRecDepth 100000 in
theorem cgo_yX11_neededSort : GoodIn cw_bw [Cond.code yX11_neededSort cX11_neededSort 3 (some .int), Cond.initialized yX11_neededSort.cls] := cw_gr _ [521, 488] rfl (by decide +kernel)
set_option maxRecDepth 100000 in
theorem cin_yX11_perform : Cond.instanceMethod yX11_perform ∈ cw_bw := List.mem_of_getElem? (i := 522) rfl
set_option maxRecDepth 100000 in
theorem cse_yX11_perform : Cond.selects (cw_tab 12).1 yX11_perform yX11_perform ∈ cw_bw := List.mem_of_getElem? (i := 523) rfl
set_option maxRecDepth 100000 in
theorem cgo_yX11_perform : GoodIn cw_bw [Cond.code yX11_perform cX11_perform 2 none, Cond.initialized yX11_perform.cls] := cw_gr _ [524, 488] rfl (by decide +kernel)
set_option maxRecDepth 100000 in
theorem cin_yX11_refuseBesideNames : Cond.instanceMethod yX11_refuseBesideNames ∈ cw_bw := List.mem_of_getElem? (i := 525) rfl
set_option maxRecDepth 100000 in
theorem cse_yX11_refuseBesideNames : Cond.selects (cw_tab 12).1 yX11_refuseBesideNames yX11_refuseBesideNames ∈ cw_bw := List.mem_of_getElem? (i := 526) rfl
set_option maxRecDepth 100000 in
theorem cgo_yX11_refuseBesideNames : GoodIn cw_bw [Cond.code yX11_refuseBesideNames cX11_refuseBesideNames 2 none, Cond.initialized yX11_refuseBesideNames.cls] := cw_gr _ [527, 488] rfl (by decide +kernel)
set_option maxRecDepth 100000 in
theorem cin_yX11_runText : Cond.instanceMethod yX11_runText ∈ cw_bw := List.mem_of_getElem? (i := 528) rfl
set_option maxRecDepth 100000 in
theorem cse_yX11_runText : Cond.selects (cw_tab 12).1 yX11_runText yX11_runText ∈ cw_bw := List.mem_of_getElem? (i := 529) rfl
set_option maxRecDepth 100000 in
theorem cgo_yX11_runText : GoodIn cw_bw [Cond.codeWith yX11_runText cX11_runText 4 (some .int) [(20, 71, 74, 158)], Cond.initialized yX11_runText.cls] := cw_gr _ [530, 488] rfl (by decide +kernel)
set_option maxRecDepth 100000 in
theorem cin_yX11_sortNumber : Cond.instanceMethod yX11_sortNumber ∈ cw_bw := List.mem_of_getElem? (i := 531) rfl
set_option maxRecDepth 100000 in
theorem cse_yX11_sortNumber : Cond.selects (cw_tab 12).1 yX11_sortNumber yX11_sortNumber ∈ cw_bw := List.mem_of_getElem? (i := 532) rfl
set_option maxRecDepth 100000 in
theorem cgo_yX11_sortNumber : GoodIn cw_bw [Cond.code yX11_sortNumber cX11_sortNumber 2 (some .int), Cond.initialized yX11_sortNumber.cls] := cw_gr _ [533, 488] rfl (by decide +kernel)
set_option maxRecDepth 100000 in
theorem cin_yX11_tellTypeOf : Cond.instanceMethod yX11_tellTypeOf ∈ cw_bw := List.mem_of_getElem? (i := 534) rfl
set_option maxRecDepth 100000 in
theorem cse_yX11_tellTypeOf : Cond.selects (cw_tab 12).1 yX11_tellTypeOf yX11_tellTypeOf ∈ cw_bw := List.mem_of_getElem? (i := 535) rfl
set_option maxRecDepth 100000 in
theorem cgo_yX11_tellTypeOf : GoodIn cw_bw [Cond.codeWith yX11_tellTypeOf cX11_tellTypeOf 3 (some .int) [(16, 24, 27, 158)], Cond.initialized yX11_tellTypeOf.cls] := cw_gr _ [536, 488] rfl (by decide +kernel)
set_option maxRecDepth 100000 in
theorem cin_yX2_init : Cond.instanceMethod yX2_init ∈ cw_bw := List.mem_of_getElem? (i := 537) rfl
set_option maxRecDepth 100000 in
theorem cgo_yX2_init : GoodIn cw_bw [Cond.code yX2_init cX2_init 5 none, Cond.initialized yX2_init.cls] := cw_gr _ [538, 539] rfl (by decide +kernel)
set_option maxRecDepth 100000 in
theorem cin_yX2_isNameOf : Cond.instanceMethod yX2_isNameOf ∈ cw_bw := List.mem_of_getElem? (i := 540) rfl
set_option maxRecDepth 100000 in
theorem cse_yX2_isNameOf : Cond.selects (cw_tab 3).1 yX2_isNameOf yX2_isNameOf ∈ cw_bw := List.mem_of_getElem? (i := 541) rfl
set_option maxRecDepth 100000 in
theorem cgo_yX2_isNameOf : GoodIn cw_bw [Cond.code yX2_isNameOf cX2_isNameOf 3 (some .boolean), Cond.initialized yX2_isNameOf.cls] := cw_gr _ [542, 539] rfl (by decide +kernel)
set_option maxRecDepth 100000 in
theorem cin_yX2_judge : Cond.instanceMethod yX2_judge ∈ cw_bw := List.mem_of_getElem? (i := 543) rfl
set_option maxRecDepth 100000 in
theorem cse_yX2_judge : Cond.selects (cw_tab 3).1 yX2_judge yX2_judge ∈ cw_bw := List.mem_of_getElem? (i := 544) rfl
set_option maxRecDepth 100000 in
theorem cgo_yX2_judge : GoodIn cw_bw [Cond.code yX2_judge cX2_judge 8 (some (.object "PureHouse$Node")), Cond.initialized yX2_judge.cls] := cw_gr _ [545, 539] rfl (by decide +kernel)
set_option maxRecDepth 100000 in
theorem cin_yX2_judgeName : Cond.instanceMethod yX2_judgeName ∈ cw_bw := List.mem_of_getElem? (i := 546) rfl
set_option maxRecDepth 100000 in
theorem cse_yX2_judgeName : Cond.selects (cw_tab 3).1 yX2_judgeName yX2_judgeName ∈ cw_bw := List.mem_of_getElem? (i := 547) rfl
set_option maxRecDepth 100000 in
theorem cgo_yX2_judgeName : GoodIn cw_bw [Cond.code yX2_judgeName cX2_judgeName 6 (some (.object "PureHouse$Node")), Cond.initialized yX2_judgeName.cls] := cw_gr _ [548, 539] rfl (by decide +kernel)
set_option maxRecDepth 100000 in
theorem cin_yX2_needProduct : Cond.instanceMethod yX2_needProduct ∈ cw_bw := List.mem_of_getElem? (i := 549) rfl
set_option maxRecDepth 100000 in
theorem cse_yX2_needProduct : Cond.selects (cw_tab 3).1 yX2_needProduct yX2_needProduct ∈ cw_bw := List.mem_of_getElem? (i := 550) rfl
set_option maxRecDepth 100000 in
theorem cgo_yX2_needProduct : GoodIn cw_bw [Cond.code yX2_needProduct cX2_needProduct 3 none, Cond.initialized yX2_needProduct.cls] := cw_gr _ [551, 539] rfl (by decide +kernel)
set_option maxRecDepth 100000 in
theorem cin_yX2_neededRule : Cond.instanceMethod yX2_neededRule ∈ cw_bw := List.mem_of_getElem? (i := 552) rfl
set_option maxRecDepth 100000 in
theorem cse_yX2_neededRule : Cond.selects (cw_tab 3).1 yX2_neededRule yX2_neededRule ∈ cw_bw := List.mem_of_getElem? (i := 553) rfl
set_option maxRecDepth 100000 in
theorem cgo_yX2_neededRule : GoodIn cw_bw [Cond.code yX2_neededRule cX2_neededRule 5 (some .int), Cond.initialized yX2_neededRule.cls] := cw_gr _ [554, 539] rfl (by decide +kernel)
set_option maxRecDepth 100000 in
theorem cin_yX2_neededSort : Cond.instanceMethod yX2_neededSort ∈ cw_bw := List.mem_of_getElem? (i := 555) rfl
set_option maxRecDepth 100000 in
theorem cse_yX2_neededSort : Cond.selects (cw_tab 3).1 yX2_neededSort yX2_neededSort ∈ cw_bw := List.mem_of_getElem? (i := 556) rfl
set_option maxRecDepth 100000 in
theorem cgo_yX2_neededSort : GoodIn cw_bw [Cond.code yX2_neededSort cX2_neededSort 3 (some .int), Cond.initialized yX2_neededSort.cls] := cw_gr _ [557, 539] rfl (by decide +kernel)
set_option maxRecDepth 100000 in
theorem cin_yX2_resolve : Cond.instanceMethod yX2_resolve ∈ cw_bw := List.mem_of_getElem? (i := 558) rfl
set_option maxRecDepth 100000 in
theorem cse_yX2_resolve : Cond.selects (cw_tab 3).1 yX2_resolve yX2_resolve ∈ cw_bw := List.mem_of_getElem? (i := 559) rfl
set_option maxRecDepth 100000 in
theorem cgo_yX2_resolve : GoodIn cw_bw [Cond.code yX2_resolve cX2_resolve 5 none, Cond.initialized yX2_resolve.cls] := cw_gr _ [560, 539] rfl (by decide +kernel)
set_option maxRecDepth 100000 in
theorem cin_yX2_sortAsType : Cond.instanceMethod yX2_sortAsType ∈ cw_bw := List.mem_of_getElem? (i := 561) rfl
set_option maxRecDepth 100000 in
theorem cse_yX2_sortAsType : Cond.selects (cw_tab 3).1 yX2_sortAsType yX2_sortAsType ∈ cw_bw := List.mem_of_getElem? (i := 562) rfl
set_option maxRecDepth 100000 in
theorem cgo_yX2_sortAsType : GoodIn cw_bw [Cond.code yX2_sortAsType cX2_sortAsType 2 (some .int), Cond.initialized yX2_sortAsType.cls] := cw_gr _ [563, 539] rfl (by decide +kernel)
set_option maxRecDepth 100000 in
theorem cin_yX2_typeOf : Cond.instanceMethod yX2_typeOf ∈ cw_bw := List.mem_of_getElem? (i := 564) rfl
set_option maxRecDepth 100000 in
theorem cse_yX2_typeOf : Cond.selects (cw_tab 3).1 yX2_typeOf yX2_typeOf ∈ cw_bw := List.mem_of_getElem? (i := 565) rfl
set_option maxRecDepth 100000 in
theorem cgo_yX2_typeOf : GoodIn cw_bw [Cond.code yX2_typeOf cX2_typeOf 2 (some (.object "PureHouse$Node")), Cond.initialized yX2_typeOf.cls] := cw_gr _ [566, 539] rfl (by decide +kernel)
set_option maxRecDepth 100000 in
theorem cin_yX2_typeOfLambda : Cond.instanceMethod yX2_typeOfLambda ∈ cw_bw := List.mem_of_getElem? (i := 567) rfl
set_option maxRecDepth 100000 in
theorem cse_yX2_typeOfLambda : Cond.selects (cw_tab 3).1 yX2_typeOfLambda yX2_typeOfLambda ∈ cw_bw := List.mem_of_getElem? (i := 568) rfl
set_option maxRecDepth 100000 in
theorem cgo_yX2_typeOfLambda : GoodIn cw_bw [Cond.code yX2_typeOfLambda cX2_typeOfLambda 7 (some (.object "PureHouse$Node")), Cond.initialized yX2_typeOfLambda.cls] := cw_gr _ [569, 539] rfl (by decide +kernel)
set_option maxRecDepth 100000 in
theorem cin_yX2_typeOfProduct : Cond.instanceMethod yX2_typeOfProduct ∈ cw_bw := List.mem_of_getElem? (i := 570) rfl
set_option maxRecDepth 100000 in
theorem cse_yX2_typeOfProduct : Cond.selects (cw_tab 3).1 yX2_typeOfProduct yX2_typeOfProduct ∈ cw_bw := List.mem_of_getElem? (i := 571) rfl
set_option maxRecDepth 100000 in
theorem cgo_yX2_typeOfProduct : GoodIn cw_bw [Cond.code yX2_typeOfProduct cX2_typeOfProduct 5 (some (.object "PureHouse$Node")), Cond.initialized yX2_typeOfProduct.cls] := cw_gr _ [572, 539] rfl (by decide +kernel)
set_option maxRecDepth 100000 in
theorem cst_yX3_find : Cond.static yX3_find ∈ cw_bw := List.mem_of_getElem? (i := 573) rfl
set_option maxRecDepth 100000 in
theorem cgo_yX3_find : GoodIn cw_bw [Cond.code yX3_find cX3_find 3 (some (.object "PureHouse$Link")), Cond.initialized yX3_find.cls] := cw_gr _ [574, 575] rfl (by decide +kernel)
set_option maxRecDepth 100000 in
theorem cin_yX3_init : Cond.instanceMethod yX3_init ∈ cw_bw := List.mem_of_getElem? (i := 576) rfl
set_option maxRecDepth 100000 in
theorem cgo_yX3_init : GoodIn cw_bw [Cond.code yX3_init cX3_init 5 none, Cond.initialized yX3_init.cls] := cw_gr _ [577, 575] rfl (by decide +kernel)
set_option maxRecDepth 100000 in
theorem cin_yX3_init_ : Cond.instanceMethod yX3_init_ ∈ cw_bw := List.mem_of_getElem? (i := 578) rfl
set_option maxRecDepth 100000 in
theorem cgo_yX3_init_ : GoodIn cw_bw [Cond.code yX3_init_ cX3_init_ 4 none, Cond.initialized yX3_init_.cls] := cw_gr _ [579, 575] rfl (by decide +kernel)
set_option maxRecDepth 100000 in
theorem cst_yX3_lengthOf : Cond.static yX3_lengthOf ∈ cw_bw := List.mem_of_getElem? (i := 580) rfl
set_option maxRecDepth 100000 in
theorem cgo_yX3_lengthOf : GoodIn cw_bw [Cond.code yX3_lengthOf cX3_lengthOf 3 (some .int), Cond.initialized yX3_lengthOf.cls] := cw_gr _ [581, 575] rfl (by decide +kernel)
set_option maxRecDepth 100000 in
theorem cin_yX4_areSame : Cond.instanceMethod yX4_areSame ∈ cw_bw := List.mem_of_getElem? (i := 582) rfl
set_option maxRecDepth 100000 in
theorem cse_yX4_areSame : Cond.selects (cw_tab 5).1 yX4_areSame yX4_areSame ∈ cw_bw := List.mem_of_getElem? (i := 583) rfl
set_option maxRecDepth 100000 in
theorem cgo_yX4_areSame : GoodIn cw_bw [Cond.code yX4_areSame cX4_areSame 3 (some .boolean), Cond.initialized yX4_areSame.cls] := cw_gr _ [584, 585] rfl (by decide +kernel)
set_option maxRecDepth 100000 in
theorem cin_yX4_begin : Cond.instanceMethod yX4_begin ∈ cw_bw := List.mem_of_getElem? (i := 586) rfl
set_option maxRecDepth 100000 in
theorem cse_yX4_begin : Cond.selects (cw_tab 5).1 yX4_begin yX4_begin ∈ cw_bw := List.mem_of_getElem? (i := 587) rfl
set_option maxRecDepth 100000 in
theorem cgo_yX4_begin : GoodIn cw_bw [Cond.code yX4_begin cX4_begin 3 none, Cond.initialized yX4_begin.cls] := cw_gr _ [588, 585] rfl (by decide +kernel)
set_option maxRecDepth 100000 in
theorem cin_yX4_compare : Cond.instanceMethod yX4_compare ∈ cw_bw := List.mem_of_getElem? (i := 589) rfl
set_option maxRecDepth 100000 in
theorem cse_yX4_compare : Cond.selects (cw_tab 5).1 yX4_compare yX4_compare ∈ cw_bw := List.mem_of_getElem? (i := 590) rfl
set_option maxRecDepth 100000 in
theorem cgo_yX4_compare : GoodIn cw_bw [Cond.code yX4_compare cX4_compare 11 (some .boolean), Cond.initialized yX4_compare.cls] := cw_gr _ [591, 585] rfl (by decide +kernel)
set_option maxRecDepth 100000 in
theorem cin_yX4_head : Cond.instanceMethod yX4_head ∈ cw_bw := List.mem_of_getElem? (i := 592) rfl
set_option maxRecDepth 100000 in
theorem cse_yX4_head : Cond.selects (cw_tab 5).1 yX4_head yX4_head ∈ cw_bw := List.mem_of_getElem? (i := 593) rfl
set_option maxRecDepth 100000 in
theorem cgo_yX4_head : GoodIn cw_bw [Cond.code yX4_head cX4_head 9 (some (.object "PureHouse$Head")), Cond.initialized yX4_head.cls] := cw_gr _ [594, 585] rfl (by decide +kernel)
set_option maxRecDepth 100000 in
theorem cin_yX4_init : Cond.instanceMethod yX4_init ∈ cw_bw := List.mem_of_getElem? (i := 595) rfl
set_option maxRecDepth 100000 in
theorem cgo_yX4_init : GoodIn cw_bw [Cond.code yX4_init cX4_init 3 none, Cond.initialized yX4_init.cls] := cw_gr _ [596, 585] rfl (by decide +kernel)
set_option maxRecDepth 100000 in
theorem cin_yX4_look : Cond.instanceMethod yX4_look ∈ cw_bw := List.mem_of_getElem? (i := 597) rfl
set_option maxRecDepth 100000 in
theorem cse_yX4_look : Cond.selects (cw_tab 5).1 yX4_look yX4_look ∈ cw_bw := List.mem_of_getElem? (i := 598) rfl
set_option maxRecDepth 100000 in
theorem cgo_yX4_look : GoodIn cw_bw [Cond.code yX4_look cX4_look 3 none, Cond.initialized yX4_look.cls] := cw_gr _ [599, 585] rfl (by decide +kernel)
set_option maxRecDepth 100000 in
theorem cin_yX4_normalForm : Cond.instanceMethod yX4_normalForm ∈ cw_bw := List.mem_of_getElem? (i := 600) rfl
set_option maxRecDepth 100000 in
theorem cse_yX4_normalForm : Cond.selects (cw_tab 5).1 yX4_normalForm yX4_normalForm ∈ cw_bw := List.mem_of_getElem? (i := 601) rfl
set_option maxRecDepth 100000 in
theorem cgo_yX4_normalForm : GoodIn cw_bw [Cond.code yX4_normalForm cX4_normalForm 3 (some (.object "PureHouse$Node")), Cond.initialized yX4_normalForm.cls] := cw_gr _ [602, 585] rfl (by decide +kernel)
set_option maxRecDepth 100000 in
theorem cin_yX4_normalize : Cond.instanceMethod yX4_normalize ∈ cw_bw := List.mem_of_getElem? (i := 603) rfl
set_option maxRecDepth 100000 in
theorem cse_yX4_normalize : Cond.selects (cw_tab 5).1 yX4_normalize yX4_normalize ∈ cw_bw := List.mem_of_getElem? (i := 604) rfl
set_option maxRecDepth 100000 in
theorem cgo_yX4_normalize : GoodIn cw_bw [Cond.code yX4_normalize cX4_normalize 11 (some (.object "PureHouse$Node")), Cond.initialized yX4_normalize.cls] := cw_gr _ [605, 585] rfl (by decide +kernel)
set_option maxRecDepth 100000 in
theorem cin_yX4_put : Cond.instanceMethod yX4_put ∈ cw_bw := List.mem_of_getElem? (i := 606) rfl
set_option maxRecDepth 100000 in
theorem cse_yX4_put : Cond.selects (cw_tab 5).1 yX4_put yX4_put ∈ cw_bw := List.mem_of_getElem? (i := 607) rfl
set_option maxRecDepth 100000 in
theorem cgo_yX4_put : GoodIn cw_bw [Cond.code yX4_put cX4_put 2 none, Cond.initialized yX4_put.cls] := cw_gr _ [608, 585] rfl (by decide +kernel)
set_option maxRecDepth 100000 in
theorem cin_yX4_putAnswer : Cond.instanceMethod yX4_putAnswer ∈ cw_bw := List.mem_of_getElem? (i := 609) rfl
set_option maxRecDepth 100000 in
theorem cse_yX4_putAnswer : Cond.selects (cw_tab 5).1 yX4_putAnswer yX4_putAnswer ∈ cw_bw := List.mem_of_getElem? (i := 610) rfl
set_option maxRecDepth 100000 in
theorem cgo_yX4_putAnswer : GoodIn cw_bw [Cond.code yX4_putAnswer cX4_putAnswer 4 none, Cond.initialized yX4_putAnswer.cls] := cw_gr _ [611, 585] rfl (by decide +kernel)
set_option maxRecDepth 100000 in
theorem cin_yX4_putFront : Cond.instanceMethod yX4_putFront ∈ cw_bw := List.mem_of_getElem? (i := 612) rfl
set_option maxRecDepth 100000 in
theorem cse_yX4_putFront : Cond.selects (cw_tab 5).1 yX4_putFront yX4_putFront ∈ cw_bw := List.mem_of_getElem? (i := 613) rfl
set_option maxRecDepth 100000 in
theorem cgo_yX4_putFront : GoodIn cw_bw [Cond.code yX4_putFront cX4_putFront 2 none, Cond.initialized yX4_putFront.cls] := cw_gr _ [614, 585] rfl (by decide +kernel)
set_option maxRecDepth 100000 in
theorem cin_yX4_putNumber : Cond.instanceMethod yX4_putNumber ∈ cw_bw := List.mem_of_getElem? (i := 615) rfl
set_option maxRecDepth 100000 in
theorem cse_yX4_putNumber : Cond.selects (cw_tab 5).1 yX4_putNumber yX4_putNumber ∈ cw_bw := List.mem_of_getElem? (i := 616) rfl
set_option maxRecDepth 100000 in
theorem cgo_yX4_putNumber : GoodIn cw_bw [Cond.code yX4_putNumber cX4_putNumber 4 none, Cond.initialized yX4_putNumber.cls] := cw_gr _ [617, 585] rfl (by decide +kernel)
set_option maxRecDepth 100000 in
theorem cin_yX4_putSigns : Cond.instanceMethod yX4_putSigns ∈ cw_bw := List.mem_of_getElem? (i := 618) rfl
set_option maxRecDepth 100000 in
theorem cse_yX4_putSigns : Cond.selects (cw_tab 5).1 yX4_putSigns yX4_putSigns ∈ cw_bw := List.mem_of_getElem? (i := 619) rfl
set_option maxRecDepth 100000 in
theorem cgo_yX4_putSigns : GoodIn cw_bw [Cond.code yX4_putSigns cX4_putSigns 5 none, Cond.initialized yX4_putSigns.cls] := cw_gr _ [620, 585] rfl (by decide +kernel)
set_option maxRecDepth 100000 in
theorem cin_yX4_spend : Cond.instanceMethod yX4_spend ∈ cw_bw := List.mem_of_getElem? (i := 621) rfl
set_option maxRecDepth 100000 in
theorem cse_yX4_spend : Cond.selects (cw_tab 5).1 yX4_spend yX4_spend ∈ cw_bw := List.mem_of_getElem? (i := 622) rfl
set_option maxRecDepth 100000 in
theorem cgo_yX4_spend : GoodIn cw_bw [Cond.code yX4_spend cX4_spend 3 none, Cond.initialized yX4_spend.cls] := cw_gr _ [623, 585] rfl (by decide +kernel)
set_option maxRecDepth 100000 in
theorem cin_yX4_tell : Cond.instanceMethod yX4_tell ∈ cw_bw := List.mem_of_getElem? (i := 624) rfl
set_option maxRecDepth 100000 in
theorem cse_yX4_tell : Cond.selects (cw_tab 5).1 yX4_tell yX4_tell ∈ cw_bw := List.mem_of_getElem? (i := 625) rfl
set_option maxRecDepth 100000 in
theorem cgo_yX4_tell : GoodIn cw_bw [Cond.code yX4_tell cX4_tell 10 none, Cond.initialized yX4_tell.cls] := cw_gr _ [626, 585] rfl (by decide +kernel)
set_option maxRecDepth 100000 in
theorem cin_yX4_tellHead : Cond.instanceMethod yX4_tellHead ∈ cw_bw := List.mem_of_getElem? (i := 627) rfl
set_option maxRecDepth 100000 in
theorem cse_yX4_tellHead : Cond.selects (cw_tab 5).1 yX4_tellHead yX4_tellHead ∈ cw_bw := List.mem_of_getElem? (i := 628) rfl
set_option maxRecDepth 100000 in
theorem cgo_yX4_tellHead : GoodIn cw_bw [Cond.code yX4_tellHead cX4_tellHead 3 none, Cond.initialized yX4_tellHead.cls] := cw_gr _ [629, 585] rfl (by decide +kernel)
set_option maxRecDepth 100000 in
theorem cin_yX4_tellWhole : Cond.instanceMethod yX4_tellWhole ∈ cw_bw := List.mem_of_getElem? (i := 630) rfl
set_option maxRecDepth 100000 in
theorem cse_yX4_tellWhole : Cond.selects (cw_tab 5).1 yX4_tellWhole yX4_tellWhole ∈ cw_bw := List.mem_of_getElem? (i := 631) rfl
set_option maxRecDepth 100000 in
theorem cgo_yX4_tellWhole : GoodIn cw_bw [Cond.code yX4_tellWhole cX4_tellWhole 2 none, Cond.initialized yX4_tellWhole.cls] := cw_gr _ [632, 585] rfl (by decide +kernel)
set_option maxRecDepth 100000 in
theorem cin_yX5_add : Cond.instanceMethod yX5_add ∈ cw_bw := List.mem_of_getElem? (i := 633) rfl
set_option maxRecDepth 100000 in
theorem cse_yX5_add : Cond.selects (cw_tab 6).1 yX5_add yX5_add ∈ cw_bw := List.mem_of_getElem? (i := 634) rfl
set_option maxRecDepth 100000 in
theorem cgo_yX5_add : GoodIn cw_bw [Cond.code yX5_add cX5_add 5 none, Cond.initialized yX5_add.cls] := cw_gr _ [635, 636] rfl (by decide +kernel)
set_option maxRecDepth 100000 in
theorem cst_yX5_agree : Cond.static yX5_agree ∈ cw_bw := List.mem_of_getElem? (i := 637) rfl
set_option maxRecDepth 100000 in
theorem cgo_yX5_agree : GoodIn cw_bw [Cond.code yX5_agree cX5_agree 6 (some .boolean), Cond.initialized yX5_agree.cls] := cw_gr _ [638, 636] rfl (by decide +kernel)
set_option maxRecDepth 100000 in
theorem cin_yX5_find : Cond.instanceMethod yX5_find ∈ cw_bw := List.mem_of_getElem? (i := 639) rfl
set_option maxRecDepth 100000 in
theorem cse_yX5_find : Cond.selects (cw_tab 6).1 yX5_find yX5_find ∈ cw_bw := List.mem_of_getElem? (i := 640) rfl
set_option maxRecDepth 100000 in
theorem cgo_yX5_find : GoodIn cw_bw [Cond.code yX5_find cX5_find 5 (some .int), Cond.initialized yX5_find.cls] := cw_gr _ [641, 636] rfl (by decide +kernel)
set_option maxRecDepth 100000 in
theorem cin_yX5_has : Cond.instanceMethod yX5_has ∈ cw_bw := List.mem_of_getElem? (i := 642) rfl
set_option maxRecDepth 100000 in
theorem cse_yX5_has : Cond.selects (cw_tab 6).1 yX5_has yX5_has ∈ cw_bw := List.mem_of_getElem? (i := 643) rfl
set_option maxRecDepth 100000 in
theorem cgo_yX5_has : GoodIn cw_bw [Cond.code yX5_has cX5_has 2 (some .boolean), Cond.initialized yX5_has.cls] := cw_gr _ [644, 636] rfl (by decide +kernel)
set_option maxRecDepth 100000 in
theorem cin_yX5_init : Cond.instanceMethod yX5_init ∈ cw_bw := List.mem_of_getElem? (i := 645) rfl
set_option maxRecDepth 100000 in
theorem cgo_yX5_init : GoodIn cw_bw [Cond.code yX5_init cX5_init 2 none, Cond.initialized yX5_init.cls] := cw_gr _ [646, 636] rfl (by decide +kernel)
set_option maxRecDepth 100000 in
theorem cin_yX5_isFull : Cond.instanceMethod yX5_isFull ∈ cw_bw := List.mem_of_getElem? (i := 647) rfl
set_option maxRecDepth 100000 in
theorem cse_yX5_isFull : Cond.selects (cw_tab 6).1 yX5_isFull yX5_isFull ∈ cw_bw := List.mem_of_getElem? (i := 648) rfl
set_option maxRecDepth 100000 in
theorem cgo_yX5_isFull : GoodIn cw_bw [Cond.code yX5_isFull cX5_isFull 1 (some .boolean), Cond.initialized yX5_isFull.cls] := cw_gr _ [649, 636] rfl (by decide +kernel)
set_option maxRecDepth 100000 in
theorem cin_yX5_signOf : Cond.instanceMethod yX5_signOf ∈ cw_bw := List.mem_of_getElem? (i := 650) rfl
set_option maxRecDepth 100000 in
theorem cse_yX5_signOf : Cond.selects (cw_tab 6).1 yX5_signOf yX5_signOf ∈ cw_bw := List.mem_of_getElem? (i := 651) rfl
set_option maxRecDepth 100000 in
theorem cgo_yX5_signOf : GoodIn cw_bw [Cond.code yX5_signOf cX5_signOf 3 (some .int), Cond.initialized yX5_signOf.cls] := cw_gr _ [652, 636] rfl (by decide +kernel)
set_option maxRecDepth 100000 in
theorem cst_yX6_binder : Cond.static yX6_binder ∈ cw_bw := List.mem_of_getElem? (i := 653) rfl
set_option maxRecDepth 100000 in
theorem cgo_yX6_binder : GoodIn cw_bw [Cond.code yX6_binder cX6_binder 5 (some (.object "PureHouse$Node")), Cond.initialized yX6_binder.cls] := cw_gr _ [654, 655] rfl (by decide +kernel)
set_option maxRecDepth 100000 in
theorem cin_yX6_init : Cond.instanceMethod yX6_init ∈ cw_bw := List.mem_of_getElem? (i := 656) rfl
set_option maxRecDepth 100000 in
theorem cgo_yX6_init : GoodIn cw_bw [Cond.code yX6_init cX6_init 3 none, Cond.initialized yX6_init.cls] := cw_gr _ [657, 655] rfl (by decide +kernel)
set_option maxRecDepth 100000 in
theorem cin_yX6_keepSorts : Cond.instanceMethod yX6_keepSorts ∈ cw_bw := List.mem_of_getElem? (i := 658) rfl
set_option maxRecDepth 100000 in
theorem cse_yX6_keepSorts : Cond.selects (cw_tab 7).1 yX6_keepSorts yX6_keepSorts ∈ cw_bw := List.mem_of_getElem? (i := 659) rfl
set_option maxRecDepth 100000 in
theorem cgo_yX6_keepSorts : GoodIn cw_bw [Cond.code yX6_keepSorts cX6_keepSorts 3 none, Cond.initialized yX6_keepSorts.cls] := cw_gr _ [660, 655] rfl (by decide +kernel)
set_option maxRecDepth 100000 in
theorem cst_yX6_named : Cond.static yX6_named ∈ cw_bw := List.mem_of_getElem? (i := 661) rfl
set_option maxRecDepth 100000 in
theorem cgo_yX6_named : GoodIn cw_bw [Cond.code yX6_named cX6_named 3 (some (.object "PureHouse$Node")), Cond.initialized yX6_named.cls] := cw_gr _ [662, 655] rfl (by decide +kernel)
set_option maxRecDepth 100000 in
theorem cst_yX6_use : Cond.static yX6_use ∈ cw_bw := List.mem_of_getElem? (i := 663) rfl
set_option maxRecDepth 100000 in
theorem cgo_yX6_use : GoodIn cw_bw [Cond.code yX6_use cX6_use 3 (some (.object "PureHouse$Node")), Cond.initialized yX6_use.cls] := cw_gr _ [664, 655] rfl (by decide +kernel)
set_option maxRecDepth 100000 in
theorem cin_yX7_advance : Cond.instanceMethod yX7_advance ∈ cw_bw := List.mem_of_getElem? (i := 665) rfl
set_option maxRecDepth 100000 in
theorem cse_yX7_advance : Cond.selects (cw_tab 8).1 yX7_advance yX7_advance ∈ cw_bw := List.mem_of_getElem? (i := 666) rfl
set_option maxRecDepth 100000 in
theorem cgo_yX7_advance : GoodIn cw_bw [Cond.code yX7_advance cX7_advance 1 none, Cond.initialized yX7_advance.cls] := cw_gr _ [667, 668] rfl (by decide +kernel)
set_option maxRecDepth 100000 in
theorem cin_yX7_atom : Cond.instanceMethod yX7_atom ∈ cw_bw := List.mem_of_getElem? (i := 669) rfl
set_option maxRecDepth 100000 in
theorem cse_yX7_atom : Cond.selects (cw_tab 8).1 yX7_atom yX7_atom ∈ cw_bw := List.mem_of_getElem? (i := 670) rfl
set_option maxRecDepth 100000 in
theorem cgo_yX7_atom : GoodIn cw_bw [Cond.code yX7_atom cX7_atom 4 (some (.object "PureHouse$Node")), Cond.initialized yX7_atom.cls] := cw_gr _ [671, 668] rfl (by decide +kernel)
set_option maxRecDepth 100000 in
theorem cin_yX7_atomBegins : Cond.instanceMethod yX7_atomBegins ∈ cw_bw := List.mem_of_getElem? (i := 672) rfl
set_option maxRecDepth 100000 in
theorem cse_yX7_atomBegins : Cond.selects (cw_tab 8).1 yX7_atomBegins yX7_atomBegins ∈ cw_bw := List.mem_of_getElem? (i := 673) rfl
set_option maxRecDepth 100000 in
theorem cgo_yX7_atomBegins : GoodIn cw_bw [Cond.code yX7_atomBegins cX7_atomBegins 1 (some .boolean), Cond.initialized yX7_atomBegins.cls] := cw_gr _ [674, 668] rfl (by decide +kernel)
set_option maxRecDepth 100000 in
theorem cin_yX7_axiom : Cond.instanceMethod yX7_axiom ∈ cw_bw := List.mem_of_getElem? (i := 675) rfl
set_option maxRecDepth 100000 in
theorem cse_yX7_axiom : Cond.selects (cw_tab 8).1 yX7_axiom yX7_axiom ∈ cw_bw := List.mem_of_getElem? (i := 676) rfl
set_option maxRecDepth 100000 in
theorem cgo_yX7_axiom : GoodIn cw_bw [Cond.code yX7_axiom cX7_axiom 3 (some (.object "PureHouse$Statement")), Cond.initialized yX7_axiom.cls] := cw_gr _ [677, 668] rfl (by decide +kernel)
set_option maxRecDepth 100000 in
theorem cin_yX7_behindBlanks : Cond.instanceMethod yX7_behindBlanks ∈ cw_bw := List.mem_of_getElem? (i := 678) rfl
set_option maxRecDepth 100000 in
theorem cse_yX7_behindBlanks : Cond.selects (cw_tab 8).1 yX7_behindBlanks yX7_behindBlanks ∈ cw_bw := List.mem_of_getElem? (i := 679) rfl
set_option maxRecDepth 100000 in
theorem cgo_yX7_behindBlanks : GoodIn cw_bw [Cond.code yX7_behindBlanks cX7_behindBlanks 5 (some .int), Cond.initialized yX7_behindBlanks.cls] := cw_gr _ [680, 668] rfl (by decide +kernel)
set_option maxRecDepth 100000 in
theorem cin_yX7_binder : Cond.instanceMethod yX7_binder ∈ cw_bw := List.mem_of_getElem? (i := 681) rfl
set_option maxRecDepth 100000 in
theorem cse_yX7_binder : Cond.selects (cw_tab 8).1 yX7_binder yX7_binder ∈ cw_bw := List.mem_of_getElem? (i := 682) rfl
set_option maxRecDepth 100000 in
theorem cgo_yX7_binder : GoodIn cw_bw [Cond.code yX7_binder cX7_binder 8 (some (.object "PureHouse$Node")), Cond.initialized yX7_binder.cls] := cw_gr _ [683, 668] rfl (by decide +kernel)
set_option maxRecDepth 100000 in
theorem cin_yX7_closeOf : Cond.instanceMethod yX7_closeOf ∈ cw_bw := List.mem_of_getElem? (i := 684) rfl
set_option maxRecDepth 100000 in
theorem cse_yX7_closeOf : Cond.selects (cw_tab 8).1 yX7_closeOf yX7_closeOf ∈ cw_bw := List.mem_of_getElem? (i := 685) rfl
set_option maxRecDepth 100000 in
theorem cgo_yX7_closeOf : GoodIn cw_bw [Cond.code yX7_closeOf cX7_closeOf 3 (some .int), Cond.initialized yX7_closeOf.cls] := cw_gr _ [686, 668] rfl (by decide +kernel)
set_option maxRecDepth 100000 in
theorem cin_yX7_expect : Cond.instanceMethod yX7_expect ∈ cw_bw := List.mem_of_getElem? (i := 687) rfl
set_option maxRecDepth 100000 in
theorem cse_yX7_expect : Cond.selects (cw_tab 8).1 yX7_expect yX7_expect ∈ cw_bw := List.mem_of_getElem? (i := 688) rfl
set_option maxRecDepth 100000 in
theorem cgo_yX7_expect : GoodIn cw_bw [Cond.code yX7_expect cX7_expect 2 none, Cond.initialized yX7_expect.cls] := cw_gr _ [689, 668] rfl (by decide +kernel)
set_option maxRecDepth 100000 in
theorem cin_yX7_init : Cond.instanceMethod yX7_init ∈ cw_bw := List.mem_of_getElem? (i := 690) rfl
set_option maxRecDepth 100000 in
theorem cgo_yX7_init : GoodIn cw_bw [Cond.code yX7_init cX7_init 3 none, Cond.initialized yX7_init.cls] := cw_gr _ [691, 668] rfl (by decide +kernel)
set_option maxRecDepth 100000 in
theorem cst_yX7_isLetter : Cond.static yX7_isLetter ∈ cw_bw := List.mem_of_getElem? (i := 692) rfl
set_option maxRecDepth 100000 in
theorem cgo_yX7_isLetter : GoodIn cw_bw [Cond.code yX7_isLetter cX7_isLetter 1 (some .boolean), Cond.initialized yX7_isLetter.cls] := cw_gr _ [693, 668] rfl (by decide +kernel)
set_option maxRecDepth 100000 in
theorem cst_yX7_isNameSign : Cond.static yX7_isNameSign ∈ cw_bw := List.mem_of_getElem? (i := 694) rfl
set_option maxRecDepth 100000 in
theorem cgo_yX7_isNameSign : GoodIn cw_bw [Cond.code yX7_isNameSign cX7_isNameSign 1 (some .boolean), Cond.initialized yX7_isNameSign.cls] := cw_gr _ [695, 668] rfl (by decide +kernel)
set_option maxRecDepth 100000 in
theorem cin_yX7_isWord : Cond.instanceMethod yX7_isWord ∈ cw_bw := List.mem_of_getElem? (i := 696) rfl
set_option maxRecDepth 100000 in
theorem cse_yX7_isWord : Cond.selects (cw_tab 8).1 yX7_isWord yX7_isWord ∈ cw_bw := List.mem_of_getElem? (i := 697) rfl
set_option maxRecDepth 100000 in
theorem cgo_yX7_isWord : GoodIn cw_bw [Cond.code yX7_isWord cX7_isWord 3 (some .boolean), Cond.initialized yX7_isWord.cls] := cw_gr _ [698, 668] rfl (by decide +kernel)
set_option maxRecDepth 100000 in
theorem cin_yX7_nameStatement : Cond.instanceMethod yX7_nameStatement ∈ cw_bw := List.mem_of_getElem? (i := 699) rfl
set_option maxRecDepth 100000 in
theorem cse_yX7_nameStatement : Cond.selects (cw_tab 8).1 yX7_nameStatement yX7_nameStatement ∈ cw_bw := List.mem_of_getElem? (i := 700) rfl
set_option maxRecDepth 100000 in
theorem cgo_yX7_nameStatement : GoodIn cw_bw [Cond.code yX7_nameStatement cX7_nameStatement 5 (some (.object "PureHouse$Statement")), Cond.initialized yX7_nameStatement.cls] := cw_gr _ [701, 668] rfl (by decide +kernel)
set_option maxRecDepth 100000 in
theorem cin_yX7_nameToken : Cond.instanceMethod yX7_nameToken ∈ cw_bw := List.mem_of_getElem? (i := 702) rfl
set_option maxRecDepth 100000 in
theorem cse_yX7_nameToken : Cond.selects (cw_tab 8).1 yX7_nameToken yX7_nameToken ∈ cw_bw := List.mem_of_getElem? (i := 703) rfl
set_option maxRecDepth 100000 in
theorem cgo_yX7_nameToken : GoodIn cw_bw [Cond.code yX7_nameToken cX7_nameToken 3 (some .int), Cond.initialized yX7_nameToken.cls] := cw_gr _ [704, 668] rfl (by decide +kernel)
set_option maxRecDepth 100000 in
theorem cin_yX7_newId : Cond.instanceMethod yX7_newId ∈ cw_bw := List.mem_of_getElem? (i := 705) rfl
set_option maxRecDepth 100000 in
theorem cse_yX7_newId : Cond.selects (cw_tab 8).1 yX7_newId yX7_newId ∈ cw_bw := List.mem_of_getElem? (i := 706) rfl
set_option maxRecDepth 100000 in
theorem cgo_yX7_newId : GoodIn cw_bw [Cond.code yX7_newId cX7_newId 1 (some .int), Cond.initialized yX7_newId.cls] := cw_gr _ [707, 668] rfl (by decide +kernel)
set_option maxRecDepth 100000 in
theorem cin_yX7_readText : Cond.instanceMethod yX7_readText ∈ cw_bw := List.mem_of_getElem? (i := 708) rfl
set_option maxRecDepth 100000 in
theorem cse_yX7_readText : Cond.selects (cw_tab 8).1 yX7_readText yX7_readText ∈ cw_bw := List.mem_of_getElem? (i := 709) rfl
set_option maxRecDepth 100000 in
theorem cgo_yX7_readText : GoodIn cw_bw [Cond.code yX7_readText cX7_readText 4 (some (.object "java/util/List")), Cond.initialized yX7_readText.cls] := cw_gr _ [710, 668] rfl (by decide +kernel)
set_option maxRecDepth 100000 in
theorem cin_yX7_refuse : Cond.instanceMethod yX7_refuse ∈ cw_bw := List.mem_of_getElem? (i := 711) rfl
set_option maxRecDepth 100000 in
theorem cse_yX7_refuse : Cond.selects (cw_tab 8).1 yX7_refuse yX7_refuse ∈ cw_bw := List.mem_of_getElem? (i := 712) rfl
set_option maxRecDepth 100000 in
theorem cgo_yX7_refuse : GoodIn cw_bw [Cond.code yX7_refuse cX7_refuse 1 none, Cond.initialized yX7_refuse.cls] := cw_gr _ [713, 668] rfl (by decide +kernel)
set_option maxRecDepth 100000 in
theorem cin_yX7_sameStatement : Cond.instanceMethod yX7_sameStatement ∈ cw_bw := List.mem_of_getElem? (i := 714) rfl
set_option maxRecDepth 100000 in
theorem cse_yX7_sameStatement : Cond.selects (cw_tab 8).1 yX7_sameStatement yX7_sameStatement ∈ cw_bw := List.mem_of_getElem? (i := 715) rfl
set_option maxRecDepth 100000 in
theorem cgo_yX7_sameStatement : GoodIn cw_bw [Cond.code yX7_sameStatement cX7_sameStatement 3 (some (.object "PureHouse$Statement")), Cond.initialized yX7_sameStatement.cls] := cw_gr _ [716, 668] rfl (by decide +kernel)
set_option maxRecDepth 100000 in
theorem cin_yX7_scan : Cond.instanceMethod yX7_scan ∈ cw_bw := List.mem_of_getElem? (i := 717) rfl
set_option maxRecDepth 100000 in
theorem cse_yX7_scan : Cond.selects (cw_tab 8).1 yX7_scan yX7_scan ∈ cw_bw := List.mem_of_getElem? (i := 718) rfl
set_option maxRecDepth 100000 in
theorem cgo_yX7_scan : GoodIn cw_bw [Cond.code yX7_scan cX7_scan 3 none, Cond.initialized yX7_scan.cls] := cw_gr _ [719, 668] rfl (by decide +kernel)
set_option maxRecDepth 100000 in
theorem cin_yX7_signToken : Cond.instanceMethod yX7_signToken ∈ cw_bw := List.mem_of_getElem? (i := 720) rfl
set_option maxRecDepth 100000 in
theorem cse_yX7_signToken : Cond.selects (cw_tab 8).1 yX7_signToken yX7_signToken ∈ cw_bw := List.mem_of_getElem? (i := 721) rfl
set_option maxRecDepth 100000 in
theorem cgo_yX7_signToken : GoodIn cw_bw [Cond.code yX7_signToken cX7_signToken 3 (some .int), Cond.initialized yX7_signToken.cls] := cw_gr _ [722, 668] rfl (by decide +kernel)
set_option maxRecDepth 100000 in
theorem cin_yX7_statement : Cond.instanceMethod yX7_statement ∈ cw_bw := List.mem_of_getElem? (i := 723) rfl
set_option maxRecDepth 100000 in
theorem cse_yX7_statement : Cond.selects (cw_tab 8).1 yX7_statement yX7_statement ∈ cw_bw := List.mem_of_getElem? (i := 724) rfl
set_option maxRecDepth 100000 in
theorem cgo_yX7_statement : GoodIn cw_bw [Cond.code yX7_statement cX7_statement 3 (some (.object "PureHouse$Statement")), Cond.initialized yX7_statement.cls] := cw_gr _ [725, 668] rfl (by decide +kernel)
set_option maxRecDepth 100000 in
theorem cin_yX7_takeName : Cond.instanceMethod yX7_takeName ∈ cw_bw := List.mem_of_getElem? (i := 726) rfl
set_option maxRecDepth 100000 in
theorem cse_yX7_takeName : Cond.selects (cw_tab 8).1 yX7_takeName yX7_takeName ∈ cw_bw := List.mem_of_getElem? (i := 727) rfl
set_option maxRecDepth 100000 in
theorem cgo_yX7_takeName : GoodIn cw_bw [Cond.code yX7_takeName cX7_takeName 2 (some (.object "PureHouse$Node")), Cond.initialized yX7_takeName.cls] := cw_gr _ [728, 668] rfl (by decide +kernel)
set_option maxRecDepth 100000 in
theorem cin_yX7_term : Cond.instanceMethod yX7_term ∈ cw_bw := List.mem_of_getElem? (i := 729) rfl
set_option maxRecDepth 100000 in
theorem cse_yX7_term : Cond.selects (cw_tab 8).1 yX7_term yX7_term ∈ cw_bw := List.mem_of_getElem? (i := 730) rfl
set_option maxRecDepth 100000 in
theorem cgo_yX7_term : GoodIn cw_bw [Cond.code yX7_term cX7_term 5 (some (.object "PureHouse$Node")), Cond.initialized yX7_term.cls] := cw_gr _ [731, 668] rfl (by decide +kernel)
set_option maxRecDepth 100000 in
theorem cin_yX7_termStatement : Cond.instanceMethod yX7_termStatement ∈ cw_bw := List.mem_of_getElem? (i := 732) rfl
set_option maxRecDepth 100000 in
theorem cse_yX7_termStatement : Cond.selects (cw_tab 8).1 yX7_termStatement yX7_termStatement ∈ cw_bw := List.mem_of_getElem? (i := 733) rfl
set_option maxRecDepth 100000 in
theorem cgo_yX7_termStatement : GoodIn cw_bw [Cond.code yX7_termStatement cX7_termStatement 5 (some (.object "PureHouse$Statement")), Cond.initialized yX7_termStatement.cls] := cw_gr _ [734, 668] rfl (by decide +kernel)
set_option maxRecDepth 100000 in
theorem cin_yX7_use : Cond.instanceMethod yX7_use ∈ cw_bw := List.mem_of_getElem? (i := 735) rfl
set_option maxRecDepth 100000 in
theorem cse_yX7_use : Cond.selects (cw_tab 8).1 yX7_use yX7_use ∈ cw_bw := List.mem_of_getElem? (i := 736) rfl
set_option maxRecDepth 100000 in
theorem cgo_yX7_use : GoodIn cw_bw [Cond.code yX7_use cX7_use 6 (some (.object "PureHouse$Node")), Cond.initialized yX7_use.cls] := cw_gr _ [737, 668] rfl (by decide +kernel)
set_option maxRecDepth 100000 in
theorem cin_yX7_wordNumber : Cond.instanceMethod yX7_wordNumber ∈ cw_bw := List.mem_of_getElem? (i := 738) rfl
set_option maxRecDepth 100000 in
theorem cse_yX7_wordNumber : Cond.selects (cw_tab 8).1 yX7_wordNumber yX7_wordNumber ∈ cw_bw := List.mem_of_getElem? (i := 739) rfl
set_option maxRecDepth 100000 in
theorem cgo_yX7_wordNumber : GoodIn cw_bw [Cond.code yX7_wordNumber cX7_wordNumber 2 (some .int), Cond.initialized yX7_wordNumber.cls] := cw_gr _ [740, 668] rfl (by decide +kernel)
set_option maxRecDepth 100000 in
theorem cin_yX8_init : Cond.instanceMethod yX8_init ∈ cw_bw := List.mem_of_getElem? (i := 741) rfl
set_option maxRecDepth 100000 in
theorem cgo_yX8_init : GoodIn cw_bw [Cond.code yX8_init cX8_init 7 none, Cond.initialized yX8_init.cls] := cw_gr _ [742, 743] rfl (by decide +kernel)
set_option maxRecDepth 100000 in
theorem cst_yX8_letsOf : Cond.static yX8_letsOf ∈ cw_bw := List.mem_of_getElem? (i := 744) rfl
set_option maxRecDepth 100000 in
theorem cgo_yX8_letsOf : GoodIn cw_bw [Cond.code yX8_letsOf cX8_letsOf 1 (some (.object "PureHouse$Link")), Cond.initialized yX8_letsOf.cls] := cw_gr _ [745, 743] rfl (by decide +kernel)
set_option maxRecDepth 100000 in
theorem cin_yX9_init : Cond.instanceMethod yX9_init ∈ cw_bw := List.mem_of_getElem? (i := 746) rfl
set_option maxRecDepth 100000 in
theorem cgo_yX9_init : GoodIn cw_bw [Cond.code yX9_init cX9_init 6 none, Cond.initialized yX9_init.cls] := cw_gr _ [747, 748] rfl (by decide +kernel)
set_option maxRecDepth 100000 in
theorem cnl_X0_9 : Cond.classLink RX0 9 (cw_tab 6).1 ∈ cw_bw := List.mem_of_getElem? (i := 749) rfl
set_option maxRecDepth 100000 in
theorem cnl_X1_29 : Cond.classLink RX1 29 (cw_tab 4).1 ∈ cw_bw := List.mem_of_getElem? (i := 750) rfl
set_option maxRecDepth 100000 in
theorem cnl_X11_13 : Cond.classLink RX11 13 (cw_tab 11).1 ∈ cw_bw := List.mem_of_getElem? (i := 751) rfl
set_option maxRecDepth 100000 in
theorem cnl_X11_20 : Cond.classLink RX11 20 (cw_tab 1).1 ∈ cw_bw := List.mem_of_getElem? (i := 752) rfl
set_option maxRecDepth 100000 in
theorem cnl_X11_27 : Cond.classLink RX11 27 (cw_tab 5).1 ∈ cw_bw := List.mem_of_getElem? (i := 753) rfl
set_option maxRecDepth 100000 in
theorem cnl_X11_36 : Cond.classLink RX11 36 (cw_tab 8).1 ∈ cw_bw := List.mem_of_getElem? (i := 754) rfl
set_option maxRecDepth 100000 in
theorem cnl_X11_45 : Cond.classLink RX11 45 (cw_tab 3).1 ∈ cw_bw := List.mem_of_getElem? (i := 755) rfl
set_option maxRecDepth 100000 in
theorem cnl_X11_196 : Cond.classLink RX11 196 (cw_tab 7).1 ∈ cw_bw := List.mem_of_getElem? (i := 756) rfl
set_option maxRecDepth 100000 in
theorem cnl_X2_40 : Cond.classLink RX2 40 (cw_tab 7).1 ∈ cw_bw := List.mem_of_getElem? (i := 757) rfl
set_option maxRecDepth 100000 in
theorem cnl_X2_54 : Cond.classLink RX2 54 (cw_tab 9).1 ∈ cw_bw := List.mem_of_getElem? (i := 758) rfl
set_option maxRecDepth 100000 in
theorem cnl_X2_88 : Cond.classLink RX2 88 (cw_tab 4).1 ∈ cw_bw := List.mem_of_getElem? (i := 759) rfl
set_option maxRecDepth 100000 in
theorem cnl_X4_65 : Cond.classLink RX4 65 (cw_tab 2).1 ∈ cw_bw := List.mem_of_getElem? (i := 760) rfl
set_option maxRecDepth 100000 in
theorem cnl_X4_75 : Cond.classLink RX4 75 (cw_tab 4).1 ∈ cw_bw := List.mem_of_getElem? (i := 761) rfl
set_option maxRecDepth 100000 in
theorem cnl_X4_104 : Cond.classLink RX4 104 (cw_tab 7).1 ∈ cw_bw := List.mem_of_getElem? (i := 762) rfl
set_option maxRecDepth 100000 in
theorem cnl_X6_10 : Cond.classLink RX6 10 (cw_tab 7).1 ∈ cw_bw := List.mem_of_getElem? (i := 763) rfl
set_option maxRecDepth 100000 in
theorem cnl_X7_57 : Cond.classLink RX7 57 (cw_tab 13).1 ∈ cw_bw := List.mem_of_getElem? (i := 764) rfl
set_option maxRecDepth 100000 in
theorem cnl_X7_81 : Cond.classLink RX7 81 (cw_tab 10).1 ∈ cw_bw := List.mem_of_getElem? (i := 765) rfl
set_option maxRecDepth 100000 in
theorem cnl_X8_33 : Cond.classLink RX8 33 (cw_tab 4).1 ∈ cw_bw := List.mem_of_getElem? (i := 766) rfl
set_option maxRecDepth 100000 in
theorem cni_1 : Cond.instantiable (cw_tab 1).1 11 ∈ cw_bw := List.mem_of_getElem? (i := 767) rfl
set_option maxRecDepth 100000 in
theorem cnz_1 : Cond.initialized (cw_tab 1).1 ∈ cw_bw := List.mem_of_getElem? (i := 443) rfl
set_option maxRecDepth 100000 in
theorem cni_2 : Cond.instantiable (cw_tab 2).1 4 ∈ cw_bw := List.mem_of_getElem? (i := 768) rfl
set_option maxRecDepth 100000 in
theorem cnz_2 : Cond.initialized (cw_tab 2).1 ∈ cw_bw := List.mem_of_getElem? (i := 470) rfl
set_option maxRecDepth 100000 in
theorem cni_3 : Cond.instantiable (cw_tab 3).1 5 ∈ cw_bw := List.mem_of_getElem? (i := 769) rfl
set_option maxRecDepth 100000 in
theorem cnz_3 : Cond.initialized (cw_tab 3).1 ∈ cw_bw := List.mem_of_getElem? (i := 539) rfl
set_option maxRecDepth 100000 in
theorem cni_4 : Cond.instantiable (cw_tab 4).1 5 ∈ cw_bw := List.mem_of_getElem? (i := 770) rfl
set_option maxRecDepth 100000 in
theorem cnz_4 : Cond.initialized (cw_tab 4).1 ∈ cw_bw := List.mem_of_getElem? (i := 575) rfl
set_option maxRecDepth 100000 in
theorem cni_5 : Cond.instantiable (cw_tab 5).1 8 ∈ cw_bw := List.mem_of_getElem? (i := 771) rfl
set_option maxRecDepth 100000 in
theorem cnz_5 : Cond.initialized (cw_tab 5).1 ∈ cw_bw := List.mem_of_getElem? (i := 585) rfl
set_option maxRecDepth 100000 in
theorem cni_6 : Cond.instantiable (cw_tab 6).1 3 ∈ cw_bw := List.mem_of_getElem? (i := 772) rfl
set_option maxRecDepth 100000 in
theorem cnz_6 : Cond.initialized (cw_tab 6).1 ∈ cw_bw := List.mem_of_getElem? (i := 636) rfl
set_option maxRecDepth 100000 in
theorem cni_7 : Cond.instantiable (cw_tab 7).1 11 ∈ cw_bw := List.mem_of_getElem? (i := 773) rfl
set_option maxRecDepth 100000 in
theorem cnz_7 : Cond.initialized (cw_tab 7).1 ∈ cw_bw := List.mem_of_getElem? (i := 655) rfl
set_option maxRecDepth 100000 in
theorem cni_8 : Cond.instantiable (cw_tab 8).1 11 ∈ cw_bw := List.mem_of_getElem? (i := 774) rfl
set_option maxRecDepth 100000 in
theorem cnz_8 : Cond.initialized (cw_tab 8).1 ∈ cw_bw := List.mem_of_getElem? (i := 668) rfl
set_option maxRecDepth 100000 in
theorem cni_9 : Cond.instantiable (cw_tab 9).1 5 ∈ cw_bw := List.mem_of_getElem? (i := 775) rfl
set_option maxRecDepth 100000 in
theorem cnz_9 : Cond.initialized (cw_tab 9).1 ∈ cw_bw := List.mem_of_getElem? (i := 743) rfl
set_option maxRecDepth 100000 in
theorem cni_10 : Cond.instantiable (cw_tab 10).1 5 ∈ cw_bw := List.mem_of_getElem? (i := 776) rfl
set_option maxRecDepth 100000 in
theorem cnz_10 : Cond.initialized (cw_tab 10).1 ∈ cw_bw := List.mem_of_getElem? (i := 748) rfl
set_option maxRecDepth 100000 in
theorem cni_11 : Cond.instantiable (cw_tab 11).1 2 ∈ cw_bw := List.mem_of_getElem? (i := 777) rfl
set_option maxRecDepth 100000 in
theorem cnz_11 : Cond.initialized (cw_tab 11).1 ∈ cw_bw := List.mem_of_getElem? (i := 479) rfl
set_option maxRecDepth 100000 in
theorem cni_13 : Cond.instantiable (cw_tab 13).1 3 ∈ cw_bw := List.mem_of_getElem? (i := 778) rfl
set_option maxRecDepth 100000 in
theorem cnz_13 : Cond.initialized (cw_tab 13).1 ∈ cw_bw := List.mem_of_getElem? (i := 413) rfl
set_option maxRecDepth 100000 in
theorem csf_0 : Cond.sameField "java/util/ArrayList" ((cw_tab 13).2.1 0).1 ((cw_tab 13).2.1 0).2.1 ((cw_tab 13).2.1 0).2.2.1 ∈ cw_bw := List.mem_of_getElem? (i := 779) rfl
set_option maxRecDepth 100000 in
theorem cfr_Jx4a65c_63 : Cond.fieldLink RJx4a65c 63 "java/util/ArrayList" ((cw_tab 13).2.1 0).2.1 ((cw_tab 13).2.1 0).2.2.1 ∈ cw_bw := List.mem_of_getElem? (i := 780) rfl
set_option maxRecDepth 100000 in
theorem ccl_J7_2 : Cond.classLink RJ7 2 "java/lang/Object" ∈ cw_bw := List.mem_of_getElem? (i := 781) rfl
set_option maxRecDepth 100000 in
theorem ccl_J7_110 : Cond.classLink RJ7 110 "[Ljava/lang/Object;" ∈ cw_bw := List.mem_of_getElem? (i := 782) rfl
set_option maxRecDepth 100000 in
theorem ccl_Jx4a65c_7 : Cond.classLink RJx4a65c 7 "java/lang/Object" ∈ cw_bw := List.mem_of_getElem? (i := 783) rfl
set_option maxRecDepth 100000 in
theorem ccl_X0_37 : Cond.classLink RX0 37 (cw_tab 7).1 ∈ cw_bw := List.mem_of_getElem? (i := 784) rfl
set_option maxRecDepth 100000 in
theorem ccl_X11_177 : Cond.classLink RX11 177 (cw_tab 10).1 ∈ cw_bw := List.mem_of_getElem? (i := 785) rfl
set_option maxRecDepth 100000 in
theorem ccl_X4_104 : Cond.classLink RX4 104 (cw_tab 7).1 ∈ cw_bw := List.mem_of_getElem? (i := 786) rfl
set_option maxRecDepth 100000 in
theorem ccl_X7_122 : Cond.classLink RX7 122 (cw_tab 7).1 ∈ cw_bw := List.mem_of_getElem? (i := 787) rfl
set_option maxRecDepth 100000 in
theorem csl_Jx4a65c_39 : Cond.fieldLink RJx4a65c 39 "java/util/ArrayList" "DEFAULTCAPACITY_EMPTY_ELEMENTDATA" "[Ljava/lang/Object;" ∈ cw_bw := List.mem_of_getElem? (i := 788) rfl
set_option maxRecDepth 100000 in
theorem csl_X0_58 : Cond.fieldLink RX0 58 "PureHouse$Book" "CORNER_SIGNS" "[B" ∈ cw_bw := List.mem_of_getElem? (i := 789) rfl
set_option maxRecDepth 100000 in
theorem cfm_X11_168 : Cond.methodLink RX11 168 cx_size ∈ cw_bw := List.mem_of_getElem? (i := 790) rfl
set_option maxRecDepth 100000 in
theorem cfs_yJx4a65c_size_8abf5 : Cond.selects RJx4a65c cx_size yJx4a65c_size_8abf5 ∈ cw_bw := List.mem_of_getElem? (i := 791) rfl
set_option maxRecDepth 100000 in
theorem cfm_X11_173 : Cond.methodLink RX11 173 cx_get ∈ cw_bw := List.mem_of_getElem? (i := 792) rfl
set_option maxRecDepth 100000 in
theorem cfs_yJx4a65c_get_915e3 : Cond.selects RJx4a65c cx_get yJx4a65c_get_915e3 ∈ cw_bw := List.mem_of_getElem? (i := 793) rfl
set_option maxRecDepth 100000 in
theorem cfm_X7_67 : Cond.methodLink RX7 67 cx_add ∈ cw_bw := List.mem_of_getElem? (i := 794) rfl
set_option maxRecDepth 100000 in
theorem cfs_yJx4a65c_add_9ea2d : Cond.selects RJx4a65c cx_add yJx4a65c_add_9ea2d ∈ cw_bw := List.mem_of_getElem? (i := 795) rfl
set_option maxRecDepth 100000 in
theorem cfm_X7_150 : Cond.methodLink RX7 150 cx_size ∈ cw_bw := List.mem_of_getElem? (i := 796) rfl
set_option maxRecDepth 100000 in
theorem cfm_X7_153 : Cond.methodLink RX7 153 cx_get ∈ cw_bw := List.mem_of_getElem? (i := 797) rfl
set_option maxRecDepth 100000 in
theorem cml_J7_304 : Cond.methodLink RJ7 304 Lib.Math.min.name ∈ cw_bw := List.mem_of_getElem? (i := 798) rfl
set_option maxRecDepth 100000 in
theorem cml_J8_194 : Cond.methodLink RJ8 194 Lib.Math.max.name ∈ cw_bw := List.mem_of_getElem? (i := 799) rfl
set_option maxRecDepth 100000 in
theorem cml_Jx4a65c_79 : Cond.methodLink RJx4a65c 79 Lib.Math.max.name ∈ cw_bw := List.mem_of_getElem? (i := 800) rfl
set_option maxRecDepth 100000 in
theorem cml_X7_48 : Cond.methodLink RX7 48 Lib.Math.min.name ∈ cw_bw := List.mem_of_getElem? (i := 801) rfl
set_option maxRecDepth 100000 in
theorem cma_max_s : Cond.static Lib.Math.max.name ∈ cw_bw := List.mem_of_getElem? (i := 802) rfl
set_option maxRecDepth 100000 in
theorem cma_max_c : Cond.code Lib.Math.max.name Lib.Math.max.code 2 (some .int) ∈ cw_bw := List.mem_of_getElem? (i := 803) rfl
set_option maxRecDepth 100000 in
theorem cma_min_s : Cond.static Lib.Math.min.name ∈ cw_bw := List.mem_of_getElem? (i := 804) rfl
set_option maxRecDepth 100000 in
theorem cma_min_c : Cond.code Lib.Math.min.name Lib.Math.min.code 2 (some .int) ∈ cw_bw := List.mem_of_getElem? (i := 805) rfl
set_option maxRecDepth 100000 in
theorem cma_i : Cond.initialized "java/lang/Math" ∈ cw_bw := List.mem_of_getElem? (i := 806) rfl
set_option maxRecDepth 100000 in
theorem cnm_J7_86 : Cond.methodLink RJ7 86 ⟨"java/lang/Object", "getClass", "()Ljava/lang/Class;"⟩ ∈ cw_bw := List.mem_of_getElem? (i := 807) rfl
set_option maxRecDepth 100000 in
theorem cnm_J7_150 : Cond.methodLink RJ7 150 arraycopyName ∈ cw_bw := List.mem_of_getElem? (i := 808) rfl
set_option maxRecDepth 100000 in
theorem cgc_s : Cond.selects "[Ljava/lang/Object;" ⟨"java/lang/Object", "getClass", "()Ljava/lang/Class;"⟩ ⟨"java/lang/Object", "getClass", "()Ljava/lang/Class;"⟩ ∈ cw_bw := List.mem_of_getElem? (i := 809) rfl
set_option maxRecDepth 100000 in
theorem cgc_i : Cond.instanceMethod ⟨"java/lang/Object", "getClass", "()Ljava/lang/Class;"⟩ ∈ cw_bw := List.mem_of_getElem? (i := 810) rfl
set_option maxRecDepth 100000 in
theorem cgc_n : Cond.native ⟨"java/lang/Object", "getClass", "()Ljava/lang/Class;"⟩ ∈ cw_bw := List.mem_of_getElem? (i := 811) rfl
set_option maxRecDepth 100000 in
theorem cay_n : Cond.native arraycopyName ∈ cw_bw := List.mem_of_getElem? (i := 812) rfl
set_option maxRecDepth 100000 in
theorem cay_s : Cond.static arraycopyName ∈ cw_bw := List.mem_of_getElem? (i := 813) rfl
set_option maxRecDepth 100000 in
theorem cay_i : Cond.initialized "java/lang/System" ∈ cw_bw := List.mem_of_getElem? (i := 814) rfl
set_option maxRecDepth 100000 in
theorem cjl_X4_208 : Cond.methodLink RX4 208 yJ0_length_8abf5 ∈ cw_bw := List.mem_of_getElem? (i := 815) rfl
set_option maxRecDepth 100000 in
theorem cjl_X4_214 : Cond.methodLink RX4 214 yJ0_charAt_5068e ∈ cw_bw := List.mem_of_getElem? (i := 816) rfl
set_option maxRecDepth 100000 in
theorem cjl_X7_194 : Cond.methodLink RX7 194 yJ0_charAt_5068e ∈ cw_bw := List.mem_of_getElem? (i := 817) rfl
set_option maxRecDepth 100000 in
theorem cji_charAt : Cond.instanceMethod yJ0_charAt_5068e ∈ cw_bw := List.mem_of_getElem? (i := 818) rfl
set_option maxRecDepth 100000 in
theorem cjs_charAt : Cond.selects RJ0 yJ0_charAt_5068e yJ0_charAt_5068e ∈ cw_bw := List.mem_of_getElem? (i := 819) rfl
set_option maxRecDepth 100000 in
theorem cgj_charAt : GoodIn cw_bw [Cond.code yJ0_charAt_5068e cJ0_charAt_5068e 2 (some .char), Cond.initialized RJ0] := cw_gr _ [820, 821] rfl (by decide +kernel)
set_option maxRecDepth 100000 in
theorem cji_length : Cond.instanceMethod yJ0_length_8abf5 ∈ cw_bw := List.mem_of_getElem? (i := 822) rfl
set_option maxRecDepth 100000 in
theorem cjs_length : Cond.selects RJ0 yJ0_length_8abf5 yJ0_length_8abf5 ∈ cw_bw := List.mem_of_getElem? (i := 823) rfl
set_option maxRecDepth 100000 in
theorem cgj_length : GoodIn cw_bw [Cond.code yJ0_length_8abf5 cJ0_length_8abf5 1 (some .int), Cond.initialized RJ0] := cw_gr _ [824, 821] rfl (by decide +kernel)
set_option maxRecDepth 100000 in
theorem cac_int : Cond.arrayClass (Op.newarray.typeOf .int) ∈ cw_bw := List.mem_of_getElem? (i := 825) rfl
set_option maxRecDepth 100000 in
theorem cac_byte : Cond.arrayClass (Op.newarray.typeOf .byte) ∈ cw_bw := List.mem_of_getElem? (i := 826) rfl
set_option maxRecDepth 100000 in
theorem coi_Jxa1e45_1 : Cond.methodLink RJxa1e45 1 objectInit ∈ cw_bw := List.mem_of_getElem? (i := 827) rfl
set_option maxRecDepth 100000 in
theorem coi_X0_3 : Cond.methodLink RX0 3 objectInit ∈ cw_bw := List.mem_of_getElem? (i := 828) rfl
set_option maxRecDepth 100000 in
theorem coi_X1_1 : Cond.methodLink RX1 1 objectInit ∈ cw_bw := List.mem_of_getElem? (i := 829) rfl
set_option maxRecDepth 100000 in
theorem coi_X10_3 : Cond.methodLink RX10 3 objectInit ∈ cw_bw := List.mem_of_getElem? (i := 830) rfl
set_option maxRecDepth 100000 in
theorem coi_X11_1 : Cond.methodLink RX11 1 objectInit ∈ cw_bw := List.mem_of_getElem? (i := 831) rfl
set_option maxRecDepth 100000 in
theorem coi_X2_3 : Cond.methodLink RX2 3 objectInit ∈ cw_bw := List.mem_of_getElem? (i := 832) rfl
set_option maxRecDepth 100000 in
theorem coi_X3_1 : Cond.methodLink RX3 1 objectInit ∈ cw_bw := List.mem_of_getElem? (i := 833) rfl
set_option maxRecDepth 100000 in
theorem coi_X4_3 : Cond.methodLink RX4 3 objectInit ∈ cw_bw := List.mem_of_getElem? (i := 834) rfl
set_option maxRecDepth 100000 in
theorem coi_X5_3 : Cond.methodLink RX5 3 objectInit ∈ cw_bw := List.mem_of_getElem? (i := 835) rfl
set_option maxRecDepth 100000 in
theorem coi_X6_3 : Cond.methodLink RX6 3 objectInit ∈ cw_bw := List.mem_of_getElem? (i := 836) rfl
set_option maxRecDepth 100000 in
theorem coi_X7_3 : Cond.methodLink RX7 3 objectInit ∈ cw_bw := List.mem_of_getElem? (i := 837) rfl
set_option maxRecDepth 100000 in
theorem coi_X8_1 : Cond.methodLink RX8 1 objectInit ∈ cw_bw := List.mem_of_getElem? (i := 838) rfl
set_option maxRecDepth 100000 in
theorem coi_X9_1 : Cond.methodLink RX9 1 objectInit ∈ cw_bw := List.mem_of_getElem? (i := 839) rfl
set_option maxRecDepth 100000 in
theorem coi2 : Cond.instanceMethod objectInit ∈ cw_bw := List.mem_of_getElem? (i := 840) rfl
set_option maxRecDepth 100000 in
theorem coi3 : Cond.code objectInit ⟨#[0xb1]⟩ 1 none ∈ cw_bw := List.mem_of_getElem? (i := 841) rfl
set_option maxRecDepth 100000 in
theorem cxc_X11_158 : Cond.classLink RX11 158 (cw_ex 1) ∈ cw_bw := List.mem_of_getElem? (i := 842) rfl
set_option maxRecDepth 100000 in
theorem cxc_X11_74 : Cond.classLink RX11 74 (cw_ex 2) ∈ cw_bw := List.mem_of_getElem? (i := 843) rfl
set_option maxRecDepth 100000 in
theorem cxc_X11_81 : Cond.classLink RX11 81 (cw_ex 3) ∈ cw_bw := List.mem_of_getElem? (i := 844) rfl
set_option maxRecDepth 100000 in
theorem cxc_X2_82 : Cond.classLink RX2 82 (cw_ex 1) ∈ cw_bw := List.mem_of_getElem? (i := 845) rfl
set_option maxRecDepth 100000 in
theorem cxc_X4_92 : Cond.classLink RX4 92 (cw_ex 1) ∈ cw_bw := List.mem_of_getElem? (i := 846) rfl
set_option maxRecDepth 100000 in
theorem cxc_X7_113 : Cond.classLink RX7 113 (cw_ex 1) ∈ cw_bw := List.mem_of_getElem? (i := 847) rfl
set_option maxRecDepth 100000 in
theorem cxi_1 : Cond.initialized (cw_ex 1) ∈ cw_bw := List.mem_of_getElem? (i := 848) rfl
set_option maxRecDepth 100000 in
theorem cxi_2 : Cond.initialized (cw_ex 2) ∈ cw_bw := List.mem_of_getElem? (i := 849) rfl
set_option maxRecDepth 100000 in
theorem cxi_3 : Cond.initialized (cw_ex 3) ∈ cw_bw := List.mem_of_getElem? (i := 850) rfl
set_option maxRecDepth 100000 in
theorem cxa_X11_76 : ∀ w ∈ (vx_at0 RX11 76 (cw_ex 2) ["java/lang/RuntimeException", "java/lang/Exception"]).filter goodWord, w ∈ cw_bw := fun w h => List.mem_append_right _ (List.mem_append_left _ (List.mem_append_left _ h))
set_option maxRecDepth 100000 in
theorem cxg_X11_76 : (Cond.classLink RX11 74 (cw_ex 2) :: Cond.initialized (cw_ex 2) :: vx_at0 RX11 76 (cw_ex 2) ["java/lang/RuntimeException", "java/lang/Exception"]).all vx_ot = true := by decide +kernel
set_option maxRecDepth 100000 in
theorem cxa_X11_83 : ∀ w ∈ (vx_at0 RX11 83 (cw_ex 3) ["java/lang/RuntimeException", "java/lang/Exception"]).filter goodWord, w ∈ cw_bw := fun w h => List.mem_append_right _ (List.mem_append_left _ (List.mem_append_right _ (List.mem_append_left _ h)))
set_option maxRecDepth 100000 in
theorem cxg_X11_83 : (Cond.classLink RX11 81 (cw_ex 3) :: Cond.initialized (cw_ex 3) :: vx_at0 RX11 83 (cw_ex 3) ["java/lang/RuntimeException", "java/lang/Exception"]).all vx_ot = true := by decide +kernel
set_option maxRecDepth 100000 in
theorem cxa_X11_160 : ∀ w ∈ (vx_at0 RX11 160 (cw_ex 1) ["java/lang/RuntimeException", "java/lang/Exception"]).filter goodWord, w ∈ cw_bw := fun w h => List.mem_append_right _ (List.mem_append_left _ (List.mem_append_right _ (List.mem_append_right _ (List.mem_append_left _ h))))
set_option maxRecDepth 100000 in
theorem cxg_X11_160 : (Cond.classLink RX11 158 (cw_ex 1) :: Cond.initialized (cw_ex 1) :: vx_at0 RX11 160 (cw_ex 1) ["java/lang/RuntimeException", "java/lang/Exception"]).all vx_ot = true := by decide +kernel
set_option maxRecDepth 100000 in
theorem cxa_X2_84 : ∀ w ∈ (vx_at0 RX2 84 (cw_ex 1) ["java/lang/RuntimeException", "java/lang/Exception"]).filter goodWord, w ∈ cw_bw := fun w h => List.mem_append_right _ (List.mem_append_left _ (List.mem_append_right _ (List.mem_append_right _ (List.mem_append_right _ (List.mem_append_left _ h)))))
set_option maxRecDepth 100000 in
theorem cxg_X2_84 : (Cond.classLink RX2 82 (cw_ex 1) :: Cond.initialized (cw_ex 1) :: vx_at0 RX2 84 (cw_ex 1) ["java/lang/RuntimeException", "java/lang/Exception"]).all vx_ot = true := by decide +kernel
set_option maxRecDepth 100000 in
theorem cxa_X4_94 : ∀ w ∈ (vx_at0 RX4 94 (cw_ex 1) ["java/lang/RuntimeException", "java/lang/Exception"]).filter goodWord, w ∈ cw_bw := fun w h => List.mem_append_right _ (List.mem_append_left _ (List.mem_append_right _ (List.mem_append_right _ (List.mem_append_right _ (List.mem_append_right _ (List.mem_append_left _ h))))))
set_option maxRecDepth 100000 in
theorem cxg_X4_94 : (Cond.classLink RX4 92 (cw_ex 1) :: Cond.initialized (cw_ex 1) :: vx_at0 RX4 94 (cw_ex 1) ["java/lang/RuntimeException", "java/lang/Exception"]).all vx_ot = true := by decide +kernel
set_option maxRecDepth 100000 in
theorem cxa_X7_115 : ∀ w ∈ (vx_at0 RX7 115 (cw_ex 1) ["java/lang/RuntimeException", "java/lang/Exception"]).filter goodWord, w ∈ cw_bw := fun w h => List.mem_append_right _ (List.mem_append_left _ (List.mem_append_right _ (List.mem_append_right _ (List.mem_append_right _ (List.mem_append_right _ (List.mem_append_right _ h))))))
set_option maxRecDepth 100000 in
theorem cxg_X7_115 : (Cond.classLink RX7 113 (cw_ex 1) :: Cond.initialized (cw_ex 1) :: vx_at0 RX7 115 (cw_ex 1) ["java/lang/RuntimeException", "java/lang/Exception"]).all vx_ot = true := by decide +kernel
theorem cw_str_X4_204 {v : cwE} {s : State} (h : cw_K v s) : vk_R RX4 204 "yes" (cw_ad v 1) s := by
  replace h := h.2.2
  exact h.1
theorem cw_str_X4_206 {v : cwE} {s : State} (h : cw_K v s) : vk_R RX4 206 "no" (cw_ad v 2) s := by
  replace h := h.2.2
  exact h.2.1
theorem cw_str_X7_192 {v : cwE} {s : State} (h : cw_K v s) : vk_R RX7 192 "sort  axiom rule  check norm  same  head  let   in    " (cw_ad v 0) s := by
  replace h := h.2.2
  exact h.2.2.1
theorem cw_nst_15 {v : cwE} {s : State} (h : cw_K v s) : va_Nw (.methodLinkNest RX11 15 yX10_init RX11) s := h.2.2.2.2.2.1
theorem cw_nst_22 {v : cwE} {s : State} (h : cw_K v s) : va_Nw (.methodLinkNest RX11 22 yX0_init RX11) s := h.2.2.2.2.2.2
