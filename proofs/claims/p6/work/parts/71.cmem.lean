theorem cw_gr {big : List Cond} (ws : List Cond) (ps : List Nat) (hp : ps.filterMap (fun i => big[i]?) = ws) (h : ws.all goodWord = true) : GoodIn big ws := by
  intro w hw
  have h1 := List.all_eq_true.mp h w hw
  rw [← hp] at hw
  obtain ⟨i, -, hi⟩ := List.mem_filterMap.mp hw
  exact ⟨List.mem_of_getElem? hi, good_of_word h1⟩
theorem cwi_1 : ∀ w ∈ u_ws (cw_tab 1).1 (cw_tab 1).2.1 (cw_tab 1).2.2, w ∈ cw_bw := fun w h => List.mem_append_left _ (List.mem_append_left _ h)
theorem cwt_1 : cw_OKt 1 := ⟨⟨by decide, by decide⟩, cwi_1, tyX0_ok, by decide +kernel⟩
theorem cwd_1 : ∀ f, f < (cw_tab 1).2.2 → defaultValue (cw_ty 1 f) = cw_fv 1 f (if cw_isR 1 f = true then -1 else 0) := by
  intro f hf
  match f, hf with
  | 0, _ => rfl
  | 1, _ => rfl
  | 2, _ => rfl
  | 3, _ => rfl
  | 4, _ => rfl
  | 5, _ => rfl
  | 6, _ => rfl
  | 7, _ => rfl
  | 8, _ => rfl
  | 9, _ => rfl
  | 10, _ => rfl
  | f + 11, hf => exact absurd hf (by simp [cw_tab])
theorem cwi_2 : ∀ w ∈ u_ws (cw_tab 2).1 (cw_tab 2).2.1 (cw_tab 2).2.2, w ∈ cw_bw := fun w h => List.mem_append_left _ (List.mem_append_right _ (List.mem_append_left _ h))
theorem cwt_2 : cw_OKt 2 := ⟨⟨by decide, by decide⟩, cwi_2, tyX1_ok, by decide +kernel⟩
theorem cwd_2 : ∀ f, f < (cw_tab 2).2.2 → defaultValue (cw_ty 2 f) = cw_fv 2 f (if cw_isR 2 f = true then -1 else 0) := by
  intro f hf
  match f, hf with
  | 0, _ => rfl
  | 1, _ => rfl
  | 2, _ => rfl
  | 3, _ => rfl
  | f + 4, hf => exact absurd hf (by simp [cw_tab])
theorem cwi_3 : ∀ w ∈ u_ws (cw_tab 3).1 (cw_tab 3).2.1 (cw_tab 3).2.2, w ∈ cw_bw := fun w h => List.mem_append_left _ (List.mem_append_right _ (List.mem_append_right _ (List.mem_append_left _ h)))
theorem cwt_3 : cw_OKt 3 := ⟨⟨by decide, by decide⟩, cwi_3, tyX2_ok, by decide +kernel⟩
theorem cwd_3 : ∀ f, f < (cw_tab 3).2.2 → defaultValue (cw_ty 3 f) = cw_fv 3 f (if cw_isR 3 f = true then -1 else 0) := by
  intro f hf
  match f, hf with
  | 0, _ => rfl
  | 1, _ => rfl
  | 2, _ => rfl
  | 3, _ => rfl
  | 4, _ => rfl
  | f + 5, hf => exact absurd hf (by simp [cw_tab])
theorem cwi_4 : ∀ w ∈ u_ws (cw_tab 4).1 (cw_tab 4).2.1 (cw_tab 4).2.2, w ∈ cw_bw := fun w h => List.mem_append_left _ (List.mem_append_right _ (List.mem_append_right _ (List.mem_append_right _ (List.mem_append_left _ h))))
theorem cwt_4 : cw_OKt 4 := ⟨⟨by decide, by decide⟩, cwi_4, tyX3_ok, by decide +kernel⟩
theorem cwd_4 : ∀ f, f < (cw_tab 4).2.2 → defaultValue (cw_ty 4 f) = cw_fv 4 f (if cw_isR 4 f = true then -1 else 0) := by
  intro f hf
  match f, hf with
  | 0, _ => rfl
  | 1, _ => rfl
  | 2, _ => rfl
  | 3, _ => rfl
  | 4, _ => rfl
  | f + 5, hf => exact absurd hf (by simp [cw_tab])
theorem cwi_5 : ∀ w ∈ u_ws (cw_tab 5).1 (cw_tab 5).2.1 (cw_tab 5).2.2, w ∈ cw_bw := fun w h => List.mem_append_left _ (List.mem_append_right _ (List.mem_append_right _ (List.mem_append_right _ (List.mem_append_right _ (List.mem_append_left _ h)))))
theorem cwt_5 : cw_OKt 5 := ⟨⟨by decide, by decide⟩, cwi_5, tyX4_ok, by decide +kernel⟩
theorem cwd_5 : ∀ f, f < (cw_tab 5).2.2 → defaultValue (cw_ty 5 f) = cw_fv 5 f (if cw_isR 5 f = true then -1 else 0) := by
  intro f hf
  match f, hf with
  | 0, _ => rfl
  | 1, _ => rfl
  | 2, _ => rfl
  | 3, _ => rfl
  | 4, _ => rfl
  | 5, _ => rfl
  | 6, _ => rfl
  | 7, _ => rfl
  | f + 8, hf => exact absurd hf (by simp [cw_tab])
theorem cwi_6 : ∀ w ∈ u_ws (cw_tab 6).1 (cw_tab 6).2.1 (cw_tab 6).2.2, w ∈ cw_bw := fun w h => List.mem_append_left _ (List.mem_append_right _ (List.mem_append_right _ (List.mem_append_right _ (List.mem_append_right _ (List.mem_append_right _ (List.mem_append_left _ h))))))
theorem cwt_6 : cw_OKt 6 := ⟨⟨by decide, by decide⟩, cwi_6, tyX5_ok, by decide +kernel⟩
theorem cwd_6 : ∀ f, f < (cw_tab 6).2.2 → defaultValue (cw_ty 6 f) = cw_fv 6 f (if cw_isR 6 f = true then -1 else 0) := by
  intro f hf
  match f, hf with
  | 0, _ => rfl
  | 1, _ => rfl
  | 2, _ => rfl
  | f + 3, hf => exact absurd hf (by simp [cw_tab])
theorem cwi_7 : ∀ w ∈ u_ws (cw_tab 7).1 (cw_tab 7).2.1 (cw_tab 7).2.2, w ∈ cw_bw := fun w h => List.mem_append_left _ (List.mem_append_right _ (List.mem_append_right _ (List.mem_append_right _ (List.mem_append_right _ (List.mem_append_right _ (List.mem_append_right _ (List.mem_append_left _ h)))))))
theorem cwt_7 : cw_OKt 7 := ⟨⟨by decide, by decide⟩, cwi_7, tyX6_ok, by decide +kernel⟩
theorem cwd_7 : ∀ f, f < (cw_tab 7).2.2 → defaultValue (cw_ty 7 f) = cw_fv 7 f (if cw_isR 7 f = true then -1 else 0) := by
  intro f hf
  match f, hf with
  | 0, _ => rfl
  | 1, _ => rfl
  | 2, _ => rfl
  | 3, _ => rfl
  | 4, _ => rfl
  | 5, _ => rfl
  | 6, _ => rfl
  | 7, _ => rfl
  | 8, _ => rfl
  | 9, _ => rfl
  | 10, _ => rfl
  | f + 11, hf => exact absurd hf (by simp [cw_tab])
theorem cwi_8 : ∀ w ∈ u_ws (cw_tab 8).1 (cw_tab 8).2.1 (cw_tab 8).2.2, w ∈ cw_bw := fun w h => List.mem_append_left _ (List.mem_append_right _ (List.mem_append_right _ (List.mem_append_right _ (List.mem_append_right _ (List.mem_append_right _ (List.mem_append_right _ (List.mem_append_right _ (List.mem_append_left _ h))))))))
theorem cwt_8 : cw_OKt 8 := ⟨⟨by decide, by decide⟩, cwi_8, tyX7_ok, by decide +kernel⟩
theorem cwd_8 : ∀ f, f < (cw_tab 8).2.2 → defaultValue (cw_ty 8 f) = cw_fv 8 f (if cw_isR 8 f = true then -1 else 0) := by
  intro f hf
  match f, hf with
  | 0, _ => rfl
  | 1, _ => rfl
  | 2, _ => rfl
  | 3, _ => rfl
  | 4, _ => rfl
  | 5, _ => rfl
  | 6, _ => rfl
  | 7, _ => rfl
  | f + 8, hf => exact absurd hf (by simp [cw_tab])
theorem cwi_9 : ∀ w ∈ u_ws (cw_tab 9).1 (cw_tab 9).2.1 (cw_tab 9).2.2, w ∈ cw_bw := fun w h => List.mem_append_left _ (List.mem_append_right _ (List.mem_append_right _ (List.mem_append_right _ (List.mem_append_right _ (List.mem_append_right _ (List.mem_append_right _ (List.mem_append_right _ (List.mem_append_right _ (List.mem_append_left _ h)))))))))
theorem cwt_9 : cw_OKt 9 := ⟨⟨by decide, by decide⟩, cwi_9, tyX8_ok, by decide +kernel⟩
theorem cwd_9 : ∀ f, f < (cw_tab 9).2.2 → defaultValue (cw_ty 9 f) = cw_fv 9 f (if cw_isR 9 f = true then -1 else 0) := by
  intro f hf
  match f, hf with
  | 0, _ => rfl
  | 1, _ => rfl
  | 2, _ => rfl
  | 3, _ => rfl
  | 4, _ => rfl
  | f + 5, hf => exact absurd hf (by simp [cw_tab])
theorem cwi_10 : ∀ w ∈ u_ws (cw_tab 10).1 (cw_tab 10).2.1 (cw_tab 10).2.2, w ∈ cw_bw := fun w h => List.mem_append_left _ (List.mem_append_right _ (List.mem_append_right _ (List.mem_append_right _ (List.mem_append_right _ (List.mem_append_right _ (List.mem_append_right _ (List.mem_append_right _ (List.mem_append_right _ (List.mem_append_right _ (List.mem_append_left _ h))))))))))
theorem cwt_10 : cw_OKt 10 := ⟨⟨by decide, by decide⟩, cwi_10, tyX9_ok, by decide +kernel⟩
theorem cwd_10 : ∀ f, f < (cw_tab 10).2.2 → defaultValue (cw_ty 10 f) = cw_fv 10 f (if cw_isR 10 f = true then -1 else 0) := by
  intro f hf
  match f, hf with
  | 0, _ => rfl
  | 1, _ => rfl
  | 2, _ => rfl
  | 3, _ => rfl
  | 4, _ => rfl
  | f + 5, hf => exact absurd hf (by simp [cw_tab])
theorem cwi_11 : ∀ w ∈ u_ws (cw_tab 11).1 (cw_tab 11).2.1 (cw_tab 11).2.2, w ∈ cw_bw := fun w h => List.mem_append_left _ (List.mem_append_right _ (List.mem_append_right _ (List.mem_append_right _ (List.mem_append_right _ (List.mem_append_right _ (List.mem_append_right _ (List.mem_append_right _ (List.mem_append_right _ (List.mem_append_right _ (List.mem_append_right _ (List.mem_append_left _ h)))))))))))
theorem cwt_11 : cw_OKt 11 := ⟨⟨by decide, by decide⟩, cwi_11, tyX10_ok, by decide +kernel⟩
theorem cwd_11 : ∀ f, f < (cw_tab 11).2.2 → defaultValue (cw_ty 11 f) = cw_fv 11 f (if cw_isR 11 f = true then -1 else 0) := by
  intro f hf
  match f, hf with
  | 0, _ => rfl
  | 1, _ => rfl
  | f + 2, hf => exact absurd hf (by simp [cw_tab])
theorem cwi_12 : ∀ w ∈ u_ws (cw_tab 12).1 (cw_tab 12).2.1 (cw_tab 12).2.2, w ∈ cw_bw := fun w h => List.mem_append_left _ (List.mem_append_right _ (List.mem_append_right _ (List.mem_append_right _ (List.mem_append_right _ (List.mem_append_right _ (List.mem_append_right _ (List.mem_append_right _ (List.mem_append_right _ (List.mem_append_right _ (List.mem_append_right _ (List.mem_append_right _ (List.mem_append_left _ h))))))))))))
theorem cwt_12 : cw_OKt 12 := ⟨⟨by decide, by decide⟩, cwi_12, tyX11_ok, by decide +kernel⟩
theorem cwd_12 : ∀ f, f < (cw_tab 12).2.2 → defaultValue (cw_ty 12 f) = cw_fv 12 f (if cw_isR 12 f = true then -1 else 0) := by
  intro f hf
  match f, hf with
  | 0, _ => rfl
  | 1, _ => rfl
  | 2, _ => rfl
  | 3, _ => rfl
  | 4, _ => rfl
  | 5, _ => rfl
  | 6, _ => rfl
  | 7, _ => rfl
  | 8, _ => rfl
  | 9, _ => rfl
  | f + 10, hf => exact absurd hf (by simp [cw_tab])
set_option maxRecDepth 100000 in
theorem cfl_0_16 : Cond.fieldLink RX0 16 ((cw_tab 1).2.1 0).1 ((cw_tab 1).2.1 0).2.1 ((cw_tab 1).2.1 0).2.2.1 ∈ cw_bw := List.mem_of_getElem? (i := 77) rfl
set_option maxRecDepth 100000 in
theorem cfl_0_20 : Cond.fieldLink RX0 20 ((cw_tab 1).2.1 1).1 ((cw_tab 1).2.1 1).2.1 ((cw_tab 1).2.1 1).2.2.1 ∈ cw_bw := List.mem_of_getElem? (i := 78) rfl
set_option maxRecDepth 100000 in
theorem cfl_0_24 : Cond.fieldLink RX0 24 ((cw_tab 1).2.1 2).1 ((cw_tab 1).2.1 2).2.1 ((cw_tab 1).2.1 2).2.2.1 ∈ cw_bw := List.mem_of_getElem? (i := 79) rfl
set_option maxRecDepth 100000 in
theorem cfl_0_27 : Cond.fieldLink RX0 27 ((cw_tab 1).2.1 3).1 ((cw_tab 1).2.1 3).2.1 ((cw_tab 1).2.1 3).2.2.1 ∈ cw_bw := List.mem_of_getElem? (i := 80) rfl
set_option maxRecDepth 100000 in
theorem cfl_0_31 : Cond.fieldLink RX0 31 ((cw_tab 1).2.1 4).1 ((cw_tab 1).2.1 4).2.1 ((cw_tab 1).2.1 4).2.2.1 ∈ cw_bw := List.mem_of_getElem? (i := 81) rfl
set_option maxRecDepth 100000 in
theorem cfl_0_34 : Cond.fieldLink RX0 34 ((cw_tab 1).2.1 5).1 ((cw_tab 1).2.1 5).2.1 ((cw_tab 1).2.1 5).2.2.1 ∈ cw_bw := List.mem_of_getElem? (i := 82) rfl
set_option maxRecDepth 100000 in
theorem cfl_0_39 : Cond.fieldLink RX0 39 ((cw_tab 1).2.1 6).1 ((cw_tab 1).2.1 6).2.1 ((cw_tab 1).2.1 6).2.2.1 ∈ cw_bw := List.mem_of_getElem? (i := 83) rfl
set_option maxRecDepth 100000 in
theorem cfl_0_43 : Cond.fieldLink RX0 43 ((cw_tab 1).2.1 7).1 ((cw_tab 1).2.1 7).2.1 ((cw_tab 1).2.1 7).2.2.1 ∈ cw_bw := List.mem_of_getElem? (i := 84) rfl
set_option maxRecDepth 100000 in
theorem cfl_0_46 : Cond.fieldLink RX0 46 ((cw_tab 1).2.1 8).1 ((cw_tab 1).2.1 8).2.1 ((cw_tab 1).2.1 8).2.2.1 ∈ cw_bw := List.mem_of_getElem? (i := 85) rfl
set_option maxRecDepth 100000 in
theorem cfl_0_52 : Cond.fieldLink RX0 52 ((cw_tab 1).2.1 10).1 ((cw_tab 1).2.1 10).2.1 ((cw_tab 1).2.1 10).2.2.1 ∈ cw_bw := List.mem_of_getElem? (i := 86) rfl
set_option maxRecDepth 100000 in
theorem cfl_0_74 : Cond.fieldLink RX0 74 ((cw_tab 6).2.1 2).1 ((cw_tab 6).2.1 2).2.1 ((cw_tab 6).2.1 2).2.2.1 ∈ cw_bw := List.mem_of_getElem? (i := 87) rfl
set_option maxRecDepth 100000 in
theorem cfl_0_85 : Cond.fieldLink RX0 85 ((cw_tab 7).2.1 4).1 ((cw_tab 7).2.1 4).2.1 ((cw_tab 7).2.1 4).2.2.1 ∈ cw_bw := List.mem_of_getElem? (i := 88) rfl
set_option maxRecDepth 100000 in
theorem cfl_0_88 : Cond.fieldLink RX0 88 ((cw_tab 7).2.1 5).1 ((cw_tab 7).2.1 5).2.1 ((cw_tab 7).2.1 5).2.2.1 ∈ cw_bw := List.mem_of_getElem? (i := 89) rfl
set_option maxRecDepth 100000 in
theorem cfl_1_7 : Cond.fieldLink RX1 7 ((cw_tab 2).2.1 0).1 ((cw_tab 2).2.1 0).2.1 ((cw_tab 2).2.1 0).2.2.1 ∈ cw_bw := List.mem_of_getElem? (i := 90) rfl
set_option maxRecDepth 100000 in
theorem cfl_1_13 : Cond.fieldLink RX1 13 ((cw_tab 2).2.1 1).1 ((cw_tab 2).2.1 1).2.1 ((cw_tab 2).2.1 1).2.2.1 ∈ cw_bw := List.mem_of_getElem? (i := 91) rfl
set_option maxRecDepth 100000 in
theorem cfl_1_17 : Cond.fieldLink RX1 17 ((cw_tab 2).2.1 2).1 ((cw_tab 2).2.1 2).2.1 ((cw_tab 2).2.1 2).2.2.1 ∈ cw_bw := List.mem_of_getElem? (i := 92) rfl
set_option maxRecDepth 100000 in
theorem cfl_1_21 : Cond.fieldLink RX1 21 ((cw_tab 2).2.1 3).1 ((cw_tab 2).2.1 3).2.1 ((cw_tab 2).2.1 3).2.2.1 ∈ cw_bw := List.mem_of_getElem? (i := 93) rfl
set_option maxRecDepth 100000 in
theorem cfl_1_24 : Cond.fieldLink RX1 24 ((cw_tab 7).2.1 0).1 ((cw_tab 7).2.1 0).2.1 ((cw_tab 7).2.1 0).2.2.1 ∈ cw_bw := List.mem_of_getElem? (i := 94) rfl
set_option maxRecDepth 100000 in
theorem cfl_1_29 : Cond.fieldLink RX1 29 ((cw_tab 7).2.1 1).1 ((cw_tab 7).2.1 1).2.1 ((cw_tab 7).2.1 1).2.2.1 ∈ cw_bw := List.mem_of_getElem? (i := 95) rfl
set_option maxRecDepth 100000 in
theorem cfl_2_9 : Cond.fieldLink RX2 9 ((cw_tab 3).2.1 4).1 ((cw_tab 3).2.1 4).2.1 ((cw_tab 3).2.1 4).2.2.1 ∈ cw_bw := List.mem_of_getElem? (i := 96) rfl
set_option maxRecDepth 100000 in
theorem cfl_2_15 : Cond.fieldLink RX2 15 ((cw_tab 3).2.1 0).1 ((cw_tab 3).2.1 0).2.1 ((cw_tab 3).2.1 0).2.2.1 ∈ cw_bw := List.mem_of_getElem? (i := 97) rfl
set_option maxRecDepth 100000 in
theorem cfl_2_19 : Cond.fieldLink RX2 19 ((cw_tab 3).2.1 1).1 ((cw_tab 3).2.1 1).2.1 ((cw_tab 3).2.1 1).2.2.1 ∈ cw_bw := List.mem_of_getElem? (i := 98) rfl
set_option maxRecDepth 100000 in
theorem cfl_2_23 : Cond.fieldLink RX2 23 ((cw_tab 3).2.1 2).1 ((cw_tab 3).2.1 2).2.1 ((cw_tab 3).2.1 2).2.2.1 ∈ cw_bw := List.mem_of_getElem? (i := 99) rfl
set_option maxRecDepth 100000 in
theorem cfl_2_27 : Cond.fieldLink RX2 27 ((cw_tab 3).2.1 3).1 ((cw_tab 3).2.1 3).2.1 ((cw_tab 3).2.1 3).2.2.1 ∈ cw_bw := List.mem_of_getElem? (i := 100) rfl
set_option maxRecDepth 100000 in
theorem cfl_2_39 : Cond.fieldLink RX2 39 ((cw_tab 7).2.1 6).1 ((cw_tab 7).2.1 6).2.1 ((cw_tab 7).2.1 6).2.2.1 ∈ cw_bw := List.mem_of_getElem? (i := 101) rfl
set_option maxRecDepth 100000 in
theorem cfl_2_48 : Cond.fieldLink RX2 48 ((cw_tab 7).2.1 0).1 ((cw_tab 7).2.1 0).2.1 ((cw_tab 7).2.1 0).2.2.1 ∈ cw_bw := List.mem_of_getElem? (i := 102) rfl
set_option maxRecDepth 100000 in
theorem cfl_2_93 : Cond.fieldLink RX2 93 ((cw_tab 9).2.1 0).1 ((cw_tab 9).2.1 0).2.1 ((cw_tab 9).2.1 0).2.2.1 ∈ cw_bw := List.mem_of_getElem? (i := 103) rfl
set_option maxRecDepth 100000 in
theorem cfl_2_100 : Cond.fieldLink RX2 100 ((cw_tab 7).2.1 1).1 ((cw_tab 7).2.1 1).2.1 ((cw_tab 7).2.1 1).2.2.1 ∈ cw_bw := List.mem_of_getElem? (i := 104) rfl
set_option maxRecDepth 100000 in
theorem cfl_2_103 : Cond.fieldLink RX2 103 ((cw_tab 9).2.1 2).1 ((cw_tab 9).2.1 2).2.1 ((cw_tab 9).2.1 2).2.2.1 ∈ cw_bw := List.mem_of_getElem? (i := 105) rfl
set_option maxRecDepth 100000 in
theorem cfl_2_110 : Cond.fieldLink RX2 110 ((cw_tab 9).2.1 1).1 ((cw_tab 9).2.1 1).2.1 ((cw_tab 9).2.1 1).2.2.1 ∈ cw_bw := List.mem_of_getElem? (i := 106) rfl
set_option maxRecDepth 100000 in
theorem cfl_2_113 : Cond.fieldLink RX2 113 ((cw_tab 9).2.1 4).1 ((cw_tab 9).2.1 4).2.1 ((cw_tab 9).2.1 4).2.2.1 ∈ cw_bw := List.mem_of_getElem? (i := 107) rfl
set_option maxRecDepth 100000 in
theorem cfl_2_117 : Cond.fieldLink RX2 117 ((cw_tab 1).2.1 5).1 ((cw_tab 1).2.1 5).2.1 ((cw_tab 1).2.1 5).2.2.1 ∈ cw_bw := List.mem_of_getElem? (i := 108) rfl
set_option maxRecDepth 100000 in
theorem cfl_2_123 : Cond.fieldLink RX2 123 ((cw_tab 7).2.1 4).1 ((cw_tab 7).2.1 4).2.1 ((cw_tab 7).2.1 4).2.2.1 ∈ cw_bw := List.mem_of_getElem? (i := 109) rfl
set_option maxRecDepth 100000 in
theorem cfl_2_126 : Cond.fieldLink RX2 126 ((cw_tab 7).2.1 5).1 ((cw_tab 7).2.1 5).2.1 ((cw_tab 7).2.1 5).2.2.1 ∈ cw_bw := List.mem_of_getElem? (i := 110) rfl
set_option maxRecDepth 100000 in
theorem cfl_2_135 : Cond.fieldLink RX2 135 ((cw_tab 1).2.1 8).1 ((cw_tab 1).2.1 8).2.1 ((cw_tab 1).2.1 8).2.2.1 ∈ cw_bw := List.mem_of_getElem? (i := 111) rfl
set_option maxRecDepth 100000 in
theorem cfl_2_139 : Cond.fieldLink RX2 139 ((cw_tab 1).2.1 6).1 ((cw_tab 1).2.1 6).2.1 ((cw_tab 1).2.1 6).2.2.1 ∈ cw_bw := List.mem_of_getElem? (i := 112) rfl
set_option maxRecDepth 100000 in
theorem cfl_2_142 : Cond.fieldLink RX2 142 ((cw_tab 1).2.1 0).1 ((cw_tab 1).2.1 0).2.1 ((cw_tab 1).2.1 0).2.2.1 ∈ cw_bw := List.mem_of_getElem? (i := 113) rfl
set_option maxRecDepth 100000 in
theorem cfl_2_145 : Cond.fieldLink RX2 145 ((cw_tab 7).2.1 2).1 ((cw_tab 7).2.1 2).2.1 ((cw_tab 7).2.1 2).2.2.1 ∈ cw_bw := List.mem_of_getElem? (i := 114) rfl
set_option maxRecDepth 100000 in
theorem cfl_2_169 : Cond.fieldLink RX2 169 ((cw_tab 7).2.1 3).1 ((cw_tab 7).2.1 3).2.1 ((cw_tab 7).2.1 3).2.2.1 ∈ cw_bw := List.mem_of_getElem? (i := 115) rfl
set_option maxRecDepth 100000 in
theorem cfl_3_7 : Cond.fieldLink RX3 7 ((cw_tab 4).2.1 0).1 ((cw_tab 4).2.1 0).2.1 ((cw_tab 4).2.1 0).2.2.1 ∈ cw_bw := List.mem_of_getElem? (i := 116) rfl
set_option maxRecDepth 100000 in
theorem cfl_3_13 : Cond.fieldLink RX3 13 ((cw_tab 4).2.1 1).1 ((cw_tab 4).2.1 1).2.1 ((cw_tab 4).2.1 1).2.2.1 ∈ cw_bw := List.mem_of_getElem? (i := 117) rfl
set_option maxRecDepth 100000 in
theorem cfl_3_17 : Cond.fieldLink RX3 17 ((cw_tab 4).2.1 2).1 ((cw_tab 4).2.1 2).2.1 ((cw_tab 4).2.1 2).2.2.1 ∈ cw_bw := List.mem_of_getElem? (i := 118) rfl
set_option maxRecDepth 100000 in
theorem cfl_3_21 : Cond.fieldLink RX3 21 ((cw_tab 4).2.1 3).1 ((cw_tab 4).2.1 3).2.1 ((cw_tab 4).2.1 3).2.2.1 ∈ cw_bw := List.mem_of_getElem? (i := 119) rfl
set_option maxRecDepth 100000 in
theorem cfl_3_24 : Cond.fieldLink RX3 24 ((cw_tab 4).2.1 4).1 ((cw_tab 4).2.1 4).2.1 ((cw_tab 4).2.1 4).2.2.1 ∈ cw_bw := List.mem_of_getElem? (i := 120) rfl
set_option maxRecDepth 100000 in
theorem cfl_4_9 : Cond.fieldLink RX4 9 ((cw_tab 5).2.1 2).1 ((cw_tab 5).2.1 2).2.1 ((cw_tab 5).2.1 2).2.2.1 ∈ cw_bw := List.mem_of_getElem? (i := 121) rfl
set_option maxRecDepth 100000 in
theorem cfl_4_15 : Cond.fieldLink RX4 15 ((cw_tab 5).2.1 3).1 ((cw_tab 5).2.1 3).2.1 ((cw_tab 5).2.1 3).2.2.1 ∈ cw_bw := List.mem_of_getElem? (i := 122) rfl
set_option maxRecDepth 100000 in
theorem cfl_4_19 : Cond.fieldLink RX4 19 ((cw_tab 5).2.1 4).1 ((cw_tab 5).2.1 4).2.1 ((cw_tab 5).2.1 4).2.2.1 ∈ cw_bw := List.mem_of_getElem? (i := 123) rfl
set_option maxRecDepth 100000 in
theorem cfl_4_22 : Cond.fieldLink RX4 22 ((cw_tab 5).2.1 5).1 ((cw_tab 5).2.1 5).2.1 ((cw_tab 5).2.1 5).2.2.1 ∈ cw_bw := List.mem_of_getElem? (i := 124) rfl
set_option maxRecDepth 100000 in
theorem cfl_4_25 : Cond.fieldLink RX4 25 ((cw_tab 5).2.1 6).1 ((cw_tab 5).2.1 6).2.1 ((cw_tab 5).2.1 6).2.2.1 ∈ cw_bw := List.mem_of_getElem? (i := 125) rfl
set_option maxRecDepth 100000 in
theorem cfl_4_29 : Cond.fieldLink RX4 29 ((cw_tab 5).2.1 7).1 ((cw_tab 5).2.1 7).2.1 ((cw_tab 5).2.1 7).2.2.1 ∈ cw_bw := List.mem_of_getElem? (i := 126) rfl
set_option maxRecDepth 100000 in
theorem cfl_4_32 : Cond.fieldLink RX4 32 ((cw_tab 5).2.1 0).1 ((cw_tab 5).2.1 0).2.1 ((cw_tab 5).2.1 0).2.2.1 ∈ cw_bw := List.mem_of_getElem? (i := 127) rfl
set_option maxRecDepth 100000 in
theorem cfl_4_36 : Cond.fieldLink RX4 36 ((cw_tab 5).2.1 1).1 ((cw_tab 5).2.1 1).2.1 ((cw_tab 5).2.1 1).2.2.1 ∈ cw_bw := List.mem_of_getElem? (i := 128) rfl
set_option maxRecDepth 100000 in
theorem cfl_4_66 : Cond.fieldLink RX4 66 ((cw_tab 2).2.1 3).1 ((cw_tab 2).2.1 3).2.1 ((cw_tab 2).2.1 3).2.2.1 ∈ cw_bw := List.mem_of_getElem? (i := 129) rfl
set_option maxRecDepth 100000 in
theorem cfl_4_100 : Cond.fieldLink RX4 100 ((cw_tab 7).2.1 0).1 ((cw_tab 7).2.1 0).2.1 ((cw_tab 7).2.1 0).2.2.1 ∈ cw_bw := List.mem_of_getElem? (i := 130) rfl
set_option maxRecDepth 100000 in
theorem cfl_4_105 : Cond.fieldLink RX4 105 ((cw_tab 7).2.1 8).1 ((cw_tab 7).2.1 8).2.1 ((cw_tab 7).2.1 8).2.2.1 ∈ cw_bw := List.mem_of_getElem? (i := 131) rfl
set_option maxRecDepth 100000 in
theorem cfl_4_112 : Cond.fieldLink RX4 112 ((cw_tab 7).2.1 6).1 ((cw_tab 7).2.1 6).2.1 ((cw_tab 7).2.1 6).2.2.1 ∈ cw_bw := List.mem_of_getElem? (i := 132) rfl
set_option maxRecDepth 100000 in
theorem cfl_4_116 : Cond.fieldLink RX4 116 ((cw_tab 7).2.1 1).1 ((cw_tab 7).2.1 1).2.1 ((cw_tab 7).2.1 1).2.2.1 ∈ cw_bw := List.mem_of_getElem? (i := 133) rfl
set_option maxRecDepth 100000 in
theorem cfl_4_122 : Cond.fieldLink RX4 122 ((cw_tab 7).2.1 7).1 ((cw_tab 7).2.1 7).2.1 ((cw_tab 7).2.1 7).2.2.1 ∈ cw_bw := List.mem_of_getElem? (i := 134) rfl
set_option maxRecDepth 100000 in
theorem cfl_4_125 : Cond.fieldLink RX4 125 ((cw_tab 4).2.1 1).1 ((cw_tab 4).2.1 1).2.1 ((cw_tab 4).2.1 1).2.2.1 ∈ cw_bw := List.mem_of_getElem? (i := 135) rfl
set_option maxRecDepth 100000 in
theorem cfl_4_128 : Cond.fieldLink RX4 128 ((cw_tab 4).2.1 2).1 ((cw_tab 4).2.1 2).2.1 ((cw_tab 4).2.1 2).2.2.1 ∈ cw_bw := List.mem_of_getElem? (i := 136) rfl
set_option maxRecDepth 100000 in
theorem cfl_4_131 : Cond.fieldLink RX4 131 ((cw_tab 4).2.1 4).1 ((cw_tab 4).2.1 4).2.1 ((cw_tab 4).2.1 4).2.2.1 ∈ cw_bw := List.mem_of_getElem? (i := 137) rfl
set_option maxRecDepth 100000 in
theorem cfl_4_144 : Cond.fieldLink RX4 144 ((cw_tab 4).2.1 3).1 ((cw_tab 4).2.1 3).2.1 ((cw_tab 4).2.1 3).2.2.1 ∈ cw_bw := List.mem_of_getElem? (i := 138) rfl
set_option maxRecDepth 100000 in
theorem cfl_4_157 : Cond.fieldLink RX4 157 ((cw_tab 2).2.1 0).1 ((cw_tab 2).2.1 0).2.1 ((cw_tab 2).2.1 0).2.2.1 ∈ cw_bw := List.mem_of_getElem? (i := 139) rfl
set_option maxRecDepth 100000 in
theorem cfl_4_160 : Cond.fieldLink RX4 160 ((cw_tab 2).2.1 2).1 ((cw_tab 2).2.1 2).2.1 ((cw_tab 2).2.1 2).2.2.1 ∈ cw_bw := List.mem_of_getElem? (i := 140) rfl
set_option maxRecDepth 100000 in
theorem cfl_4_165 : Cond.fieldLink RX4 165 ((cw_tab 2).2.1 1).1 ((cw_tab 2).2.1 1).2.1 ((cw_tab 2).2.1 1).2.2.1 ∈ cw_bw := List.mem_of_getElem? (i := 141) rfl
set_option maxRecDepth 100000 in
theorem cfl_4_190 : Cond.fieldLink RX4 190 ((cw_tab 1).2.1 0).1 ((cw_tab 1).2.1 0).2.1 ((cw_tab 1).2.1 0).2.2.1 ∈ cw_bw := List.mem_of_getElem? (i := 142) rfl
set_option maxRecDepth 100000 in
theorem cfl_4_198 : Cond.fieldLink RX4 198 ((cw_tab 1).2.1 5).1 ((cw_tab 1).2.1 5).2.1 ((cw_tab 1).2.1 5).2.2.1 ∈ cw_bw := List.mem_of_getElem? (i := 143) rfl
set_option maxRecDepth 100000 in
theorem cfl_4_207 : Cond.fieldLink RX4 207 ((cw_tab 6).2.1 1).1 ((cw_tab 6).2.1 1).2.1 ((cw_tab 6).2.1 1).2.2.1 ∈ cw_bw := List.mem_of_getElem? (i := 144) rfl
set_option maxRecDepth 100000 in
theorem cfl_5_9 : Cond.fieldLink RX5 9 ((cw_tab 6).2.1 2).1 ((cw_tab 6).2.1 2).2.1 ((cw_tab 6).2.1 2).2.2.1 ∈ cw_bw := List.mem_of_getElem? (i := 145) rfl
set_option maxRecDepth 100000 in
theorem cfl_5_15 : Cond.fieldLink RX5 15 ((cw_tab 6).2.1 0).1 ((cw_tab 6).2.1 0).2.1 ((cw_tab 6).2.1 0).2.2.1 ∈ cw_bw := List.mem_of_getElem? (i := 146) rfl
set_option maxRecDepth 100000 in
theorem cfl_5_19 : Cond.fieldLink RX5 19 ((cw_tab 6).2.1 1).1 ((cw_tab 6).2.1 1).2.1 ((cw_tab 6).2.1 1).2.2.1 ∈ cw_bw := List.mem_of_getElem? (i := 147) rfl
set_option maxRecDepth 100000 in
theorem cfl_6_9 : Cond.fieldLink RX6 9 ((cw_tab 7).2.1 2).1 ((cw_tab 7).2.1 2).2.1 ((cw_tab 7).2.1 2).2.2.1 ∈ cw_bw := List.mem_of_getElem? (i := 148) rfl
set_option maxRecDepth 100000 in
theorem cfl_6_15 : Cond.fieldLink RX6 15 ((cw_tab 7).2.1 3).1 ((cw_tab 7).2.1 3).2.1 ((cw_tab 7).2.1 3).2.2.1 ∈ cw_bw := List.mem_of_getElem? (i := 149) rfl
set_option maxRecDepth 100000 in
theorem cfl_6_18 : Cond.fieldLink RX6 18 ((cw_tab 7).2.1 4).1 ((cw_tab 7).2.1 4).2.1 ((cw_tab 7).2.1 4).2.2.1 ∈ cw_bw := List.mem_of_getElem? (i := 150) rfl
set_option maxRecDepth 100000 in
theorem cfl_6_21 : Cond.fieldLink RX6 21 ((cw_tab 7).2.1 5).1 ((cw_tab 7).2.1 5).2.1 ((cw_tab 7).2.1 5).2.2.1 ∈ cw_bw := List.mem_of_getElem? (i := 151) rfl
set_option maxRecDepth 100000 in
theorem cfl_6_24 : Cond.fieldLink RX6 24 ((cw_tab 7).2.1 6).1 ((cw_tab 7).2.1 6).2.1 ((cw_tab 7).2.1 6).2.2.1 ∈ cw_bw := List.mem_of_getElem? (i := 152) rfl
set_option maxRecDepth 100000 in
theorem cfl_6_28 : Cond.fieldLink RX6 28 ((cw_tab 7).2.1 7).1 ((cw_tab 7).2.1 7).2.1 ((cw_tab 7).2.1 7).2.2.1 ∈ cw_bw := List.mem_of_getElem? (i := 153) rfl
set_option maxRecDepth 100000 in
theorem cfl_6_31 : Cond.fieldLink RX6 31 ((cw_tab 7).2.1 8).1 ((cw_tab 7).2.1 8).2.1 ((cw_tab 7).2.1 8).2.2.1 ∈ cw_bw := List.mem_of_getElem? (i := 154) rfl
set_option maxRecDepth 100000 in
theorem cfl_6_35 : Cond.fieldLink RX6 35 ((cw_tab 7).2.1 9).1 ((cw_tab 7).2.1 9).2.1 ((cw_tab 7).2.1 9).2.2.1 ∈ cw_bw := List.mem_of_getElem? (i := 155) rfl
set_option maxRecDepth 100000 in
theorem cfl_6_38 : Cond.fieldLink RX6 38 ((cw_tab 7).2.1 10).1 ((cw_tab 7).2.1 10).2.1 ((cw_tab 7).2.1 10).2.2.1 ∈ cw_bw := List.mem_of_getElem? (i := 156) rfl
set_option maxRecDepth 100000 in
theorem cfl_6_41 : Cond.fieldLink RX6 41 ((cw_tab 7).2.1 0).1 ((cw_tab 7).2.1 0).2.1 ((cw_tab 7).2.1 0).2.2.1 ∈ cw_bw := List.mem_of_getElem? (i := 157) rfl
set_option maxRecDepth 100000 in
theorem cfl_6_44 : Cond.fieldLink RX6 44 ((cw_tab 7).2.1 1).1 ((cw_tab 7).2.1 1).2.1 ((cw_tab 7).2.1 1).2.2.1 ∈ cw_bw := List.mem_of_getElem? (i := 158) rfl
set_option maxRecDepth 100000 in
theorem cfl_7_9 : Cond.fieldLink RX7 9 ((cw_tab 8).2.1 2).1 ((cw_tab 8).2.1 2).2.1 ((cw_tab 8).2.1 2).2.2.1 ∈ cw_bw := List.mem_of_getElem? (i := 159) rfl
set_option maxRecDepth 100000 in
theorem cfl_7_15 : Cond.fieldLink RX7 15 ((cw_tab 8).2.1 3).1 ((cw_tab 8).2.1 3).2.1 ((cw_tab 8).2.1 3).2.2.1 ∈ cw_bw := List.mem_of_getElem? (i := 160) rfl
set_option maxRecDepth 100000 in
theorem cfl_7_18 : Cond.fieldLink RX7 18 ((cw_tab 8).2.1 4).1 ((cw_tab 8).2.1 4).2.1 ((cw_tab 8).2.1 4).2.2.1 ∈ cw_bw := List.mem_of_getElem? (i := 161) rfl
set_option maxRecDepth 100000 in
theorem cfl_7_21 : Cond.fieldLink RX7 21 ((cw_tab 8).2.1 5).1 ((cw_tab 8).2.1 5).2.1 ((cw_tab 8).2.1 5).2.2.1 ∈ cw_bw := List.mem_of_getElem? (i := 162) rfl
set_option maxRecDepth 100000 in
theorem cfl_7_24 : Cond.fieldLink RX7 24 ((cw_tab 8).2.1 6).1 ((cw_tab 8).2.1 6).2.1 ((cw_tab 8).2.1 6).2.2.1 ∈ cw_bw := List.mem_of_getElem? (i := 163) rfl
set_option maxRecDepth 100000 in
theorem cfl_7_27 : Cond.fieldLink RX7 27 ((cw_tab 8).2.1 7).1 ((cw_tab 8).2.1 7).2.1 ((cw_tab 8).2.1 7).2.2.1 ∈ cw_bw := List.mem_of_getElem? (i := 164) rfl
set_option maxRecDepth 100000 in
theorem cfl_7_30 : Cond.fieldLink RX7 30 ((cw_tab 8).2.1 0).1 ((cw_tab 8).2.1 0).2.1 ((cw_tab 8).2.1 0).2.2.1 ∈ cw_bw := List.mem_of_getElem? (i := 165) rfl
set_option maxRecDepth 100000 in
theorem cfl_7_34 : Cond.fieldLink RX7 34 ((cw_tab 8).2.1 1).1 ((cw_tab 8).2.1 1).2.1 ((cw_tab 8).2.1 1).2.2.1 ∈ cw_bw := List.mem_of_getElem? (i := 166) rfl
set_option maxRecDepth 100000 in
theorem cfl_8_7 : Cond.fieldLink RX8 7 ((cw_tab 9).2.1 0).1 ((cw_tab 9).2.1 0).2.1 ((cw_tab 9).2.1 0).2.2.1 ∈ cw_bw := List.mem_of_getElem? (i := 167) rfl
set_option maxRecDepth 100000 in
theorem cfl_8_13 : Cond.fieldLink RX8 13 ((cw_tab 9).2.1 1).1 ((cw_tab 9).2.1 1).2.1 ((cw_tab 9).2.1 1).2.2.1 ∈ cw_bw := List.mem_of_getElem? (i := 168) rfl
set_option maxRecDepth 100000 in
theorem cfl_8_16 : Cond.fieldLink RX8 16 ((cw_tab 9).2.1 2).1 ((cw_tab 9).2.1 2).2.1 ((cw_tab 9).2.1 2).2.2.1 ∈ cw_bw := List.mem_of_getElem? (i := 169) rfl
set_option maxRecDepth 100000 in
theorem cfl_8_20 : Cond.fieldLink RX8 20 ((cw_tab 9).2.1 4).1 ((cw_tab 9).2.1 4).2.1 ((cw_tab 9).2.1 4).2.2.1 ∈ cw_bw := List.mem_of_getElem? (i := 170) rfl
set_option maxRecDepth 100000 in
theorem cfl_8_28 : Cond.fieldLink RX8 28 ((cw_tab 7).2.1 0).1 ((cw_tab 7).2.1 0).2.1 ((cw_tab 7).2.1 0).2.2.1 ∈ cw_bw := List.mem_of_getElem? (i := 171) rfl
set_option maxRecDepth 100000 in
theorem cfl_8_33 : Cond.fieldLink RX8 33 ((cw_tab 7).2.1 1).1 ((cw_tab 7).2.1 1).2.1 ((cw_tab 7).2.1 1).2.2.1 ∈ cw_bw := List.mem_of_getElem? (i := 172) rfl
set_option maxRecDepth 100000 in
theorem cfl_8_36 : Cond.fieldLink RX8 36 ((cw_tab 7).2.1 6).1 ((cw_tab 7).2.1 6).2.1 ((cw_tab 7).2.1 6).2.2.1 ∈ cw_bw := List.mem_of_getElem? (i := 173) rfl
set_option maxRecDepth 100000 in
theorem cfl_8_45 : Cond.fieldLink RX8 45 ((cw_tab 9).2.1 3).1 ((cw_tab 9).2.1 3).2.1 ((cw_tab 9).2.1 3).2.2.1 ∈ cw_bw := List.mem_of_getElem? (i := 174) rfl
set_option maxRecDepth 100000 in
theorem cfl_9_7 : Cond.fieldLink RX9 7 ((cw_tab 10).2.1 0).1 ((cw_tab 10).2.1 0).2.1 ((cw_tab 10).2.1 0).2.2.1 ∈ cw_bw := List.mem_of_getElem? (i := 175) rfl
set_option maxRecDepth 100000 in
theorem cfl_9_13 : Cond.fieldLink RX9 13 ((cw_tab 10).2.1 1).1 ((cw_tab 10).2.1 1).2.1 ((cw_tab 10).2.1 1).2.2.1 ∈ cw_bw := List.mem_of_getElem? (i := 176) rfl
set_option maxRecDepth 100000 in
theorem cfl_9_16 : Cond.fieldLink RX9 16 ((cw_tab 10).2.1 2).1 ((cw_tab 10).2.1 2).2.1 ((cw_tab 10).2.1 2).2.2.1 ∈ cw_bw := List.mem_of_getElem? (i := 177) rfl
set_option maxRecDepth 100000 in
theorem cfl_9_20 : Cond.fieldLink RX9 20 ((cw_tab 10).2.1 3).1 ((cw_tab 10).2.1 3).2.1 ((cw_tab 10).2.1 3).2.2.1 ∈ cw_bw := List.mem_of_getElem? (i := 178) rfl
set_option maxRecDepth 100000 in
theorem cfl_9_23 : Cond.fieldLink RX9 23 ((cw_tab 10).2.1 4).1 ((cw_tab 10).2.1 4).2.1 ((cw_tab 10).2.1 4).2.2.1 ∈ cw_bw := List.mem_of_getElem? (i := 179) rfl
set_option maxRecDepth 100000 in
theorem cfl_10_9 : Cond.fieldLink RX10 9 ((cw_tab 11).2.1 0).1 ((cw_tab 11).2.1 0).2.1 ((cw_tab 11).2.1 0).2.2.1 ∈ cw_bw := List.mem_of_getElem? (i := 180) rfl
set_option maxRecDepth 100000 in
theorem cfl_10_15 : Cond.fieldLink RX10 15 ((cw_tab 11).2.1 1).1 ((cw_tab 11).2.1 1).2.1 ((cw_tab 11).2.1 1).2.2.1 ∈ cw_bw := List.mem_of_getElem? (i := 181) rfl
set_option maxRecDepth 100000 in
theorem cfl_11_9 : Cond.fieldLink RX11 9 ((cw_tab 12).2.1 0).1 ((cw_tab 12).2.1 0).2.1 ((cw_tab 12).2.1 0).2.2.1 ∈ cw_bw := List.mem_of_getElem? (i := 182) rfl
set_option maxRecDepth 100000 in
theorem cfl_11_16 : Cond.fieldLink RX11 16 ((cw_tab 12).2.1 1).1 ((cw_tab 12).2.1 1).2.1 ((cw_tab 12).2.1 1).2.2.1 ∈ cw_bw := List.mem_of_getElem? (i := 183) rfl
set_option maxRecDepth 100000 in
theorem cfl_11_23 : Cond.fieldLink RX11 23 ((cw_tab 12).2.1 2).1 ((cw_tab 12).2.1 2).2.1 ((cw_tab 12).2.1 2).2.2.1 ∈ cw_bw := List.mem_of_getElem? (i := 184) rfl
set_option maxRecDepth 100000 in
theorem cfl_11_32 : Cond.fieldLink RX11 32 ((cw_tab 12).2.1 3).1 ((cw_tab 12).2.1 3).2.1 ((cw_tab 12).2.1 3).2.2.1 ∈ cw_bw := List.mem_of_getElem? (i := 185) rfl
set_option maxRecDepth 100000 in
theorem cfl_11_54 : Cond.fieldLink RX11 54 ((cw_tab 12).2.1 6).1 ((cw_tab 12).2.1 6).2.1 ((cw_tab 12).2.1 6).2.2.1 ∈ cw_bw := List.mem_of_getElem? (i := 186) rfl
set_option maxRecDepth 100000 in
theorem cfl_11_58 : Cond.fieldLink RX11 58 ((cw_tab 12).2.1 7).1 ((cw_tab 12).2.1 7).2.1 ((cw_tab 12).2.1 7).2.2.1 ∈ cw_bw := List.mem_of_getElem? (i := 187) rfl
set_option maxRecDepth 100000 in
theorem cfl_11_61 : Cond.fieldLink RX11 61 ((cw_tab 12).2.1 8).1 ((cw_tab 12).2.1 8).2.1 ((cw_tab 12).2.1 8).2.2.1 ∈ cw_bw := List.mem_of_getElem? (i := 188) rfl
set_option maxRecDepth 100000 in
theorem cfl_11_64 : Cond.fieldLink RX11 64 ((cw_tab 12).2.1 9).1 ((cw_tab 12).2.1 9).2.1 ((cw_tab 12).2.1 9).2.2.1 ∈ cw_bw := List.mem_of_getElem? (i := 189) rfl
set_option maxRecDepth 100000 in
theorem cfl_11_84 : Cond.fieldLink RX11 84 ((cw_tab 1).2.1 5).1 ((cw_tab 1).2.1 5).2.1 ((cw_tab 1).2.1 5).2.2.1 ∈ cw_bw := List.mem_of_getElem? (i := 190) rfl
set_option maxRecDepth 100000 in
theorem cfl_11_88 : Cond.fieldLink RX11 88 ((cw_tab 6).2.1 2).1 ((cw_tab 6).2.1 2).2.1 ((cw_tab 6).2.1 2).2.2.1 ∈ cw_bw := List.mem_of_getElem? (i := 191) rfl
set_option maxRecDepth 100000 in
theorem cfl_11_93 : Cond.fieldLink RX11 93 ((cw_tab 5).2.1 4).1 ((cw_tab 5).2.1 4).2.1 ((cw_tab 5).2.1 4).2.2.1 ∈ cw_bw := List.mem_of_getElem? (i := 192) rfl
set_option maxRecDepth 100000 in
theorem cfl_11_96 : Cond.fieldLink RX11 96 ((cw_tab 5).2.1 7).1 ((cw_tab 5).2.1 7).2.1 ((cw_tab 5).2.1 7).2.2.1 ∈ cw_bw := List.mem_of_getElem? (i := 193) rfl
set_option maxRecDepth 100000 in
theorem cfl_11_99 : Cond.fieldLink RX11 99 ((cw_tab 5).2.1 6).1 ((cw_tab 5).2.1 6).2.1 ((cw_tab 5).2.1 6).2.2.1 ∈ cw_bw := List.mem_of_getElem? (i := 194) rfl
set_option maxRecDepth 100000 in
theorem cfl_11_102 : Cond.fieldLink RX11 102 ((cw_tab 5).2.1 2).1 ((cw_tab 5).2.1 2).2.1 ((cw_tab 5).2.1 2).2.2.1 ∈ cw_bw := List.mem_of_getElem? (i := 195) rfl
set_option maxRecDepth 100000 in
theorem cfl_11_106 : Cond.fieldLink RX11 106 ((cw_tab 5).2.1 3).1 ((cw_tab 5).2.1 3).2.1 ((cw_tab 5).2.1 3).2.2.1 ∈ cw_bw := List.mem_of_getElem? (i := 196) rfl
set_option maxRecDepth 100000 in
theorem cfl_11_109 : Cond.fieldLink RX11 109 ((cw_tab 1).2.1 0).1 ((cw_tab 1).2.1 0).2.1 ((cw_tab 1).2.1 0).2.2.1 ∈ cw_bw := List.mem_of_getElem? (i := 197) rfl
set_option maxRecDepth 100000 in
theorem cfl_11_112 : Cond.fieldLink RX11 112 ((cw_tab 1).2.1 3).1 ((cw_tab 1).2.1 3).2.1 ((cw_tab 1).2.1 3).2.2.1 ∈ cw_bw := List.mem_of_getElem? (i := 198) rfl
set_option maxRecDepth 100000 in
theorem cfl_11_115 : Cond.fieldLink RX11 115 ((cw_tab 1).2.1 4).1 ((cw_tab 1).2.1 4).2.1 ((cw_tab 1).2.1 4).2.2.1 ∈ cw_bw := List.mem_of_getElem? (i := 199) rfl
set_option maxRecDepth 100000 in
theorem cfl_11_118 : Cond.fieldLink RX11 118 ((cw_tab 1).2.1 10).1 ((cw_tab 1).2.1 10).2.1 ((cw_tab 1).2.1 10).2.2.1 ∈ cw_bw := List.mem_of_getElem? (i := 200) rfl
set_option maxRecDepth 100000 in
theorem cfl_11_125 : Cond.fieldLink RX11 125 ((cw_tab 1).2.1 7).1 ((cw_tab 1).2.1 7).2.1 ((cw_tab 1).2.1 7).2.2.1 ∈ cw_bw := List.mem_of_getElem? (i := 201) rfl
set_option maxRecDepth 100000 in
theorem cfl_11_129 : Cond.fieldLink RX11 129 ((cw_tab 1).2.1 8).1 ((cw_tab 1).2.1 8).2.1 ((cw_tab 1).2.1 8).2.2.1 ∈ cw_bw := List.mem_of_getElem? (i := 202) rfl
set_option maxRecDepth 100000 in
theorem cfl_11_132 : Cond.fieldLink RX11 132 ((cw_tab 6).2.1 1).1 ((cw_tab 6).2.1 1).2.1 ((cw_tab 6).2.1 1).2.2.1 ∈ cw_bw := List.mem_of_getElem? (i := 203) rfl
set_option maxRecDepth 100000 in
theorem cfl_11_155 : Cond.fieldLink RX11 155 ((cw_tab 1).2.1 9).1 ((cw_tab 1).2.1 9).2.1 ((cw_tab 1).2.1 9).2.2.1 ∈ cw_bw := List.mem_of_getElem? (i := 204) rfl
set_option maxRecDepth 100000 in
theorem cfl_11_206 : Cond.fieldLink RX11 206 ((cw_tab 10).2.1 1).1 ((cw_tab 10).2.1 1).2.1 ((cw_tab 10).2.1 1).2.2.1 ∈ cw_bw := List.mem_of_getElem? (i := 205) rfl
set_option maxRecDepth 100000 in
theorem cfl_11_230 : Cond.fieldLink RX11 230 ((cw_tab 10).2.1 3).1 ((cw_tab 10).2.1 3).2.1 ((cw_tab 10).2.1 3).2.2.1 ∈ cw_bw := List.mem_of_getElem? (i := 206) rfl
set_option maxRecDepth 100000 in
theorem cfl_11_250 : Cond.fieldLink RX11 250 ((cw_tab 10).2.1 2).1 ((cw_tab 10).2.1 2).2.1 ((cw_tab 10).2.1 2).2.2.1 ∈ cw_bw := List.mem_of_getElem? (i := 207) rfl
set_option maxRecDepth 100000 in
theorem cfl_11_256 : Cond.fieldLink RX11 256 ((cw_tab 7).2.1 2).1 ((cw_tab 7).2.1 2).2.1 ((cw_tab 7).2.1 2).2.2.1 ∈ cw_bw := List.mem_of_getElem? (i := 208) rfl
set_option maxRecDepth 100000 in
theorem cfl_11_265 : Cond.fieldLink RX11 265 ((cw_tab 7).2.1 4).1 ((cw_tab 7).2.1 4).2.1 ((cw_tab 7).2.1 4).2.2.1 ∈ cw_bw := List.mem_of_getElem? (i := 209) rfl
set_option maxRecDepth 100000 in
theorem cfl_11_268 : Cond.fieldLink RX11 268 ((cw_tab 7).2.1 5).1 ((cw_tab 7).2.1 5).2.1 ((cw_tab 7).2.1 5).2.2.1 ∈ cw_bw := List.mem_of_getElem? (i := 210) rfl
set_option maxRecDepth 100000 in
theorem cfl_11_281 : Cond.fieldLink RX11 281 ((cw_tab 10).2.1 4).1 ((cw_tab 10).2.1 4).2.1 ((cw_tab 10).2.1 4).2.2.1 ∈ cw_bw := List.mem_of_getElem? (i := 211) rfl
set_option maxRecDepth 100000 in
theorem clc_4_92 : Cond.constant RX4 92 60000 ∈ cw_bw := List.mem_of_getElem? (i := 212) rfl
set_option maxRecDepth 100000 in
theorem clc_4_99 : Cond.constant RX4 99 1000000 ∈ cw_bw := List.mem_of_getElem? (i := 213) rfl
set_option maxRecDepth 100000 in
theorem cml_0_62 : Cond.methodLink RX0 62 yX5_add ∈ cw_bw := List.mem_of_getElem? (i := 214) rfl
set_option maxRecDepth 100000 in
theorem cml_0_77 : Cond.methodLink RX0 77 yX5_has ∈ cw_bw := List.mem_of_getElem? (i := 215) rfl
set_option maxRecDepth 100000 in
theorem cml_0_81 : Cond.methodLink RX0 81 yX5_isFull ∈ cw_bw := List.mem_of_getElem? (i := 216) rfl
set_option maxRecDepth 100000 in
theorem cml_1_30 : Cond.methodLink RX1 30 yX3_putNew ∈ cw_bw := List.mem_of_getElem? (i := 217) rfl
set_option maxRecDepth 100000 in
theorem cml_2_96 : Cond.methodLink RX2 96 yX2_isNameOf ∈ cw_bw := List.mem_of_getElem? (i := 218) rfl
set_option maxRecDepth 100000 in
theorem cml_2_106 : Cond.methodLink RX2 106 yX2_resolve ∈ cw_bw := List.mem_of_getElem? (i := 219) rfl
set_option maxRecDepth 100000 in
theorem cml_2_129 : Cond.methodLink RX2 129 yX5_find ∈ cw_bw := List.mem_of_getElem? (i := 220) rfl
set_option maxRecDepth 100000 in
theorem cml_2_148 : Cond.methodLink RX2 148 yX10_set ∈ cw_bw := List.mem_of_getElem? (i := 221) rfl
set_option maxRecDepth 100000 in
theorem cml_2_157 : Cond.methodLink RX2 157 yX0_axiomOf ∈ cw_bw := List.mem_of_getElem? (i := 222) rfl
set_option maxRecDepth 100000 in
theorem cml_2_161 : Cond.methodLink RX2 161 yX6_leaf ∈ cw_bw := List.mem_of_getElem? (i := 223) rfl
set_option maxRecDepth 100000 in
theorem cml_2_165 : Cond.methodLink RX2 165 yX5_agree ∈ cw_bw := List.mem_of_getElem? (i := 224) rfl
set_option maxRecDepth 100000 in
theorem cml_2_172 : Cond.methodLink RX2 172 yX4_areSame ∈ cw_bw := List.mem_of_getElem? (i := 225) rfl
set_option maxRecDepth 100000 in
theorem cml_2_184 : Cond.methodLink RX2 184 yX2_neededRule ∈ cw_bw := List.mem_of_getElem? (i := 226) rfl
set_option maxRecDepth 100000 in
theorem cml_2_188 : Cond.methodLink RX2 188 yX6_keepSorts ∈ cw_bw := List.mem_of_getElem? (i := 227) rfl
set_option maxRecDepth 100000 in
theorem cml_2_191 : Cond.methodLink RX2 191 yX6_binder ∈ cw_bw := List.mem_of_getElem? (i := 228) rfl
set_option maxRecDepth 100000 in
theorem cml_2_194 : Cond.methodLink RX2 194 yX0_ruleOf ∈ cw_bw := List.mem_of_getElem? (i := 229) rfl
set_option maxRecDepth 100000 in
theorem cml_3_27 : Cond.methodLink RX3 27 yX3_init ∈ cw_bw := List.mem_of_getElem? (i := 230) rfl
set_option maxRecDepth 100000 in
theorem cml_4_40 : Cond.methodLink RX4 40 yX4_compare ∈ cw_bw := List.mem_of_getElem? (i := 231) rfl
set_option maxRecDepth 100000 in
theorem cml_4_44 : Cond.methodLink RX4 44 yX4_tell ∈ cw_bw := List.mem_of_getElem? (i := 232) rfl
set_option maxRecDepth 100000 in
theorem cml_4_48 : Cond.methodLink RX4 48 yX4_head ∈ cw_bw := List.mem_of_getElem? (i := 233) rfl
set_option maxRecDepth 100000 in
theorem cml_4_52 : Cond.methodLink RX4 52 yX4_putFront ∈ cw_bw := List.mem_of_getElem? (i := 234) rfl
set_option maxRecDepth 100000 in
theorem cml_4_56 : Cond.methodLink RX4 56 yX4_put ∈ cw_bw := List.mem_of_getElem? (i := 235) rfl
set_option maxRecDepth 100000 in
theorem cml_4_60 : Cond.methodLink RX4 60 yX1_isBinder ∈ cw_bw := List.mem_of_getElem? (i := 236) rfl
set_option maxRecDepth 100000 in
theorem cml_4_70 : Cond.methodLink RX4 70 yX3_lengthOf ∈ cw_bw := List.mem_of_getElem? (i := 237) rfl
set_option maxRecDepth 100000 in
theorem cml_4_76 : Cond.methodLink RX4 76 yX4_putNumber ∈ cw_bw := List.mem_of_getElem? (i := 238) rfl
set_option maxRecDepth 100000 in
theorem cml_4_83 : Cond.methodLink RX4 83 yX10_set ∈ cw_bw := List.mem_of_getElem? (i := 239) rfl
set_option maxRecDepth 100000 in
theorem cml_4_93 : Cond.methodLink RX4 93 yX4_record ∈ cw_bw := List.mem_of_getElem? (i := 240) rfl
set_option maxRecDepth 100000 in
theorem cml_4_96 : Cond.methodLink RX4 96 yX4_spend ∈ cw_bw := List.mem_of_getElem? (i := 241) rfl
set_option maxRecDepth 100000 in
theorem cml_4_108 : Cond.methodLink RX4 108 yX4_pushParts ∈ cw_bw := List.mem_of_getElem? (i := 242) rfl
set_option maxRecDepth 100000 in
theorem cml_4_119 : Cond.methodLink RX4 119 yX3_put ∈ cw_bw := List.mem_of_getElem? (i := 243) rfl
set_option maxRecDepth 100000 in
theorem cml_4_134 : Cond.methodLink RX4 134 yX0_valueOf ∈ cw_bw := List.mem_of_getElem? (i := 244) rfl
set_option maxRecDepth 100000 in
theorem cml_4_140 : Cond.methodLink RX4 140 yX3_find ∈ cw_bw := List.mem_of_getElem? (i := 245) rfl
set_option maxRecDepth 100000 in
theorem cml_4_147 : Cond.methodLink RX4 147 yX1_init ∈ cw_bw := List.mem_of_getElem? (i := 246) rfl
set_option maxRecDepth 100000 in
theorem cml_4_150 : Cond.methodLink RX4 150 yX3_part ∈ cw_bw := List.mem_of_getElem? (i := 247) rfl
set_option maxRecDepth 100000 in
theorem cml_4_154 : Cond.methodLink RX4 154 yX4_look ∈ cw_bw := List.mem_of_getElem? (i := 248) rfl
set_option maxRecDepth 100000 in
theorem cml_4_161 : Cond.methodLink RX4 161 yX1_envOfSecond ∈ cw_bw := List.mem_of_getElem? (i := 249) rfl
set_option maxRecDepth 100000 in
theorem cml_4_166 : Cond.methodLink RX4 166 yX4_putNewName ∈ cw_bw := List.mem_of_getElem? (i := 250) rfl
set_option maxRecDepth 100000 in
theorem cml_4_194 : Cond.methodLink RX4 194 yX4_putSigns ∈ cw_bw := List.mem_of_getElem? (i := 251) rfl
set_option maxRecDepth 100000 in
theorem cml_4_201 : Cond.methodLink RX4 201 yX5_has ∈ cw_bw := List.mem_of_getElem? (i := 252) rfl
set_option maxRecDepth 100000 in
theorem cml_4_210 : Cond.methodLink RX4 210 yX5_signOf ∈ cw_bw := List.mem_of_getElem? (i := 253) rfl
set_option maxRecDepth 100000 in
theorem cml_5_23 : Cond.methodLink RX5 23 yX5_agree ∈ cw_bw := List.mem_of_getElem? (i := 254) rfl
set_option maxRecDepth 100000 in
theorem cml_5_27 : Cond.methodLink RX5 27 yX5_isFull ∈ cw_bw := List.mem_of_getElem? (i := 255) rfl
set_option maxRecDepth 100000 in
theorem cml_5_31 : Cond.methodLink RX5 31 yX5_has ∈ cw_bw := List.mem_of_getElem? (i := 256) rfl
set_option maxRecDepth 100000 in
theorem cml_6_47 : Cond.methodLink RX6 47 yX6_init ∈ cw_bw := List.mem_of_getElem? (i := 257) rfl
set_option maxRecDepth 100000 in
theorem cml_7_94 : Cond.methodLink RX7 94 yX10_set ∈ cw_bw := List.mem_of_getElem? (i := 258) rfl
set_option maxRecDepth 100000 in
theorem cml_7_154 : Cond.methodLink RX7 154 yX7_isLetter ∈ cw_bw := List.mem_of_getElem? (i := 259) rfl
set_option maxRecDepth 100000 in
theorem cml_7_165 : Cond.methodLink RX7 165 yX7_closeOf ∈ cw_bw := List.mem_of_getElem? (i := 260) rfl
set_option maxRecDepth 100000 in
theorem cml_8_24 : Cond.methodLink RX8 24 yX8_letsOf ∈ cw_bw := List.mem_of_getElem? (i := 261) rfl
set_option maxRecDepth 100000 in
theorem cml_8_39 : Cond.methodLink RX8 39 yX3_put ∈ cw_bw := List.mem_of_getElem? (i := 262) rfl
set_option maxRecDepth 100000 in
theorem cml_11_71 : Cond.methodLink RX11 71 yX11_feedFour ∈ cw_bw := List.mem_of_getElem? (i := 263) rfl
set_option maxRecDepth 100000 in
theorem cml_11_121 : Cond.methodLink RX11 121 yX5_has ∈ cw_bw := List.mem_of_getElem? (i := 264) rfl
set_option maxRecDepth 100000 in
theorem cml_11_135 : Cond.methodLink RX11 135 yX5_signOf ∈ cw_bw := List.mem_of_getElem? (i := 265) rfl
set_option maxRecDepth 100000 in
theorem cml_11_139 : Cond.methodLink RX11 139 yX0_axiomOf ∈ cw_bw := List.mem_of_getElem? (i := 266) rfl
set_option maxRecDepth 100000 in
theorem cml_11_142 : Cond.methodLink RX11 142 yX0_ruleOf ∈ cw_bw := List.mem_of_getElem? (i := 267) rfl
set_option maxRecDepth 100000 in
theorem cml_11_247 : Cond.methodLink RX11 247 yX11_refuseBesideNames ∈ cw_bw := List.mem_of_getElem? (i := 268) rfl
set_option maxRecDepth 100000 in
theorem cml_11_253 : Cond.methodLink RX11 253 yX11_sortNumber ∈ cw_bw := List.mem_of_getElem? (i := 269) rfl
set_option maxRecDepth 100000 in
theorem cml_11_257 : Cond.methodLink RX11 257 yX10_set ∈ cw_bw := List.mem_of_getElem? (i := 270) rfl
set_option maxRecDepth 100000 in
theorem cml_11_261 : Cond.methodLink RX11 261 yX5_isFull ∈ cw_bw := List.mem_of_getElem? (i := 271) rfl
set_option maxRecDepth 100000 in
theorem cml_11_271 : Cond.methodLink RX11 271 yX5_add ∈ cw_bw := List.mem_of_getElem? (i := 272) rfl
set_option maxRecDepth 100000 in
theorem cml_11_275 : Cond.methodLink RX11 275 yX11_neededSort ∈ cw_bw := List.mem_of_getElem? (i := 273) rfl
set_option maxRecDepth 100000 in
theorem cml_11_278 : Cond.methodLink RX11 278 yX0_setAxiom ∈ cw_bw := List.mem_of_getElem? (i := 274) rfl
set_option maxRecDepth 100000 in
theorem cml_11_284 : Cond.methodLink RX11 284 yX0_setRule ∈ cw_bw := List.mem_of_getElem? (i := 275) rfl
set_option maxRecDepth 100000 in
theorem cml_11_288 : Cond.methodLink RX11 288 yX5_find ∈ cw_bw := List.mem_of_getElem? (i := 276) rfl
set_option maxRecDepth 100000 in
theorem cin_yX0_axiomOf : Cond.instanceMethod yX0_axiomOf ∈ cw_bw := List.mem_of_getElem? (i := 277) rfl
set_option maxRecDepth 100000 in
theorem cse_yX0_axiomOf : Cond.selects (cw_tab 1).1 yX0_axiomOf yX0_axiomOf ∈ cw_bw := List.mem_of_getElem? (i := 278) rfl
set_option maxRecDepth 100000 in
theorem cgo_yX0_axiomOf : GoodIn cw_bw [Cond.code yX0_axiomOf cX0_axiomOf 2 (some .int), Cond.initialized yX0_axiomOf.cls] := cw_gr _ [279, 280] rfl (by decide +kernel)
set_option maxRecDepth 100000 in
theorem cin_yX0_ruleOf : Cond.instanceMethod yX0_ruleOf ∈ cw_bw := List.mem_of_getElem? (i := 281) rfl
set_option maxRecDepth 100000 in
theorem cse_yX0_ruleOf : Cond.selects (cw_tab 1).1 yX0_ruleOf yX0_ruleOf ∈ cw_bw := List.mem_of_getElem? (i := 282) rfl
set_option maxRecDepth 100000 in
theorem cgo_yX0_ruleOf : GoodIn cw_bw [Cond.code yX0_ruleOf cX0_ruleOf 3 (some .int), Cond.initialized yX0_ruleOf.cls] := cw_gr _ [283, 280] rfl (by decide +kernel)
set_option maxRecDepth 100000 in
theorem cin_yX0_setAxiom : Cond.instanceMethod yX0_setAxiom ∈ cw_bw := List.mem_of_getElem? (i := 284) rfl
set_option maxRecDepth 100000 in
theorem cse_yX0_setAxiom : Cond.selects (cw_tab 1).1 yX0_setAxiom yX0_setAxiom ∈ cw_bw := List.mem_of_getElem? (i := 285) rfl
set_option maxRecDepth 100000 in
theorem cgo_yX0_setAxiom : GoodIn cw_bw [Cond.code yX0_setAxiom cX0_setAxiom 3 none, Cond.initialized yX0_setAxiom.cls] := cw_gr _ [286, 280] rfl (by decide +kernel)
set_option maxRecDepth 100000 in
theorem cin_yX0_setRule : Cond.instanceMethod yX0_setRule ∈ cw_bw := List.mem_of_getElem? (i := 287) rfl
set_option maxRecDepth 100000 in
theorem cse_yX0_setRule : Cond.selects (cw_tab 1).1 yX0_setRule yX0_setRule ∈ cw_bw := List.mem_of_getElem? (i := 288) rfl
set_option maxRecDepth 100000 in
theorem cgo_yX0_setRule : GoodIn cw_bw [Cond.code yX0_setRule cX0_setRule 4 none, Cond.initialized yX0_setRule.cls] := cw_gr _ [289, 280] rfl (by decide +kernel)
set_option maxRecDepth 100000 in
theorem cin_yX0_valueOf : Cond.instanceMethod yX0_valueOf ∈ cw_bw := List.mem_of_getElem? (i := 290) rfl
set_option maxRecDepth 100000 in
theorem cse_yX0_valueOf : Cond.selects (cw_tab 1).1 yX0_valueOf yX0_valueOf ∈ cw_bw := List.mem_of_getElem? (i := 291) rfl
set_option maxRecDepth 100000 in
theorem cgo_yX0_valueOf : GoodIn cw_bw [Cond.code yX0_valueOf cX0_valueOf 2 (some (.object "PureHouse$Node")), Cond.initialized yX0_valueOf.cls] := cw_gr _ [292, 280] rfl (by decide +kernel)
set_option maxRecDepth 100000 in
theorem cin_yX1_envOfSecond : Cond.instanceMethod yX1_envOfSecond ∈ cw_bw := List.mem_of_getElem? (i := 293) rfl
set_option maxRecDepth 100000 in
theorem cse_yX1_envOfSecond : Cond.selects (cw_tab 2).1 yX1_envOfSecond yX1_envOfSecond ∈ cw_bw := List.mem_of_getElem? (i := 294) rfl
set_option maxRecDepth 100000 in
theorem cgo_yX1_envOfSecond : GoodIn cw_bw [Cond.code yX1_envOfSecond cX1_envOfSecond 2 (some (.object "PureHouse$Link")), Cond.initialized yX1_envOfSecond.cls] := cw_gr _ [295, 296] rfl (by decide +kernel)
set_option maxRecDepth 100000 in
theorem cin_yX1_init : Cond.instanceMethod yX1_init ∈ cw_bw := List.mem_of_getElem? (i := 297) rfl
set_option maxRecDepth 100000 in
theorem cgo_yX1_init : GoodIn cw_bw [Cond.code yX1_init cX1_init 5 none, Cond.initialized yX1_init.cls] := cw_gr _ [298, 296] rfl (by decide +kernel)
set_option maxRecDepth 100000 in
theorem cin_yX1_isBinder : Cond.instanceMethod yX1_isBinder ∈ cw_bw := List.mem_of_getElem? (i := 299) rfl
set_option maxRecDepth 100000 in
theorem cse_yX1_isBinder : Cond.selects (cw_tab 2).1 yX1_isBinder yX1_isBinder ∈ cw_bw := List.mem_of_getElem? (i := 300) rfl
set_option maxRecDepth 100000 in
theorem cgo_yX1_isBinder : GoodIn cw_bw [Cond.code yX1_isBinder cX1_isBinder 1 (some .boolean), Cond.initialized yX1_isBinder.cls] := cw_gr _ [301, 296] rfl (by decide +kernel)
set_option maxRecDepth 100000 in
theorem cin_yX2_isNameOf : Cond.instanceMethod yX2_isNameOf ∈ cw_bw := List.mem_of_getElem? (i := 302) rfl
set_option maxRecDepth 100000 in
theorem cse_yX2_isNameOf : Cond.selects (cw_tab 3).1 yX2_isNameOf yX2_isNameOf ∈ cw_bw := List.mem_of_getElem? (i := 303) rfl
set_option maxRecDepth 100000 in
theorem cgo_yX2_isNameOf : GoodIn cw_bw [Cond.code yX2_isNameOf cX2_isNameOf 3 (some .boolean), Cond.initialized yX2_isNameOf.cls] := cw_gr _ [304, 305] rfl (by decide +kernel)
set_option maxRecDepth 100000 in
theorem cin_yX2_neededRule : Cond.instanceMethod yX2_neededRule ∈ cw_bw := List.mem_of_getElem? (i := 306) rfl
set_option maxRecDepth 100000 in
theorem cse_yX2_neededRule : Cond.selects (cw_tab 3).1 yX2_neededRule yX2_neededRule ∈ cw_bw := List.mem_of_getElem? (i := 307) rfl
set_option maxRecDepth 100000 in
theorem cgo_yX2_neededRule : GoodIn cw_bw [Cond.code yX2_neededRule cX2_neededRule 5 (some .int), Cond.initialized yX2_neededRule.cls] := cw_gr _ [308, 305] rfl (by decide +kernel)
set_option maxRecDepth 100000 in
theorem cin_yX2_resolve : Cond.instanceMethod yX2_resolve ∈ cw_bw := List.mem_of_getElem? (i := 309) rfl
set_option maxRecDepth 100000 in
theorem cse_yX2_resolve : Cond.selects (cw_tab 3).1 yX2_resolve yX2_resolve ∈ cw_bw := List.mem_of_getElem? (i := 310) rfl
set_option maxRecDepth 100000 in
theorem cgo_yX2_resolve : GoodIn cw_bw [Cond.code yX2_resolve cX2_resolve 5 none, Cond.initialized yX2_resolve.cls] := cw_gr _ [311, 305] rfl (by decide +kernel)
set_option maxRecDepth 100000 in
theorem cst_yX3_find : Cond.static yX3_find ∈ cw_bw := List.mem_of_getElem? (i := 312) rfl
set_option maxRecDepth 100000 in
theorem cgo_yX3_find : GoodIn cw_bw [Cond.code yX3_find cX3_find 3 (some (.object "PureHouse$Link")), Cond.initialized yX3_find.cls] := cw_gr _ [313, 314] rfl (by decide +kernel)
set_option maxRecDepth 100000 in
theorem cin_yX3_init : Cond.instanceMethod yX3_init ∈ cw_bw := List.mem_of_getElem? (i := 315) rfl
set_option maxRecDepth 100000 in
theorem cgo_yX3_init : GoodIn cw_bw [Cond.code yX3_init cX3_init 6 none, Cond.initialized yX3_init.cls] := cw_gr _ [316, 314] rfl (by decide +kernel)
set_option maxRecDepth 100000 in
theorem cst_yX3_lengthOf : Cond.static yX3_lengthOf ∈ cw_bw := List.mem_of_getElem? (i := 317) rfl
set_option maxRecDepth 100000 in
theorem cgo_yX3_lengthOf : GoodIn cw_bw [Cond.code yX3_lengthOf cX3_lengthOf 3 (some .int), Cond.initialized yX3_lengthOf.cls] := cw_gr _ [318, 314] rfl (by decide +kernel)
set_option maxRecDepth 100000 in
theorem cst_yX3_part : Cond.static yX3_part ∈ cw_bw := List.mem_of_getElem? (i := 319) rfl
set_option maxRecDepth 100000 in
theorem cgo_yX3_part : GoodIn cw_bw [Cond.code yX3_part cX3_part 3 (some (.object "PureHouse$Link")), Cond.initialized yX3_part.cls] := cw_gr _ [320, 314] rfl (by decide +kernel)
set_option maxRecDepth 100000 in
theorem cst_yX3_put : Cond.static yX3_put ∈ cw_bw := List.mem_of_getElem? (i := 321) rfl
set_option maxRecDepth 100000 in
theorem cgo_yX3_put : GoodIn cw_bw [Cond.code yX3_put cX3_put 4 (some (.object "PureHouse$Link")), Cond.initialized yX3_put.cls] := cw_gr _ [322, 314] rfl (by decide +kernel)
set_option maxRecDepth 100000 in
theorem cst_yX3_putNew : Cond.static yX3_putNew ∈ cw_bw := List.mem_of_getElem? (i := 323) rfl
set_option maxRecDepth 100000 in
theorem cgo_yX3_putNew : GoodIn cw_bw [Cond.code yX3_putNew cX3_putNew 3 (some (.object "PureHouse$Link")), Cond.initialized yX3_putNew.cls] := cw_gr _ [324, 314] rfl (by decide +kernel)
set_option maxRecDepth 100000 in
theorem cin_yX4_areSame : Cond.instanceMethod yX4_areSame ∈ cw_bw := List.mem_of_getElem? (i := 325) rfl
set_option maxRecDepth 100000 in
theorem cse_yX4_areSame : Cond.selects (cw_tab 5).1 yX4_areSame yX4_areSame ∈ cw_bw := List.mem_of_getElem? (i := 326) rfl
set_option maxRecDepth 100000 in
theorem cgo_yX4_areSame : GoodIn cw_bw [Cond.code yX4_areSame cX4_areSame 3 (some .boolean), Cond.initialized yX4_areSame.cls] := cw_gr _ [327, 328] rfl (by decide +kernel)
set_option maxRecDepth 100000 in
theorem cin_yX4_compare : Cond.instanceMethod yX4_compare ∈ cw_bw := List.mem_of_getElem? (i := 329) rfl
set_option maxRecDepth 100000 in
theorem cse_yX4_compare : Cond.selects (cw_tab 5).1 yX4_compare yX4_compare ∈ cw_bw := List.mem_of_getElem? (i := 330) rfl
set_option maxRecDepth 100000 in
theorem cgo_yX4_compare : GoodIn cw_bw [Cond.code yX4_compare cX4_compare 11 (some .boolean), Cond.initialized yX4_compare.cls] := cw_gr _ [331, 328] rfl (by decide +kernel)
set_option maxRecDepth 100000 in
theorem cin_yX4_head : Cond.instanceMethod yX4_head ∈ cw_bw := List.mem_of_getElem? (i := 332) rfl
set_option maxRecDepth 100000 in
theorem cse_yX4_head : Cond.selects (cw_tab 5).1 yX4_head yX4_head ∈ cw_bw := List.mem_of_getElem? (i := 333) rfl
set_option maxRecDepth 100000 in
theorem cgo_yX4_head : GoodIn cw_bw [Cond.code yX4_head cX4_head 9 (some (.object "PureHouse$Head")), Cond.initialized yX4_head.cls] := cw_gr _ [334, 328] rfl (by decide +kernel)
set_option maxRecDepth 100000 in
theorem cin_yX4_look : Cond.instanceMethod yX4_look ∈ cw_bw := List.mem_of_getElem? (i := 335) rfl
set_option maxRecDepth 100000 in
theorem cse_yX4_look : Cond.selects (cw_tab 5).1 yX4_look yX4_look ∈ cw_bw := List.mem_of_getElem? (i := 336) rfl
set_option maxRecDepth 100000 in
theorem cgo_yX4_look : GoodIn cw_bw [Cond.code yX4_look cX4_look 2 none, Cond.initialized yX4_look.cls] := cw_gr _ [337, 328] rfl (by decide +kernel)
set_option maxRecDepth 100000 in
theorem cin_yX4_pushParts : Cond.instanceMethod yX4_pushParts ∈ cw_bw := List.mem_of_getElem? (i := 338) rfl
set_option maxRecDepth 100000 in
theorem cse_yX4_pushParts : Cond.selects (cw_tab 5).1 yX4_pushParts yX4_pushParts ∈ cw_bw := List.mem_of_getElem? (i := 339) rfl
set_option maxRecDepth 100000 in
theorem cgo_yX4_pushParts : GoodIn cw_bw [Cond.code yX4_pushParts cX4_pushParts 6 (some (.object "PureHouse$Link")), Cond.initialized yX4_pushParts.cls] := cw_gr _ [340, 328] rfl (by decide +kernel)
set_option maxRecDepth 100000 in
theorem cin_yX4_put : Cond.instanceMethod yX4_put ∈ cw_bw := List.mem_of_getElem? (i := 341) rfl
set_option maxRecDepth 100000 in
theorem cse_yX4_put : Cond.selects (cw_tab 5).1 yX4_put yX4_put ∈ cw_bw := List.mem_of_getElem? (i := 342) rfl
set_option maxRecDepth 100000 in
theorem cgo_yX4_put : GoodIn cw_bw [Cond.code yX4_put cX4_put 2 none, Cond.initialized yX4_put.cls] := cw_gr _ [343, 328] rfl (by decide +kernel)
set_option maxRecDepth 100000 in
theorem cin_yX4_putFront : Cond.instanceMethod yX4_putFront ∈ cw_bw := List.mem_of_getElem? (i := 344) rfl
set_option maxRecDepth 100000 in
theorem cse_yX4_putFront : Cond.selects (cw_tab 5).1 yX4_putFront yX4_putFront ∈ cw_bw := List.mem_of_getElem? (i := 345) rfl
set_option maxRecDepth 100000 in
theorem cgo_yX4_putFront : GoodIn cw_bw [Cond.code yX4_putFront cX4_putFront 2 none, Cond.initialized yX4_putFront.cls] := cw_gr _ [346, 328] rfl (by decide +kernel)
set_option maxRecDepth 100000 in
theorem cin_yX4_putNewName : Cond.instanceMethod yX4_putNewName ∈ cw_bw := List.mem_of_getElem? (i := 347) rfl
set_option maxRecDepth 100000 in
theorem cse_yX4_putNewName : Cond.selects (cw_tab 5).1 yX4_putNewName yX4_putNewName ∈ cw_bw := List.mem_of_getElem? (i := 348) rfl
set_option maxRecDepth 100000 in
theorem cgo_yX4_putNewName : GoodIn cw_bw [Cond.code yX4_putNewName cX4_putNewName 2 none, Cond.initialized yX4_putNewName.cls] := cw_gr _ [349, 328] rfl (by decide +kernel)
set_option maxRecDepth 100000 in
theorem cin_yX4_putNumber : Cond.instanceMethod yX4_putNumber ∈ cw_bw := List.mem_of_getElem? (i := 350) rfl
set_option maxRecDepth 100000 in
theorem cse_yX4_putNumber : Cond.selects (cw_tab 5).1 yX4_putNumber yX4_putNumber ∈ cw_bw := List.mem_of_getElem? (i := 351) rfl
set_option maxRecDepth 100000 in
theorem cgo_yX4_putNumber : GoodIn cw_bw [Cond.code yX4_putNumber cX4_putNumber 4 none, Cond.initialized yX4_putNumber.cls] := cw_gr _ [352, 328] rfl (by decide +kernel)
set_option maxRecDepth 100000 in
theorem cin_yX4_putSigns : Cond.instanceMethod yX4_putSigns ∈ cw_bw := List.mem_of_getElem? (i := 353) rfl
set_option maxRecDepth 100000 in
theorem cse_yX4_putSigns : Cond.selects (cw_tab 5).1 yX4_putSigns yX4_putSigns ∈ cw_bw := List.mem_of_getElem? (i := 354) rfl
set_option maxRecDepth 100000 in
theorem cgo_yX4_putSigns : GoodIn cw_bw [Cond.code yX4_putSigns cX4_putSigns 5 none, Cond.initialized yX4_putSigns.cls] := cw_gr _ [355, 328] rfl (by decide +kernel)
set_option maxRecDepth 100000 in
theorem cin_yX4_record : Cond.instanceMethod yX4_record ∈ cw_bw := List.mem_of_getElem? (i := 356) rfl
set_option maxRecDepth 100000 in
theorem cse_yX4_record : Cond.selects (cw_tab 5).1 yX4_record yX4_record ∈ cw_bw := List.mem_of_getElem? (i := 357) rfl
set_option maxRecDepth 100000 in
theorem cgo_yX4_record : GoodIn cw_bw [Cond.code yX4_record cX4_record 2 none, Cond.initialized yX4_record.cls] := cw_gr _ [358, 328] rfl (by decide +kernel)
set_option maxRecDepth 100000 in
theorem cin_yX4_spend : Cond.instanceMethod yX4_spend ∈ cw_bw := List.mem_of_getElem? (i := 359) rfl
set_option maxRecDepth 100000 in
theorem cse_yX4_spend : Cond.selects (cw_tab 5).1 yX4_spend yX4_spend ∈ cw_bw := List.mem_of_getElem? (i := 360) rfl
set_option maxRecDepth 100000 in
theorem cgo_yX4_spend : GoodIn cw_bw [Cond.code yX4_spend cX4_spend 2 none, Cond.initialized yX4_spend.cls] := cw_gr _ [361, 328] rfl (by decide +kernel)
set_option maxRecDepth 100000 in
theorem cin_yX4_tell : Cond.instanceMethod yX4_tell ∈ cw_bw := List.mem_of_getElem? (i := 362) rfl
set_option maxRecDepth 100000 in
theorem cse_yX4_tell : Cond.selects (cw_tab 5).1 yX4_tell yX4_tell ∈ cw_bw := List.mem_of_getElem? (i := 363) rfl
set_option maxRecDepth 100000 in
theorem cgo_yX4_tell : GoodIn cw_bw [Cond.code yX4_tell cX4_tell 10 none, Cond.initialized yX4_tell.cls] := cw_gr _ [364, 328] rfl (by decide +kernel)
set_option maxRecDepth 100000 in
theorem cin_yX5_add : Cond.instanceMethod yX5_add ∈ cw_bw := List.mem_of_getElem? (i := 365) rfl
set_option maxRecDepth 100000 in
theorem cse_yX5_add : Cond.selects (cw_tab 6).1 yX5_add yX5_add ∈ cw_bw := List.mem_of_getElem? (i := 366) rfl
set_option maxRecDepth 100000 in
theorem cgo_yX5_add : GoodIn cw_bw [Cond.code yX5_add cX5_add 5 none, Cond.initialized yX5_add.cls] := cw_gr _ [367, 368] rfl (by decide +kernel)
set_option maxRecDepth 100000 in
theorem cst_yX5_agree : Cond.static yX5_agree ∈ cw_bw := List.mem_of_getElem? (i := 369) rfl
set_option maxRecDepth 100000 in
theorem cgo_yX5_agree : GoodIn cw_bw [Cond.code yX5_agree cX5_agree 6 (some .boolean), Cond.initialized yX5_agree.cls] := cw_gr _ [370, 368] rfl (by decide +kernel)
set_option maxRecDepth 100000 in
theorem cin_yX5_find : Cond.instanceMethod yX5_find ∈ cw_bw := List.mem_of_getElem? (i := 371) rfl
set_option maxRecDepth 100000 in
theorem cse_yX5_find : Cond.selects (cw_tab 6).1 yX5_find yX5_find ∈ cw_bw := List.mem_of_getElem? (i := 372) rfl
set_option maxRecDepth 100000 in
theorem cgo_yX5_find : GoodIn cw_bw [Cond.code yX5_find cX5_find 5 (some .int), Cond.initialized yX5_find.cls] := cw_gr _ [373, 368] rfl (by decide +kernel)
set_option maxRecDepth 100000 in
theorem cin_yX5_has : Cond.instanceMethod yX5_has ∈ cw_bw := List.mem_of_getElem? (i := 374) rfl
set_option maxRecDepth 100000 in
theorem cse_yX5_has : Cond.selects (cw_tab 6).1 yX5_has yX5_has ∈ cw_bw := List.mem_of_getElem? (i := 375) rfl
set_option maxRecDepth 100000 in
theorem cgo_yX5_has : GoodIn cw_bw [Cond.code yX5_has cX5_has 2 (some .boolean), Cond.initialized yX5_has.cls] := cw_gr _ [376, 368] rfl (by decide +kernel)
set_option maxRecDepth 100000 in
theorem cin_yX5_isFull : Cond.instanceMethod yX5_isFull ∈ cw_bw := List.mem_of_getElem? (i := 377) rfl
set_option maxRecDepth 100000 in
theorem cse_yX5_isFull : Cond.selects (cw_tab 6).1 yX5_isFull yX5_isFull ∈ cw_bw := List.mem_of_getElem? (i := 378) rfl
set_option maxRecDepth 100000 in
theorem cgo_yX5_isFull : GoodIn cw_bw [Cond.code yX5_isFull cX5_isFull 1 (some .boolean), Cond.initialized yX5_isFull.cls] := cw_gr _ [379, 368] rfl (by decide +kernel)
set_option maxRecDepth 100000 in
theorem cin_yX5_signOf : Cond.instanceMethod yX5_signOf ∈ cw_bw := List.mem_of_getElem? (i := 380) rfl
set_option maxRecDepth 100000 in
theorem cse_yX5_signOf : Cond.selects (cw_tab 6).1 yX5_signOf yX5_signOf ∈ cw_bw := List.mem_of_getElem? (i := 381) rfl
set_option maxRecDepth 100000 in
theorem cgo_yX5_signOf : GoodIn cw_bw [Cond.code yX5_signOf cX5_signOf 3 (some .int), Cond.initialized yX5_signOf.cls] := cw_gr _ [382, 368] rfl (by decide +kernel)
set_option maxRecDepth 100000 in
theorem cst_yX6_binder : Cond.static yX6_binder ∈ cw_bw := List.mem_of_getElem? (i := 383) rfl
set_option maxRecDepth 100000 in
theorem cgo_yX6_binder : GoodIn cw_bw [Cond.code yX6_binder cX6_binder 5 (some (.object "PureHouse$Node")), Cond.initialized yX6_binder.cls] := cw_gr _ [384, 385] rfl (by decide +kernel)
set_option maxRecDepth 100000 in
theorem cin_yX6_init : Cond.instanceMethod yX6_init ∈ cw_bw := List.mem_of_getElem? (i := 386) rfl
set_option maxRecDepth 100000 in
theorem cgo_yX6_init : GoodIn cw_bw [Cond.code yX6_init cX6_init 3 none, Cond.initialized yX6_init.cls] := cw_gr _ [387, 385] rfl (by decide +kernel)
set_option maxRecDepth 100000 in
theorem cin_yX6_keepSorts : Cond.instanceMethod yX6_keepSorts ∈ cw_bw := List.mem_of_getElem? (i := 388) rfl
set_option maxRecDepth 100000 in
theorem cse_yX6_keepSorts : Cond.selects (cw_tab 7).1 yX6_keepSorts yX6_keepSorts ∈ cw_bw := List.mem_of_getElem? (i := 389) rfl
set_option maxRecDepth 100000 in
theorem cgo_yX6_keepSorts : GoodIn cw_bw [Cond.code yX6_keepSorts cX6_keepSorts 3 none, Cond.initialized yX6_keepSorts.cls] := cw_gr _ [390, 385] rfl (by decide +kernel)
set_option maxRecDepth 100000 in
theorem cst_yX6_leaf : Cond.static yX6_leaf ∈ cw_bw := List.mem_of_getElem? (i := 391) rfl
set_option maxRecDepth 100000 in
theorem cgo_yX6_leaf : GoodIn cw_bw [Cond.code yX6_leaf cX6_leaf 2 (some (.object "PureHouse$Node")), Cond.initialized yX6_leaf.cls] := cw_gr _ [392, 385] rfl (by decide +kernel)
set_option maxRecDepth 100000 in
theorem cin_yX7_closeOf : Cond.instanceMethod yX7_closeOf ∈ cw_bw := List.mem_of_getElem? (i := 393) rfl
set_option maxRecDepth 100000 in
theorem cse_yX7_closeOf : Cond.selects (cw_tab 8).1 yX7_closeOf yX7_closeOf ∈ cw_bw := List.mem_of_getElem? (i := 394) rfl
set_option maxRecDepth 100000 in
theorem cgo_yX7_closeOf : GoodIn cw_bw [Cond.code yX7_closeOf cX7_closeOf 3 (some .int), Cond.initialized yX7_closeOf.cls] := cw_gr _ [395, 396] rfl (by decide +kernel)
set_option maxRecDepth 100000 in
theorem cst_yX7_isLetter : Cond.static yX7_isLetter ∈ cw_bw := List.mem_of_getElem? (i := 397) rfl
set_option maxRecDepth 100000 in
theorem cgo_yX7_isLetter : GoodIn cw_bw [Cond.code yX7_isLetter cX7_isLetter 1 (some .boolean), Cond.initialized yX7_isLetter.cls] := cw_gr _ [398, 396] rfl (by decide +kernel)
set_option maxRecDepth 100000 in
theorem cst_yX8_letsOf : Cond.static yX8_letsOf ∈ cw_bw := List.mem_of_getElem? (i := 399) rfl
set_option maxRecDepth 100000 in
theorem cgo_yX8_letsOf : GoodIn cw_bw [Cond.code yX8_letsOf cX8_letsOf 1 (some (.object "PureHouse$Link")), Cond.initialized yX8_letsOf.cls] := cw_gr _ [400, 401] rfl (by decide +kernel)
set_option maxRecDepth 100000 in
theorem cin_yX10_set : Cond.instanceMethod yX10_set ∈ cw_bw := List.mem_of_getElem? (i := 402) rfl
set_option maxRecDepth 100000 in
theorem cse_yX10_set : Cond.selects (cw_tab 11).1 yX10_set yX10_set ∈ cw_bw := List.mem_of_getElem? (i := 403) rfl
set_option maxRecDepth 100000 in
theorem cgo_yX10_set : GoodIn cw_bw [Cond.code yX10_set cX10_set 3 none, Cond.initialized yX10_set.cls] := cw_gr _ [404, 405] rfl (by decide +kernel)
set_option maxRecDepth 100000 in
theorem cin_yX11_feedFour : Cond.instanceMethod yX11_feedFour ∈ cw_bw := List.mem_of_getElem? (i := 406) rfl
set_option maxRecDepth 100000 in
theorem cse_yX11_feedFour : Cond.selects (cw_tab 12).1 yX11_feedFour yX11_feedFour ∈ cw_bw := List.mem_of_getElem? (i := 407) rfl
set_option maxRecDepth 100000 in
theorem cgo_yX11_feedFour : GoodIn cw_bw [Cond.code yX11_feedFour cX11_feedFour 3 none, Cond.initialized yX11_feedFour.cls] := cw_gr _ [408, 409] rfl (by decide +kernel)
set_option maxRecDepth 100000 in
theorem cin_yX11_neededSort : Cond.instanceMethod yX11_neededSort ∈ cw_bw := List.mem_of_getElem? (i := 410) rfl
set_option maxRecDepth 100000 in
theorem cse_yX11_neededSort : Cond.selects (cw_tab 12).1 yX11_neededSort yX11_neededSort ∈ cw_bw := List.mem_of_getElem? (i := 411) rfl
set_option maxRecDepth 100000 in
theorem cgo_yX11_neededSort : GoodIn cw_bw [Cond.code yX11_neededSort cX11_neededSort 3 (some .int), Cond.initialized yX11_neededSort.cls] := cw_gr _ [412, 409] rfl (by decide +kernel)
set_option maxRecDepth 100000 in
theorem cin_yX11_refuseBesideNames : Cond.instanceMethod yX11_refuseBesideNames ∈ cw_bw := List.mem_of_getElem? (i := 413) rfl
set_option maxRecDepth 100000 in
theorem cse_yX11_refuseBesideNames : Cond.selects (cw_tab 12).1 yX11_refuseBesideNames yX11_refuseBesideNames ∈ cw_bw := List.mem_of_getElem? (i := 414) rfl
set_option maxRecDepth 100000 in
theorem cgo_yX11_refuseBesideNames : GoodIn cw_bw [Cond.code yX11_refuseBesideNames cX11_refuseBesideNames 2 none, Cond.initialized yX11_refuseBesideNames.cls] := cw_gr _ [415, 409] rfl (by decide +kernel)
set_option maxRecDepth 100000 in
theorem cin_yX11_sortNumber : Cond.instanceMethod yX11_sortNumber ∈ cw_bw := List.mem_of_getElem? (i := 416) rfl
set_option maxRecDepth 100000 in
theorem cse_yX11_sortNumber : Cond.selects (cw_tab 12).1 yX11_sortNumber yX11_sortNumber ∈ cw_bw := List.mem_of_getElem? (i := 417) rfl
set_option maxRecDepth 100000 in
theorem cgo_yX11_sortNumber : GoodIn cw_bw [Cond.code yX11_sortNumber cX11_sortNumber 2 (some .int), Cond.initialized yX11_sortNumber.cls] := cw_gr _ [418, 409] rfl (by decide +kernel)
set_option maxRecDepth 100000 in
theorem cnl_3_8 : Cond.classLink RX3 8 (cw_tab 4).1 ∈ cw_bw := List.mem_of_getElem? (i := 419) rfl
set_option maxRecDepth 100000 in
theorem cnl_4_61 : Cond.classLink RX4 61 (cw_tab 2).1 ∈ cw_bw := List.mem_of_getElem? (i := 420) rfl
set_option maxRecDepth 100000 in
theorem cnl_6_10 : Cond.classLink RX6 10 (cw_tab 7).1 ∈ cw_bw := List.mem_of_getElem? (i := 421) rfl
set_option maxRecDepth 100000 in
theorem cni_2 : Cond.instantiable (cw_tab 2).1 4 ∈ cw_bw := List.mem_of_getElem? (i := 422) rfl
set_option maxRecDepth 100000 in
theorem cnz_2 : Cond.initialized (cw_tab 2).1 ∈ cw_bw := List.mem_of_getElem? (i := 296) rfl
set_option maxRecDepth 100000 in
theorem cni_4 : Cond.instantiable (cw_tab 4).1 5 ∈ cw_bw := List.mem_of_getElem? (i := 423) rfl
set_option maxRecDepth 100000 in
theorem cnz_4 : Cond.initialized (cw_tab 4).1 ∈ cw_bw := List.mem_of_getElem? (i := 314) rfl
set_option maxRecDepth 100000 in
theorem cni_7 : Cond.instantiable (cw_tab 7).1 11 ∈ cw_bw := List.mem_of_getElem? (i := 424) rfl
set_option maxRecDepth 100000 in
theorem cnz_7 : Cond.initialized (cw_tab 7).1 ∈ cw_bw := List.mem_of_getElem? (i := 385) rfl
set_option maxRecDepth 100000 in
theorem cac_int : Cond.arrayClass (Op.newarray.typeOf .int) ∈ cw_bw := List.mem_of_getElem? (i := 425) rfl
set_option maxRecDepth 100000 in
theorem cac_byte : Cond.arrayClass (Op.newarray.typeOf .byte) ∈ cw_bw := List.mem_of_getElem? (i := 426) rfl
set_option maxRecDepth 100000 in
theorem coi_1_1 : Cond.methodLink RX1 1 objectInit ∈ cw_bw := List.mem_of_getElem? (i := 427) rfl
set_option maxRecDepth 100000 in
theorem coi_2_3 : Cond.methodLink RX2 3 objectInit ∈ cw_bw := List.mem_of_getElem? (i := 428) rfl
set_option maxRecDepth 100000 in
theorem coi_3_1 : Cond.methodLink RX3 1 objectInit ∈ cw_bw := List.mem_of_getElem? (i := 429) rfl
set_option maxRecDepth 100000 in
theorem coi_4_3 : Cond.methodLink RX4 3 objectInit ∈ cw_bw := List.mem_of_getElem? (i := 430) rfl
set_option maxRecDepth 100000 in
theorem coi_5_3 : Cond.methodLink RX5 3 objectInit ∈ cw_bw := List.mem_of_getElem? (i := 431) rfl
set_option maxRecDepth 100000 in
theorem coi_6_3 : Cond.methodLink RX6 3 objectInit ∈ cw_bw := List.mem_of_getElem? (i := 432) rfl
set_option maxRecDepth 100000 in
theorem coi_7_3 : Cond.methodLink RX7 3 objectInit ∈ cw_bw := List.mem_of_getElem? (i := 433) rfl
set_option maxRecDepth 100000 in
theorem coi_8_1 : Cond.methodLink RX8 1 objectInit ∈ cw_bw := List.mem_of_getElem? (i := 434) rfl
set_option maxRecDepth 100000 in
theorem coi_9_1 : Cond.methodLink RX9 1 objectInit ∈ cw_bw := List.mem_of_getElem? (i := 435) rfl
set_option maxRecDepth 100000 in
theorem coi_10_3 : Cond.methodLink RX10 3 objectInit ∈ cw_bw := List.mem_of_getElem? (i := 436) rfl
set_option maxRecDepth 100000 in
theorem coi2 : Cond.instanceMethod objectInit ∈ cw_bw := List.mem_of_getElem? (i := 437) rfl
set_option maxRecDepth 100000 in
theorem coi3 : Cond.code objectInit ⟨#[0xb1]⟩ 1 none ∈ cw_bw := List.mem_of_getElem? (i := 438) rfl
set_option maxRecDepth 100000 in
theorem cxc_2_154 : Cond.classLink RX2 154 (cw_ex 1) ∈ cw_bw := List.mem_of_getElem? (i := 439) rfl
set_option maxRecDepth 100000 in
theorem cxc_4_89 : Cond.classLink RX4 89 (cw_ex 1) ∈ cw_bw := List.mem_of_getElem? (i := 440) rfl
set_option maxRecDepth 100000 in
theorem cxc_7_100 : Cond.classLink RX7 100 (cw_ex 1) ∈ cw_bw := List.mem_of_getElem? (i := 441) rfl
set_option maxRecDepth 100000 in
theorem cxc_11_74 : Cond.classLink RX11 74 (cw_ex 2) ∈ cw_bw := List.mem_of_getElem? (i := 442) rfl
set_option maxRecDepth 100000 in
theorem cxc_11_81 : Cond.classLink RX11 81 (cw_ex 3) ∈ cw_bw := List.mem_of_getElem? (i := 443) rfl
set_option maxRecDepth 100000 in
theorem cxc_11_158 : Cond.classLink RX11 158 (cw_ex 1) ∈ cw_bw := List.mem_of_getElem? (i := 444) rfl
set_option maxRecDepth 100000 in
theorem cxi_1 : Cond.initialized (cw_ex 1) ∈ cw_bw := List.mem_of_getElem? (i := 445) rfl
set_option maxRecDepth 100000 in
theorem cxi_2 : Cond.initialized (cw_ex 2) ∈ cw_bw := List.mem_of_getElem? (i := 446) rfl
set_option maxRecDepth 100000 in
theorem cxi_3 : Cond.initialized (cw_ex 3) ∈ cw_bw := List.mem_of_getElem? (i := 447) rfl
set_option maxRecDepth 100000 in
theorem cxa_2_156 : ∀ w ∈ (vx_at0 RX2 156 (cw_ex 1) ["java/lang/RuntimeException", "java/lang/Exception"]).filter goodWord, w ∈ cw_bw := fun w h => List.mem_append_right _ (List.mem_append_left _ h)
set_option maxRecDepth 100000 in
theorem cxg_2_156 : (Cond.classLink RX2 154 (cw_ex 1) :: Cond.initialized (cw_ex 1) :: vx_at0 RX2 156 (cw_ex 1) ["java/lang/RuntimeException", "java/lang/Exception"]).all vx_ot = true := by decide +kernel
set_option maxRecDepth 100000 in
theorem cxa_4_91 : ∀ w ∈ (vx_at0 RX4 91 (cw_ex 1) ["java/lang/RuntimeException", "java/lang/Exception"]).filter goodWord, w ∈ cw_bw := fun w h => List.mem_append_right _ (List.mem_append_right _ (List.mem_append_left _ h))
set_option maxRecDepth 100000 in
theorem cxg_4_91 : (Cond.classLink RX4 89 (cw_ex 1) :: Cond.initialized (cw_ex 1) :: vx_at0 RX4 91 (cw_ex 1) ["java/lang/RuntimeException", "java/lang/Exception"]).all vx_ot = true := by decide +kernel
set_option maxRecDepth 100000 in
theorem cxa_7_102 : ∀ w ∈ (vx_at0 RX7 102 (cw_ex 1) ["java/lang/RuntimeException", "java/lang/Exception"]).filter goodWord, w ∈ cw_bw := fun w h => List.mem_append_right _ (List.mem_append_right _ (List.mem_append_right _ (List.mem_append_left _ h)))
set_option maxRecDepth 100000 in
theorem cxg_7_102 : (Cond.classLink RX7 100 (cw_ex 1) :: Cond.initialized (cw_ex 1) :: vx_at0 RX7 102 (cw_ex 1) ["java/lang/RuntimeException", "java/lang/Exception"]).all vx_ot = true := by decide +kernel
set_option maxRecDepth 100000 in
theorem cxa_11_76 : ∀ w ∈ (vx_at0 RX11 76 (cw_ex 2) ["java/lang/RuntimeException", "java/lang/Exception"]).filter goodWord, w ∈ cw_bw := fun w h => List.mem_append_right _ (List.mem_append_right _ (List.mem_append_right _ (List.mem_append_right _ (List.mem_append_left _ h))))
set_option maxRecDepth 100000 in
theorem cxg_11_76 : (Cond.classLink RX11 74 (cw_ex 2) :: Cond.initialized (cw_ex 2) :: vx_at0 RX11 76 (cw_ex 2) ["java/lang/RuntimeException", "java/lang/Exception"]).all vx_ot = true := by decide +kernel
set_option maxRecDepth 100000 in
theorem cxa_11_83 : ∀ w ∈ (vx_at0 RX11 83 (cw_ex 3) ["java/lang/RuntimeException", "java/lang/Exception"]).filter goodWord, w ∈ cw_bw := fun w h => List.mem_append_right _ (List.mem_append_right _ (List.mem_append_right _ (List.mem_append_right _ (List.mem_append_right _ (List.mem_append_left _ h)))))
set_option maxRecDepth 100000 in
theorem cxg_11_83 : (Cond.classLink RX11 81 (cw_ex 3) :: Cond.initialized (cw_ex 3) :: vx_at0 RX11 83 (cw_ex 3) ["java/lang/RuntimeException", "java/lang/Exception"]).all vx_ot = true := by decide +kernel
set_option maxRecDepth 100000 in
theorem cxa_11_160 : ∀ w ∈ (vx_at0 RX11 160 (cw_ex 1) ["java/lang/RuntimeException", "java/lang/Exception"]).filter goodWord, w ∈ cw_bw := fun w h => List.mem_append_right _ (List.mem_append_right _ (List.mem_append_right _ (List.mem_append_right _ (List.mem_append_right _ (List.mem_append_right _ h)))))
set_option maxRecDepth 100000 in
theorem cxg_11_160 : (Cond.classLink RX11 158 (cw_ex 1) :: Cond.initialized (cw_ex 1) :: vx_at0 RX11 160 (cw_ex 1) ["java/lang/RuntimeException", "java/lang/Exception"]).all vx_ot = true := by decide +kernel
