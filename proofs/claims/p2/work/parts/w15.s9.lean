section LWI
variable {p : Program} {l : Launch} {e : Env} {s : State} {m : MethodId} {args : Array Value} {below : List Frame} {meth : Method} {c : Code} {H : Heap} {locs : List Loc} {cells slots : Nat} {Q : State → Prop} {pc : Nat} {ls : Array Slot} {rest : List Value}
variable {v : cwE} {vr : rfE} {σs σ σ1 : CS} {τ τ1 : RS} {cL : ClassId} {o : Nat} {y y' : Int64} {b L n j k x : Nat} {xs : Nat → Int32}
theorem lw_cmp0 (x : Int64) : lg_cmp x x = 0 := by
  unfold lg_cmp
  simp
set_option maxHeartbeats 4000000 in
set_option maxRecDepth 100000 in
theorem la_feed (S : lw_S v vr cL σs b L xs l p s m args meth c) (hI : lw_I (cw_bd v) x j σ τ) (hj : j ≤ n) (hn : 6 * n + 6 ≤ L) (hw : lw_W v vr o cL s σs σ τ y H locs cells slots) (hl : lv_has ls 7 (lw_lv n b x v vr o))
    (kk : ∀ (σ : CS) (τ : RS) (y : Int64) (H : Heap) (locs : List Loc) (cells slots : Nat) (ls : Array Slot), lw_I (cw_bd v) x (j + 1) σ τ → lw_W v vr o cL s σs σ τ y H locs cells slots → lv_has ls 7 (lw_lv n b x v vr o) → W p l e room_1 s m args below meth c H locs cells slots Q (F0 m 590 ls [])) :
    W p l e room_1 s m args below meth c H locs cells slots Q (F0 m 116 ls []) := by
  have hx := S.1.1.1
  have hb := S.1.1.2.1
  have hL := S.2.2.2.1
  have htr := S.2.2.2.2
  have hD := S.1.2.2.2.1
  have hti := lw_tg hI
  have hix := lw_inx hI hw
  obtain ⟨σ1, r, τ1, rb, e1, e2, hI1, hans⟩ := lt_feed (x1 := (xs (6 * n + 1)).toInt) (x2 := (xs (6 * n + 2)).toInt) (x3 := (xs (6 * n + 3)).toInt) (x4 := (xs (6 * n + 4)).toInt) (x5 := (xs (6 * n + 5)).toInt)  hI (by omega)
  have hM : cw_Met l v yX11_feed cX11_feed 6 (some .int) 212 [cR v ((x + 0 : Nat) : Int), .int (rI (xs (6 * n + 1)).toInt), .int (rI (xs (6 * n + 2)).toInt), .int (rI (xs (6 * n + 3)).toInt), .int (rI (xs (6 * n + 4)).toInt), .int (rI (xs (6 * n + 5)).toInt)] σ σ1 0 (some (.int (rI r))) := (cw_sim htr 212 43 σ _ σ1 0 r e1).2 hix (inR_of _) (inR_of _) (inR_of _) (inR_of _) (inR_of _)
  have hR : rf_Met l vr yX12_feed cX12_feed 8 (some .int) 720 [.ref (rf_h vr), .int (rI (xs (6 * n + 1)).toInt), .int (rI (xs (6 * n + 2)).toInt), .int (rI (xs (6 * n + 3)).toInt), .int (rI (xs (6 * n + 4)).toInt), .int (rI (xs (6 * n + 5)).toInt)] τ τ1 (some (.int (rI rb))) := (rf_sim hD 720 6 τ _ τ1 rb e2).2 (inR_of _) (inR_of _) (inR_of _) (inR_of _) (inR_of _)
  refine lv_aload_n hx hb dL_law_116 rfl (lv_at hl 2 rfl) ?_
  refine lw_rd (k := 1) S hw hn (by decide) rfl (lv_at hl 1 rfl) (lv_at hl 0 rfl) dL_law_117 dL_law_118 dL_law_120 dL_law_121 dL_law_122 ?_
  refine lw_rd (k := 2) S hw hn (by decide) rfl (lv_at hl 1 rfl) (lv_at hl 0 rfl) dL_law_123 dL_law_124 dL_law_126 dL_law_127 dL_law_128 ?_
  refine lw_rd (k := 3) S hw hn (by decide) rfl (lv_at hl 1 rfl) (lv_at hl 0 rfl) dL_law_129 dL_law_130 dL_law_132 dL_law_133 dL_law_134 ?_
  refine lw_rd (k := 4) S hw hn (by decide) rfl (lv_at hl 1 rfl) (lv_at hl 0 rfl) dL_law_135 dL_law_136 dL_law_138 dL_law_139 dL_law_140 ?_
  refine lw_rd (k := 5) S hw hn (by decide) rfl (lv_at hl 1 rfl) (lv_at hl 0 rfl) dL_law_141 dL_law_142 dL_law_144 dL_law_145 dL_law_146 ?_
  refine lw_dir (rest := []) (n := 5) (b := x + 0) (As := [.int (rI (xs (6 * n + 1)).toInt), .int (rI (xs (6 * n + 2)).toInt), .int (rI (xs (6 * n + 3)).toInt), .int (rI (xs (6 * n + 4)).toInt), .int (rI (xs (6 * n + 5)).toInt)]) S.1 hM hti (lw_gi 2 59 rfl rfl) (lw_gi 1 1 rfl rfl) (lw_gi 2 56 rfl rfl) (lw_gi 2 57 rfl rfl) (lw_gi 2 58 rfl rfl) (by decide +kernel) (by decide) (by decide) rfl hl.1 (Nat.le_of_ble_eq_true rfl) dL_law_147 rfl hw (fun H locs cells slots hw => ?_)
  refine lv_aload_n hx hb dL_law_150 rfl (lv_at hl 3 rfl) ?_
  refine lw_rd (k := 1) S hw hn (by decide) rfl (lv_at hl 1 rfl) (lv_at hl 0 rfl) dL_law_151 dL_law_152 dL_law_154 dL_law_155 dL_law_156 ?_
  refine lw_rd (k := 2) S hw hn (by decide) rfl (lv_at hl 1 rfl) (lv_at hl 0 rfl) dL_law_157 dL_law_158 dL_law_160 dL_law_161 dL_law_162 ?_
  refine lw_rd (k := 3) S hw hn (by decide) rfl (lv_at hl 1 rfl) (lv_at hl 0 rfl) dL_law_163 dL_law_164 dL_law_166 dL_law_167 dL_law_168 ?_
  refine lw_rd (k := 4) S hw hn (by decide) rfl (lv_at hl 1 rfl) (lv_at hl 0 rfl) dL_law_169 dL_law_170 dL_law_172 dL_law_173 dL_law_174 ?_
  refine lw_rd (k := 5) S hw hn (by decide) rfl (lv_at hl 1 rfl) (lv_at hl 0 rfl) dL_law_175 dL_law_176 dL_law_178 dL_law_179 dL_law_180 ?_
  refine lw_rf (rest := [.int (rI r)]) (n := 5) (As := [.int (rI (xs (6 * n + 1)).toInt), .int (rI (xs (6 * n + 2)).toInt), .int (rI (xs (6 * n + 3)).toInt), .int (rI (xs (6 * n + 4)).toInt), .int (rI (xs (6 * n + 5)).toInt)]) S.1 hR (lw_gi 7 74 rfl rfl) (lw_gi 1 8 rfl rfl) (lw_gi 7 71 rfl rfl) (lw_gi 7 72 rfl rfl) (lw_gi 7 73 rfl rfl) (by decide +kernel) (by decide) (by decide) rfl hl.1 (Nat.le_of_ble_eq_true rfl) dL_law_181 rfl hw (fun H locs hw => ?_)
  refine lv_icmp_eq hx hb dL_law_184 (tgt := 590) rfl (fun _ => ?_) (fun h => absurd (by rw [hans]) h)
  exact kk _ _ _ _ _ _ _ _ hI1 hw (lv_sub hl [0, 1, 2, 3, 4] rfl)
set_option maxHeartbeats 4000000 in
set_option maxRecDepth 100000 in
theorem la_text (S : lw_S v vr cL σs b L xs l p s m args meth c) (hI : lw_I (cw_bd v) x j σ τ) (hj : j ≤ n) (hn : 6 * n + 6 ≤ L) (hw : lw_W v vr o cL s σs σ τ y H locs cells slots) (hl : lv_has ls 7 (lw_lv n b x v vr o))
    (kk : ∀ (σ : CS) (τ : RS) (y : Int64) (H : Heap) (locs : List Loc) (cells slots : Nat) (ls : Array Slot), lw_I (cw_bd v) x (j + 1) σ τ → lw_W v vr o cL s σs σ τ y H locs cells slots → lv_has ls 7 (lw_lv n b x v vr o) → W p l e room_1 s m args below meth c H locs cells slots Q (F0 m 590 ls [])) :
    W p l e room_1 s m args below meth c H locs cells slots Q (F0 m 189 ls []) := by
  have hx := S.1.1.1
  have hb := S.1.1.2.1
  have hL := S.2.2.2.1
  have htr := S.2.2.2.2
  have hD := S.1.2.2.2.1
  have hti := lw_tg hI
  have hix := lw_inx hI hw
  obtain ⟨σ1, kd, r, τ1, rb, e1, e2, hk, hI1⟩ := lt_text (x := (xs (6 * n + 1)).toInt)  hI (by omega)
  have hM : cw_Met l v yX11_text cX11_text 2 (some .int) 212 [cR v ((x + 0 : Nat) : Int), .int (rI (xs (6 * n + 1)).toInt)] σ σ1 kd (some (.int (rI r))) := (cw_sim htr 212 62 σ _ σ1 kd r e1).2 hix (inR_of _)
  have hR : rf_Met l vr yX12_text cX12_text 3 (some .int) 720 [.ref (rf_h vr), .int (rI (xs (6 * n + 1)).toInt)] τ τ1 (some (.int (rI rb))) := (rf_sim hD 720 62 τ _ τ1 rb e2).2 (inR_of _)
  refine lv_aload_n hx hb dL_law_189 rfl (lv_at hl 2 rfl) ?_
  refine lw_rd (k := 1) S hw hn (by decide) rfl (lv_at hl 1 rfl) (lv_at hl 0 rfl) dL_law_190 dL_law_191 dL_law_193 dL_law_194 dL_law_195 ?_
  refine lv_aload_n hx hb dL_law_196 rfl (lv_at hl 4 rfl) ?_
  refine lw_wr (rest := []) (n := 3) S.1 (lw_c_text (o := o) (cL := cL) (y := y) hM hti hk hw.2.2.2.1.1) (lw_gi 2 70 rfl rfl) (lw_gi 1 0 rfl rfl) (lw_gi 2 68 rfl rfl) (lw_gi 2 69 rfl rfl) (by decide +kernel) (by decide) (by decide) rfl hl.1 (Nat.le_of_ble_eq_true rfl) dL_law_197 rfl hw (fun H locs cells slots hw => ?_)
  refine lv_istore hx hb dL_law_200 hl (by decide) rfl (fun ls hl => ?_)
  refine lv_aload_n hx hb dL_law_202 rfl (lv_at hl 4 rfl) ?_
  refine lw_rd (k := 1) S hw hn (by decide) rfl (lv_at hl 2 rfl) (lv_at hl 1 rfl) dL_law_203 dL_law_204 dL_law_206 dL_law_207 dL_law_208 ?_
  refine lw_rf (rest := []) (n := 1) (As := [.int (rI (xs (6 * n + 1)).toInt)]) S.1 hR (lw_gi 7 78 rfl rfl) (lw_gi 1 8 rfl rfl) (lw_gi 7 75 rfl rfl) (lw_gi 7 76 rfl rfl) (lw_gi 7 77 rfl rfl) (by decide +kernel) (by decide) (by decide) rfl hl.1 (Nat.le_of_ble_eq_true rfl) dL_law_209 rfl hw (fun H locs hw => ?_)
  refine lv_istore hx hb dL_law_212 hl (by decide) rfl (fun ls hl => ?_)
  refine lv_goto hx hb (tgt := 590) dL_law_214 rfl ?_
  exact kk _ _ _ _ _ _ _ _ hI1 hw (lv_sub hl [2, 3, 4, 5, 6] rfl)
set_option maxHeartbeats 4000000 in
set_option maxRecDepth 100000 in
theorem la_fault (S : lw_S v vr cL σs b L xs l p s m args meth c) (hI : lw_I (cw_bd v) x j σ τ) (hj : j ≤ n) (hn : 6 * n + 6 ≤ L) (hw : lw_W v vr o cL s σs σ τ y H locs cells slots) (hl : lv_has ls 7 (lw_lv n b x v vr o))
    (kk : ∀ (σ : CS) (τ : RS) (y : Int64) (H : Heap) (locs : List Loc) (cells slots : Nat) (ls : Array Slot), lw_I (cw_bd v) x (j + 1) σ τ → lw_W v vr o cL s σs σ τ y H locs cells slots → lv_has ls 7 (lw_lv n b x v vr o) → W p l e room_1 s m args below meth c H locs cells slots Q (F0 m 590 ls [])) :
    W p l e room_1 s m args below meth c H locs cells slots Q (F0 m 217 ls []) := by
  have hx := S.1.1.1
  have hb := S.1.1.2.1
  have hL := S.2.2.2.1
  have htr := S.2.2.2.2
  have hD := S.1.2.2.2.1
  have hti := lw_tg hI
  have hix := lw_inx hI hw
  obtain ⟨σ1, kd, r, τ1, rb, e1, e2, hk, hI1⟩ := lt_fault (x := (xs (6 * n + 1)).toInt)  (inR_of _) hI (by omega)
  have hM : cw_Met l v yX11_fault cX11_fault 2 (some .int) 212 [cR v ((x + 0 : Nat) : Int), .int (rI (xs (6 * n + 1)).toInt)] σ σ1 kd (some (.int (rI r))) := (cw_sim htr 212 42 σ _ σ1 kd r e1).2 hix (inR_of _)
  have hR : rf_Met l vr yX12_fault cX12_fault 2 (some .int) 720 [.ref (rf_h vr), .int (rI (xs (6 * n + 1)).toInt)] τ τ1 (some (.int (rI rb))) := (rf_sim hD 720 63 τ _ τ1 rb e2).2 (inR_of _)
  refine lv_aload_n hx hb dL_law_217 rfl (lv_at hl 2 rfl) ?_
  refine lw_rd (k := 1) S hw hn (by decide) rfl (lv_at hl 1 rfl) (lv_at hl 0 rfl) dL_law_218 dL_law_219 dL_law_221 dL_law_222 dL_law_223 ?_
  refine lv_aload_n hx hb dL_law_224 rfl (lv_at hl 4 rfl) ?_
  refine lw_wr (rest := []) (n := 3) S.1 (lw_c_fault (o := o) (cL := cL) (y := y) hM hti hk hw.2.2.2.1.1) (lw_gi 5 159 rfl rfl) (lw_gi 1 0 rfl rfl) (lw_gi 5 157 rfl rfl) (lw_gi 5 158 rfl rfl) (by decide +kernel) (by decide) (by decide) rfl hl.1 (Nat.le_of_ble_eq_true rfl) dL_law_225 rfl hw (fun H locs cells slots hw => ?_)
  refine lv_istore hx hb dL_law_228 hl (by decide) rfl (fun ls hl => ?_)
  refine lv_aload_n hx hb dL_law_230 rfl (lv_at hl 4 rfl) ?_
  refine lw_rd (k := 1) S hw hn (by decide) rfl (lv_at hl 2 rfl) (lv_at hl 1 rfl) dL_law_231 dL_law_232 dL_law_234 dL_law_235 dL_law_236 ?_
  refine lw_rf (rest := []) (n := 1) (As := [.int (rI (xs (6 * n + 1)).toInt)]) S.1 hR (lw_gi 8 71 rfl rfl) (lw_gi 1 8 rfl rfl) (lw_gi 8 68 rfl rfl) (lw_gi 8 69 rfl rfl) (lw_gi 8 70 rfl rfl) (by decide +kernel) (by decide) (by decide) rfl hl.1 (Nat.le_of_ble_eq_true rfl) dL_law_237 rfl hw (fun H locs hw => ?_)
  refine lv_istore hx hb dL_law_240 hl (by decide) rfl (fun ls hl => ?_)
  refine lv_goto hx hb (tgt := 590) dL_law_242 rfl ?_
  exact kk _ _ _ _ _ _ _ _ hI1 hw (lv_sub hl [2, 3, 4, 5, 6] rfl)
set_option maxHeartbeats 4000000 in
set_option maxRecDepth 100000 in
theorem la_corner (S : lw_S v vr cL σs b L xs l p s m args meth c) (hI : lw_I (cw_bd v) x j σ τ) (hj : j ≤ n) (hn : 6 * n + 6 ≤ L) (hw : lw_W v vr o cL s σs σ τ y H locs cells slots) (hl : lv_has ls 7 (lw_lv n b x v vr o))
    (kk : ∀ (σ : CS) (τ : RS) (y : Int64) (H : Heap) (locs : List Loc) (cells slots : Nat) (ls : Array Slot), lw_I (cw_bd v) x (j + 1) σ τ → lw_W v vr o cL s σs σ τ y H locs cells slots → lv_has ls 7 (lw_lv n b x v vr o) → W p l e room_1 s m args below meth c H locs cells slots Q (F0 m 590 ls [])) :
    W p l e room_1 s m args below meth c H locs cells slots Q (F0 m 245 ls []) := by
  have hx := S.1.1.1
  have hb := S.1.1.2.1
  have hL := S.2.2.2.1
  have htr := S.2.2.2.2
  have hD := S.1.2.2.2.1
  have hti := lw_tg hI
  have hix := lw_inx hI hw
  obtain ⟨σ1, kd, r, τ1, rb, e1, e2, hk, hI1⟩ := lt_corner (x := (xs (6 * n + 1)).toInt)  hI (by omega)
  have hM : cw_Met l v yX11_corner cX11_corner 3 (some .int) 212 [cR v ((x + 0 : Nat) : Int), .int (rI (xs (6 * n + 1)).toInt)] σ σ1 kd (some (.int (rI r))) := (cw_sim htr 212 39 σ _ σ1 kd r e1).2 hix (inR_of _)
  have hR : rf_Met l vr yX12_corner cX12_corner 3 (some .int) 720 [.ref (rf_h vr), .int (rI (xs (6 * n + 1)).toInt)] τ τ1 (some (.int (rI rb))) := (rf_sim hD 720 64 τ _ τ1 rb e2).2 (inR_of _)
  refine lv_aload_n hx hb dL_law_245 rfl (lv_at hl 2 rfl) ?_
  refine lw_rd (k := 1) S hw hn (by decide) rfl (lv_at hl 1 rfl) (lv_at hl 0 rfl) dL_law_246 dL_law_247 dL_law_249 dL_law_250 dL_law_251 ?_
  refine lv_aload_n hx hb dL_law_252 rfl (lv_at hl 4 rfl) ?_
  refine lw_wr (rest := []) (n := 3) S.1 (lw_c_corner (o := o) (cL := cL) (y := y) hM hti hk hw.2.2.2.1.1) (lw_gi 5 182 rfl rfl) (lw_gi 1 0 rfl rfl) (lw_gi 5 180 rfl rfl) (lw_gi 5 181 rfl rfl) (by decide +kernel) (by decide) (by decide) rfl hl.1 (Nat.le_of_ble_eq_true rfl) dL_law_253 rfl hw (fun H locs cells slots hw => ?_)
  refine lv_istore hx hb dL_law_256 hl (by decide) rfl (fun ls hl => ?_)
  refine lv_aload_n hx hb dL_law_258 rfl (lv_at hl 4 rfl) ?_
  refine lw_rd (k := 1) S hw hn (by decide) rfl (lv_at hl 2 rfl) (lv_at hl 1 rfl) dL_law_259 dL_law_260 dL_law_262 dL_law_263 dL_law_264 ?_
  refine lw_rf (rest := []) (n := 1) (As := [.int (rI (xs (6 * n + 1)).toInt)]) S.1 hR (lw_gi 8 75 rfl rfl) (lw_gi 1 8 rfl rfl) (lw_gi 8 72 rfl rfl) (lw_gi 8 73 rfl rfl) (lw_gi 8 74 rfl rfl) (by decide +kernel) (by decide) (by decide) rfl hl.1 (Nat.le_of_ble_eq_true rfl) dL_law_265 rfl hw (fun H locs hw => ?_)
  refine lv_istore hx hb dL_law_268 hl (by decide) rfl (fun ls hl => ?_)
  refine lv_goto hx hb (tgt := 590) dL_law_270 rfl ?_
  exact kk _ _ _ _ _ _ _ _ hI1 hw (lv_sub hl [2, 3, 4, 5, 6] rfl)
set_option maxHeartbeats 4000000 in
set_option maxRecDepth 100000 in
theorem la_limit (S : lw_S v vr cL σs b L xs l p s m args meth c) (hI : lw_I (cw_bd v) x j σ τ) (hj : j ≤ n) (hn : 6 * n + 6 ≤ L) (hw : lw_W v vr o cL s σs σ τ y H locs cells slots) (hl : lv_has ls 7 (lw_lv n b x v vr o))
    (kk : ∀ (σ : CS) (τ : RS) (y : Int64) (H : Heap) (locs : List Loc) (cells slots : Nat) (ls : Array Slot), lw_I (cw_bd v) x (j + 1) σ τ → lw_W v vr o cL s σs σ τ y H locs cells slots → lv_has ls 7 (lw_lv n b x v vr o) → W p l e room_1 s m args below meth c H locs cells slots Q (F0 m 590 ls [])) :
    W p l e room_1 s m args below meth c H locs cells slots Q (F0 m 273 ls []) := by
  have hx := S.1.1.1
  have hb := S.1.1.2.1
  have hL := S.2.2.2.1
  have htr := S.2.2.2.2
  have hD := S.1.2.2.2.1
  have hti := lw_tg hI
  have hix := lw_inx hI hw
  obtain ⟨σ1, kd, r, τ1, rb, e1, e2, hk, hI1, hcode, hans⟩ := lt_limit (x := (xs (6 * n + 1)).toInt)  hI (by omega)
  have hM : cw_Met l v yX11_limit cX11_limit 3 (some .int) 212 [cR v ((x + 0 : Nat) : Int), .int (rI (xs (6 * n + 1)).toInt)] σ σ1 kd (some (.int (rI r))) := (cw_sim htr 212 46 σ _ σ1 kd r e1).2 hix (inR_of _)
  have hR : rf_Met l vr yX12_limit cX12_limit 3 (some .int) 720 [.ref (rf_h vr), .int (rI (xs (6 * n + 1)).toInt)] τ τ1 (some (.int (rI rb))) := (rf_sim hD 720 65 τ _ τ1 rb e2).2 (inR_of _)
  refine lv_aload_n hx hb dL_law_273 rfl (lv_at hl 2 rfl) ?_
  refine lw_rd (k := 1) S hw hn (by decide) rfl (lv_at hl 1 rfl) (lv_at hl 0 rfl) dL_law_274 dL_law_275 dL_law_277 dL_law_278 dL_law_279 ?_
  refine lv_aload_n hx hb dL_law_280 rfl (lv_at hl 4 rfl) ?_
  refine lw_wr (rest := []) (n := 3) S.1 (lw_c_limit (o := o) (cL := cL) (y := y) hM hti hk hw.2.2.2.1.1) (lw_gi 5 189 rfl rfl) (lw_gi 1 0 rfl rfl) (lw_gi 5 187 rfl rfl) (lw_gi 5 188 rfl rfl) (by decide +kernel) (by decide) (by decide) rfl hl.1 (Nat.le_of_ble_eq_true rfl) dL_law_281 rfl hw (fun H locs cells slots hw => ?_)
  refine lv_istore hx hb dL_law_284 hl (by decide) rfl (fun ls hl => ?_)
  refine lv_aload_n hx hb dL_law_286 rfl (lv_at hl 4 rfl) ?_
  refine lw_rd (k := 1) S hw hn (by decide) rfl (lv_at hl 2 rfl) (lv_at hl 1 rfl) dL_law_287 dL_law_288 dL_law_290 dL_law_291 dL_law_292 ?_
  refine lw_rf (rest := []) (n := 1) (As := [.int (rI (xs (6 * n + 1)).toInt)]) S.1 hR (lw_gi 8 79 rfl rfl) (lw_gi 1 8 rfl rfl) (lw_gi 8 76 rfl rfl) (lw_gi 8 77 rfl rfl) (lw_gi 8 78 rfl rfl) (by decide +kernel) (by decide) (by decide) rfl hl.1 (Nat.le_of_ble_eq_true rfl) dL_law_293 rfl hw (fun H locs hw => ?_)
  refine lv_istore hx hb dL_law_296 hl (by decide) rfl (fun ls hl => ?_)
  refine lv_goto hx hb (tgt := 590) dL_law_298 rfl ?_
  exact kk _ _ _ _ _ _ _ _ hI1 hw (lv_sub hl [2, 3, 4, 5, 6] rfl)
set_option maxHeartbeats 4000000 in
set_option maxRecDepth 100000 in
theorem la_outs (S : lw_S v vr cL σs b L xs l p s m args meth c) (hI : lw_I (cw_bd v) x j σ τ) (hj : j ≤ n) (hn : 6 * n + 6 ≤ L) (hw : lw_W v vr o cL s σs σ τ y H locs cells slots) (hl : lv_has ls 7 (lw_lv n b x v vr o))
    (kk : ∀ (σ : CS) (τ : RS) (y : Int64) (H : Heap) (locs : List Loc) (cells slots : Nat) (ls : Array Slot), lw_I (cw_bd v) x (j + 1) σ τ → lw_W v vr o cL s σs σ τ y H locs cells slots → lv_has ls 7 (lw_lv n b x v vr o) → W p l e room_1 s m args below meth c H locs cells slots Q (F0 m 590 ls [])) :
    W p l e room_1 s m args below meth c H locs cells slots Q (F0 m 301 ls []) := by
  have hx := S.1.1.1
  have hb := S.1.1.2.1
  have hL := S.2.2.2.1
  have htr := S.2.2.2.2
  have hD := S.1.2.2.2.1
  have hti := lw_tg hI
  have hix := lw_inx hI hw
  obtain ⟨σ1, r, τ1, rb, e1, e2, hI1⟩ := lt_outs  hI (by omega)
  have hM : cw_Met l v yX11_outs cX11_outs 1 (some .int) 212 [cR v ((x + 0 : Nat) : Int)] σ σ1 0 (some (.int (rI r))) := (cw_sim htr 212 53 σ _ σ1 0 r e1).2 hix
  have hR : rf_Met l vr yX12_outs cX12_outs 1 (some .int) 720 [.ref (rf_h vr)] τ τ1 (some (.int (rI rb))) := (rf_sim hD 720 66 τ _ τ1 rb e2).2
  refine lv_aload_n hx hb dL_law_301 rfl (lv_at hl 2 rfl) ?_
  refine lw_dir (rest := []) (n := 0) (b := x + 0) (As := []) S.1 hM hti (lw_gi 2 67 rfl rfl) (lw_gi 1 1 rfl rfl) (lw_gi 2 64 rfl rfl) (lw_gi 2 65 rfl rfl) (lw_gi 2 66 rfl rfl) (by decide +kernel) (by decide) (by decide) rfl hl.1 (Nat.le_of_ble_eq_true rfl) dL_law_302 rfl hw (fun H locs cells slots hw => ?_)
  refine lv_pop hx hb dL_law_305 rfl ?_
  refine lv_aload_n hx hb dL_law_306 rfl (lv_at hl 3 rfl) ?_
  refine lw_rf (rest := []) (n := 0) (As := []) S.1 hR (lw_gi 8 83 rfl rfl) (lw_gi 1 8 rfl rfl) (lw_gi 8 80 rfl rfl) (lw_gi 8 81 rfl rfl) (lw_gi 8 82 rfl rfl) (by decide +kernel) (by decide) (by decide) rfl hl.1 (Nat.le_of_ble_eq_true rfl) dL_law_307 rfl hw (fun H locs hw => ?_)
  refine lv_pop hx hb dL_law_310 rfl ?_
  refine lv_goto hx hb (tgt := 590) dL_law_311 rfl ?_
  exact kk _ _ _ _ _ _ _ _ hI1 hw (lv_sub hl [0, 1, 2, 3, 4] rfl)
set_option maxHeartbeats 4000000 in
set_option maxRecDepth 100000 in
theorem la_out (S : lw_S v vr cL σs b L xs l p s m args meth c) (hI : lw_I (cw_bd v) x j σ τ) (hj : j ≤ n) (hn : 6 * n + 6 ≤ L) (hw : lw_W v vr o cL s σs σ τ y H locs cells slots) (hl : lv_has ls 7 (lw_lv n b x v vr o))
    (kk : ∀ (σ : CS) (τ : RS) (y : Int64) (H : Heap) (locs : List Loc) (cells slots : Nat) (ls : Array Slot), lw_I (cw_bd v) x (j + 1) σ τ → lw_W v vr o cL s σs σ τ y H locs cells slots → lv_has ls 7 (lw_lv n b x v vr o) → W p l e room_1 s m args below meth c H locs cells slots Q (F0 m 590 ls [])) :
    W p l e room_1 s m args below meth c H locs cells slots Q (F0 m 314 ls []) := by
  have hx := S.1.1.1
  have hb := S.1.1.2.1
  have hL := S.2.2.2.1
  have htr := S.2.2.2.2
  have hD := S.1.2.2.2.1
  have hti := lw_tg hI
  have hix := lw_inx hI hw
  obtain ⟨σ1, kd, r, τ1, rb, e1, e2, hk, hI1⟩ := lt_out (x := (xs (6 * n + 1)).toInt)  (inR_of _) hI (by omega)
  have hM : cw_Met l v yX11_out cX11_out 2 (some .int) 212 [cR v ((x + 0 : Nat) : Int), .int (rI (xs (6 * n + 1)).toInt)] σ σ1 kd (some (.int (rI r))) := (cw_sim htr 212 52 σ _ σ1 kd r e1).2 hix (inR_of _)
  have hR : rf_Met l vr yX12_out cX12_out 2 (some .int) 720 [.ref (rf_h vr), .int (rI (xs (6 * n + 1)).toInt)] τ τ1 (some (.int (rI rb))) := (rf_sim hD 720 67 τ _ τ1 rb e2).2 (inR_of _)
  refine lv_aload_n hx hb dL_law_314 rfl (lv_at hl 2 rfl) ?_
  refine lw_rd (k := 1) S hw hn (by decide) rfl (lv_at hl 1 rfl) (lv_at hl 0 rfl) dL_law_315 dL_law_316 dL_law_318 dL_law_319 dL_law_320 ?_
  refine lv_aload_n hx hb dL_law_321 rfl (lv_at hl 4 rfl) ?_
  refine lw_wr (rest := []) (n := 3) S.1 (lw_c_out (o := o) (cL := cL) (y := y) hM hti hk hw.2.2.2.1.1) (lw_gi 5 196 rfl rfl) (lw_gi 1 0 rfl rfl) (lw_gi 5 194 rfl rfl) (lw_gi 5 195 rfl rfl) (by decide +kernel) (by decide) (by decide) rfl hl.1 (Nat.le_of_ble_eq_true rfl) dL_law_322 rfl hw (fun H locs cells slots hw => ?_)
  refine lv_istore hx hb dL_law_325 hl (by decide) rfl (fun ls hl => ?_)
  refine lv_aload_n hx hb dL_law_327 rfl (lv_at hl 4 rfl) ?_
  refine lw_rd (k := 1) S hw hn (by decide) rfl (lv_at hl 2 rfl) (lv_at hl 1 rfl) dL_law_328 dL_law_329 dL_law_331 dL_law_332 dL_law_333 ?_
  refine lw_rf (rest := []) (n := 1) (As := [.int (rI (xs (6 * n + 1)).toInt)]) S.1 hR (lw_gi 8 87 rfl rfl) (lw_gi 1 8 rfl rfl) (lw_gi 8 84 rfl rfl) (lw_gi 8 85 rfl rfl) (lw_gi 8 86 rfl rfl) (by decide +kernel) (by decide) (by decide) rfl hl.1 (Nat.le_of_ble_eq_true rfl) dL_law_334 rfl hw (fun H locs hw => ?_)
  refine lv_istore hx hb dL_law_337 hl (by decide) rfl (fun ls hl => ?_)
  refine lv_goto hx hb (tgt := 590) dL_law_339 rfl ?_
  exact kk _ _ _ _ _ _ _ _ hI1 hw (lv_sub hl [2, 3, 4, 5, 6] rfl)
set_option maxHeartbeats 4000000 in
set_option maxRecDepth 100000 in
theorem la_count (S : lw_S v vr cL σs b L xs l p s m args meth c) (hI : lw_I (cw_bd v) x j σ τ) (hj : j ≤ n) (hn : 6 * n + 6 ≤ L) (hw : lw_W v vr o cL s σs σ τ y H locs cells slots) (hl : lv_has ls 7 (lw_lv n b x v vr o))
    (kk : ∀ (σ : CS) (τ : RS) (y : Int64) (H : Heap) (locs : List Loc) (cells slots : Nat) (ls : Array Slot), lw_I (cw_bd v) x (j + 1) σ τ → lw_W v vr o cL s σs σ τ y H locs cells slots → lv_has ls 7 (lw_lv n b x v vr o) → W p l e room_1 s m args below meth c H locs cells slots Q (F0 m 590 ls [])) :
    W p l e room_1 s m args below meth c H locs cells slots Q (F0 m 342 ls []) := by
  have hx := S.1.1.1
  have hb := S.1.1.2.1
  have hL := S.2.2.2.1
  have htr := S.2.2.2.2
  have hD := S.1.2.2.2.1
  have hti := lw_tg hI
  have hix := lw_inx hI hw
  obtain ⟨σ1, kd, r, τ1, rb, e1, e2, hk, hI1⟩ := lt_count (x := (xs (6 * n + 1)).toInt)  (inR_of _) hI (by omega)
  have hM : cw_Met l v yX11_count cX11_count 2 (some .int) 212 [cR v ((x + 0 : Nat) : Int), .int (rI (xs (6 * n + 1)).toInt)] σ σ1 kd (some (.int (rI r))) := (cw_sim htr 212 40 σ _ σ1 kd r e1).2 hix (inR_of _)
  have hR : rf_Met l vr yX12_count cX12_count 5 (some .int) 720 [.ref (rf_h vr), .int (rI (xs (6 * n + 1)).toInt)] τ τ1 (some (.int (rI rb))) := (rf_sim hD 720 68 τ _ τ1 rb e2).2 (inR_of _)
  refine lv_aload_n hx hb dL_law_342 rfl (lv_at hl 2 rfl) ?_
  refine lw_rd (k := 1) S hw hn (by decide) rfl (lv_at hl 1 rfl) (lv_at hl 0 rfl) dL_law_343 dL_law_344 dL_law_346 dL_law_347 dL_law_348 ?_
  refine lv_aload_n hx hb dL_law_349 rfl (lv_at hl 4 rfl) ?_
  refine lw_wr (rest := []) (n := 3) S.1 (lw_c_count (o := o) (cL := cL) (y := y) hM hti hk hw.2.2.2.1.1) (lw_gi 5 203 rfl rfl) (lw_gi 1 0 rfl rfl) (lw_gi 5 201 rfl rfl) (lw_gi 5 202 rfl rfl) (by decide +kernel) (by decide) (by decide) rfl hl.1 (Nat.le_of_ble_eq_true rfl) dL_law_350 rfl hw (fun H locs cells slots hw => ?_)
  refine lv_istore hx hb dL_law_353 hl (by decide) rfl (fun ls hl => ?_)
  refine lv_aload_n hx hb dL_law_355 rfl (lv_at hl 4 rfl) ?_
  refine lw_rd (k := 1) S hw hn (by decide) rfl (lv_at hl 2 rfl) (lv_at hl 1 rfl) dL_law_356 dL_law_357 dL_law_359 dL_law_360 dL_law_361 ?_
  refine lw_rf (rest := []) (n := 1) (As := [.int (rI (xs (6 * n + 1)).toInt)]) S.1 hR (lw_gi 8 91 rfl rfl) (lw_gi 1 8 rfl rfl) (lw_gi 8 88 rfl rfl) (lw_gi 8 89 rfl rfl) (lw_gi 8 90 rfl rfl) (by decide +kernel) (by decide) (by decide) rfl hl.1 (Nat.le_of_ble_eq_true rfl) dL_law_362 rfl hw (fun H locs hw => ?_)
  refine lv_istore hx hb dL_law_365 hl (by decide) rfl (fun ls hl => ?_)
  refine lv_goto hx hb (tgt := 590) dL_law_367 rfl ?_
  exact kk _ _ _ _ _ _ _ _ hI1 hw (lv_sub hl [2, 3, 4, 5, 6] rfl)
set_option maxHeartbeats 4000000 in
set_option maxRecDepth 100000 in
theorem la_name (S : lw_S v vr cL σs b L xs l p s m args meth c) (hI : lw_I (cw_bd v) x j σ τ) (hj : j ≤ n) (hn : 6 * n + 6 ≤ L) (hw : lw_W v vr o cL s σs σ τ y H locs cells slots) (hl : lv_has ls 7 (lw_lv n b x v vr o))
    (kk : ∀ (σ : CS) (τ : RS) (y : Int64) (H : Heap) (locs : List Loc) (cells slots : Nat) (ls : Array Slot), lw_I (cw_bd v) x (j + 1) σ τ → lw_W v vr o cL s σs σ τ y H locs cells slots → lv_has ls 7 (lw_lv n b x v vr o) → W p l e room_1 s m args below meth c H locs cells slots Q (F0 m 590 ls [])) :
    W p l e room_1 s m args below meth c H locs cells slots Q (F0 m 370 ls []) := by
  have hx := S.1.1.1
  have hb := S.1.1.2.1
  have hL := S.2.2.2.1
  have htr := S.2.2.2.2
  have hD := S.1.2.2.2.1
  have hti := lw_tg hI
  have hix := lw_inx hI hw
  obtain ⟨σ1, kd, r, τ1, rb, e1, e2, hk, hI1⟩ := lt_name (x := (xs (6 * n + 1)).toInt) (y := (xs (6 * n + 2)).toInt)  (inR_of _) (inR_of _) hI (by omega)
  have hM : cw_Met l v yX11_name cX11_name 3 (some .int) 212 [cR v ((x + 0 : Nat) : Int), .int (rI (xs (6 * n + 1)).toInt), .int (rI (xs (6 * n + 2)).toInt)] σ σ1 kd (some (.int (rI r))) := (cw_sim htr 212 48 σ _ σ1 kd r e1).2 hix (inR_of _) (inR_of _)
  have hR : rf_Met l vr yX12_name cX12_name 3 (some .int) 720 [.ref (rf_h vr), .int (rI (xs (6 * n + 1)).toInt), .int (rI (xs (6 * n + 2)).toInt)] τ τ1 (some (.int (rI rb))) := (rf_sim hD 720 69 τ _ τ1 rb e2).2 (inR_of _) (inR_of _)
  refine lv_aload_n hx hb dL_law_370 rfl (lv_at hl 2 rfl) ?_
  refine lw_rd (k := 1) S hw hn (by decide) rfl (lv_at hl 1 rfl) (lv_at hl 0 rfl) dL_law_371 dL_law_372 dL_law_374 dL_law_375 dL_law_376 ?_
  refine lw_rd (k := 2) S hw hn (by decide) rfl (lv_at hl 1 rfl) (lv_at hl 0 rfl) dL_law_377 dL_law_378 dL_law_380 dL_law_381 dL_law_382 ?_
  refine lv_aload_n hx hb dL_law_383 rfl (lv_at hl 4 rfl) ?_
  refine lw_wr (rest := []) (n := 4) S.1 (lw_c_name (o := o) (cL := cL) (y := y) hM hti hk hw.2.2.2.1.1) (lw_gi 5 210 rfl rfl) (lw_gi 1 0 rfl rfl) (lw_gi 5 208 rfl rfl) (lw_gi 5 209 rfl rfl) (by decide +kernel) (by decide) (by decide) rfl hl.1 (Nat.le_of_ble_eq_true rfl) dL_law_384 rfl hw (fun H locs cells slots hw => ?_)
  refine lv_istore hx hb dL_law_387 hl (by decide) rfl (fun ls hl => ?_)
  refine lv_aload_n hx hb dL_law_389 rfl (lv_at hl 4 rfl) ?_
  refine lw_rd (k := 1) S hw hn (by decide) rfl (lv_at hl 2 rfl) (lv_at hl 1 rfl) dL_law_390 dL_law_391 dL_law_393 dL_law_394 dL_law_395 ?_
  refine lw_rd (k := 2) S hw hn (by decide) rfl (lv_at hl 2 rfl) (lv_at hl 1 rfl) dL_law_396 dL_law_397 dL_law_399 dL_law_400 dL_law_401 ?_
  refine lw_rf (rest := []) (n := 2) (As := [.int (rI (xs (6 * n + 1)).toInt), .int (rI (xs (6 * n + 2)).toInt)]) S.1 hR (lw_gi 8 95 rfl rfl) (lw_gi 1 8 rfl rfl) (lw_gi 8 92 rfl rfl) (lw_gi 8 93 rfl rfl) (lw_gi 8 94 rfl rfl) (by decide +kernel) (by decide) (by decide) rfl hl.1 (Nat.le_of_ble_eq_true rfl) dL_law_402 rfl hw (fun H locs hw => ?_)
  refine lv_istore hx hb dL_law_405 hl (by decide) rfl (fun ls hl => ?_)
  refine lv_goto hx hb (tgt := 590) dL_law_407 rfl ?_
  exact kk _ _ _ _ _ _ _ _ hI1 hw (lv_sub hl [2, 3, 4, 5, 6] rfl)
set_option maxHeartbeats 4000000 in
set_option maxRecDepth 100000 in
theorem la_sort (S : lw_S v vr cL σs b L xs l p s m args meth c) (hI : lw_I (cw_bd v) x j σ τ) (hj : j ≤ n) (hn : 6 * n + 6 ≤ L) (hw : lw_W v vr o cL s σs σ τ y H locs cells slots) (hl : lv_has ls 7 (lw_lv n b x v vr o))
    (kk : ∀ (σ : CS) (τ : RS) (y : Int64) (H : Heap) (locs : List Loc) (cells slots : Nat) (ls : Array Slot), lw_I (cw_bd v) x (j + 1) σ τ → lw_W v vr o cL s σs σ τ y H locs cells slots → lv_has ls 7 (lw_lv n b x v vr o) → W p l e room_1 s m args below meth c H locs cells slots Q (F0 m 590 ls [])) :
    W p l e room_1 s m args below meth c H locs cells slots Q (F0 m 410 ls []) := by
  have hx := S.1.1.1
  have hb := S.1.1.2.1
  have hL := S.2.2.2.1
  have htr := S.2.2.2.2
  have hD := S.1.2.2.2.1
  have hti := lw_tg hI
  have hix := lw_inx hI hw
  obtain ⟨σ1, kd, r, τ1, rb, e1, e2, hk, hI1⟩ := lt_sort (x := (xs (6 * n + 1)).toInt) (y := (xs (6 * n + 2)).toInt)  (inR_of _) (inR_of _) hI (by omega)
  have hM : cw_Met l v yX11_sort cX11_sort 3 (some .int) 212 [cR v ((x + 0 : Nat) : Int), .int (rI (xs (6 * n + 1)).toInt), .int (rI (xs (6 * n + 2)).toInt)] σ σ1 kd (some (.int (rI r))) := (cw_sim htr 212 59 σ _ σ1 kd r e1).2 hix (inR_of _) (inR_of _)
  have hR : rf_Met l vr yX12_sort cX12_sort 3 (some .int) 720 [.ref (rf_h vr), .int (rI (xs (6 * n + 1)).toInt), .int (rI (xs (6 * n + 2)).toInt)] τ τ1 (some (.int (rI rb))) := (rf_sim hD 720 70 τ _ τ1 rb e2).2 (inR_of _) (inR_of _)
  refine lv_aload_n hx hb dL_law_410 rfl (lv_at hl 2 rfl) ?_
  refine lw_rd (k := 1) S hw hn (by decide) rfl (lv_at hl 1 rfl) (lv_at hl 0 rfl) dL_law_411 dL_law_412 dL_law_414 dL_law_415 dL_law_416 ?_
  refine lw_rd (k := 2) S hw hn (by decide) rfl (lv_at hl 1 rfl) (lv_at hl 0 rfl) dL_law_417 dL_law_418 dL_law_420 dL_law_421 dL_law_422 ?_
  refine lv_aload_n hx hb dL_law_423 rfl (lv_at hl 4 rfl) ?_
  refine lw_wr (rest := []) (n := 4) S.1 (lw_c_sort (o := o) (cL := cL) (y := y) hM hti hk hw.2.2.2.1.1) (lw_gi 5 219 rfl rfl) (lw_gi 1 0 rfl rfl) (lw_gi 5 217 rfl rfl) (lw_gi 5 218 rfl rfl) (by decide +kernel) (by decide) (by decide) rfl hl.1 (Nat.le_of_ble_eq_true rfl) dL_law_424 rfl hw (fun H locs cells slots hw => ?_)
  refine lv_istore hx hb dL_law_427 hl (by decide) rfl (fun ls hl => ?_)
  refine lv_aload_n hx hb dL_law_429 rfl (lv_at hl 4 rfl) ?_
  refine lw_rd (k := 1) S hw hn (by decide) rfl (lv_at hl 2 rfl) (lv_at hl 1 rfl) dL_law_430 dL_law_431 dL_law_433 dL_law_434 dL_law_435 ?_
  refine lw_rd (k := 2) S hw hn (by decide) rfl (lv_at hl 2 rfl) (lv_at hl 1 rfl) dL_law_436 dL_law_437 dL_law_439 dL_law_440 dL_law_441 ?_
  refine lw_rf (rest := []) (n := 2) (As := [.int (rI (xs (6 * n + 1)).toInt), .int (rI (xs (6 * n + 2)).toInt)]) S.1 hR (lw_gi 8 99 rfl rfl) (lw_gi 1 8 rfl rfl) (lw_gi 8 96 rfl rfl) (lw_gi 8 97 rfl rfl) (lw_gi 8 98 rfl rfl) (by decide +kernel) (by decide) (by decide) rfl hl.1 (Nat.le_of_ble_eq_true rfl) dL_law_442 rfl hw (fun H locs hw => ?_)
  refine lv_istore hx hb dL_law_445 hl (by decide) rfl (fun ls hl => ?_)
  refine lv_goto hx hb (tgt := 590) dL_law_447 rfl ?_
  exact kk _ _ _ _ _ _ _ _ hI1 hw (lv_sub hl [2, 3, 4, 5, 6] rfl)
set_option maxHeartbeats 4000000 in
set_option maxRecDepth 100000 in
theorem la_rule (S : lw_S v vr cL σs b L xs l p s m args meth c) (hI : lw_I (cw_bd v) x j σ τ) (hj : j ≤ n) (hn : 6 * n + 6 ≤ L) (hw : lw_W v vr o cL s σs σ τ y H locs cells slots) (hl : lv_has ls 7 (lw_lv n b x v vr o))
    (kk : ∀ (σ : CS) (τ : RS) (y : Int64) (H : Heap) (locs : List Loc) (cells slots : Nat) (ls : Array Slot), lw_I (cw_bd v) x (j + 1) σ τ → lw_W v vr o cL s σs σ τ y H locs cells slots → lv_has ls 7 (lw_lv n b x v vr o) → W p l e room_1 s m args below meth c H locs cells slots Q (F0 m 590 ls [])) :
    W p l e room_1 s m args below meth c H locs cells slots Q (F0 m 450 ls []) := by
  have hx := S.1.1.1
  have hb := S.1.1.2.1
  have hL := S.2.2.2.1
  have htr := S.2.2.2.2
  have hD := S.1.2.2.2.1
  have hti := lw_tg hI
  have hix := lw_inx hI hw
  obtain ⟨σ1, kd, r, τ1, rb, e1, e2, hk, hI1⟩ := lt_rule (x := (xs (6 * n + 1)).toInt) (y := (xs (6 * n + 2)).toInt)  (inR_of _) (inR_of _) hI (by omega)
  have hM : cw_Met l v yX11_rule cX11_rule 3 (some .int) 212 [cR v ((x + 0 : Nat) : Int), .int (rI (xs (6 * n + 1)).toInt), .int (rI (xs (6 * n + 2)).toInt)] σ σ1 kd (some (.int (rI r))) := (cw_sim htr 212 56 σ _ σ1 kd r e1).2 hix (inR_of _) (inR_of _)
  have hR : rf_Met l vr yX12_rule cX12_rule 3 (some .int) 720 [.ref (rf_h vr), .int (rI (xs (6 * n + 1)).toInt), .int (rI (xs (6 * n + 2)).toInt)] τ τ1 (some (.int (rI rb))) := (rf_sim hD 720 71 τ _ τ1 rb e2).2 (inR_of _) (inR_of _)
  refine lv_aload_n hx hb dL_law_450 rfl (lv_at hl 2 rfl) ?_
  refine lw_rd (k := 1) S hw hn (by decide) rfl (lv_at hl 1 rfl) (lv_at hl 0 rfl) dL_law_451 dL_law_452 dL_law_454 dL_law_455 dL_law_456 ?_
  refine lw_rd (k := 2) S hw hn (by decide) rfl (lv_at hl 1 rfl) (lv_at hl 0 rfl) dL_law_457 dL_law_458 dL_law_460 dL_law_461 dL_law_462 ?_
  refine lv_aload_n hx hb dL_law_463 rfl (lv_at hl 4 rfl) ?_
  refine lw_wr (rest := []) (n := 4) S.1 (lw_c_rule (o := o) (cL := cL) (y := y) hM hti hk hw.2.2.2.1.1) (lw_gi 5 226 rfl rfl) (lw_gi 1 0 rfl rfl) (lw_gi 5 224 rfl rfl) (lw_gi 5 225 rfl rfl) (by decide +kernel) (by decide) (by decide) rfl hl.1 (Nat.le_of_ble_eq_true rfl) dL_law_464 rfl hw (fun H locs cells slots hw => ?_)
  refine lv_istore hx hb dL_law_467 hl (by decide) rfl (fun ls hl => ?_)
  refine lv_aload_n hx hb dL_law_469 rfl (lv_at hl 4 rfl) ?_
  refine lw_rd (k := 1) S hw hn (by decide) rfl (lv_at hl 2 rfl) (lv_at hl 1 rfl) dL_law_470 dL_law_471 dL_law_473 dL_law_474 dL_law_475 ?_
  refine lw_rd (k := 2) S hw hn (by decide) rfl (lv_at hl 2 rfl) (lv_at hl 1 rfl) dL_law_476 dL_law_477 dL_law_479 dL_law_480 dL_law_481 ?_
  refine lw_rf (rest := []) (n := 2) (As := [.int (rI (xs (6 * n + 1)).toInt), .int (rI (xs (6 * n + 2)).toInt)]) S.1 hR (lw_gi 8 103 rfl rfl) (lw_gi 1 8 rfl rfl) (lw_gi 8 100 rfl rfl) (lw_gi 8 101 rfl rfl) (lw_gi 8 102 rfl rfl) (by decide +kernel) (by decide) (by decide) rfl hl.1 (Nat.le_of_ble_eq_true rfl) dL_law_482 rfl hw (fun H locs hw => ?_)
  refine lv_istore hx hb dL_law_485 hl (by decide) rfl (fun ls hl => ?_)
  refine lv_goto hx hb (tgt := 590) dL_law_487 rfl ?_
  exact kk _ _ _ _ _ _ _ _ hI1 hw (lv_sub hl [2, 3, 4, 5, 6] rfl)
set_option maxHeartbeats 4000000 in
set_option maxRecDepth 100000 in
theorem la_type (S : lw_S v vr cL σs b L xs l p s m args meth c) (hI : lw_I (cw_bd v) x j σ τ) (hj : j ≤ n) (hn : 6 * n + 6 ≤ L) (hw : lw_W v vr o cL s σs σ τ y H locs cells slots) (hl : lv_has ls 7 (lw_lv n b x v vr o))
    (kk : ∀ (σ : CS) (τ : RS) (y : Int64) (H : Heap) (locs : List Loc) (cells slots : Nat) (ls : Array Slot), lw_I (cw_bd v) x (j + 1) σ τ → lw_W v vr o cL s σs σ τ y H locs cells slots → lv_has ls 7 (lw_lv n b x v vr o) → W p l e room_1 s m args below meth c H locs cells slots Q (F0 m 590 ls [])) :
    W p l e room_1 s m args below meth c H locs cells slots Q (F0 m 490 ls []) := by
  have hx := S.1.1.1
  have hb := S.1.1.2.1
  have hL := S.2.2.2.1
  have htr := S.2.2.2.2
  have hD := S.1.2.2.2.1
  have hti := lw_tg hI
  have hix := lw_inx hI hw
  obtain ⟨σ1, kd, r, τ1, rb, e1, e2, hk, hI1⟩ := lt_type (x := (xs (6 * n + 1)).toInt)  (inR_of _) hI (by omega)
  have hM : cw_Met l v yX11_type cX11_type 2 (some .int) 212 [cR v ((x + 0 : Nat) : Int), .int (rI (xs (6 * n + 1)).toInt)] σ σ1 kd (some (.int (rI r))) := (cw_sim htr 212 63 σ _ σ1 kd r e1).2 hix (inR_of _)
  have hR : rf_Met l vr yX12_type cX12_type 3 (some .int) 720 [.ref (rf_h vr), .int (rI (xs (6 * n + 1)).toInt)] τ τ1 (some (.int (rI rb))) := (rf_sim hD 720 72 τ _ τ1 rb e2).2 (inR_of _)
  refine lv_aload_n hx hb dL_law_490 rfl (lv_at hl 2 rfl) ?_
  refine lw_rd (k := 1) S hw hn (by decide) rfl (lv_at hl 1 rfl) (lv_at hl 0 rfl) dL_law_491 dL_law_492 dL_law_494 dL_law_495 dL_law_496 ?_
  refine lv_aload_n hx hb dL_law_497 rfl (lv_at hl 4 rfl) ?_
  refine lw_wr (rest := []) (n := 3) S.1 (lw_c_type (o := o) (cL := cL) (y := y) hM hti hk hw.2.2.2.1.1) (lw_gi 5 233 rfl rfl) (lw_gi 1 0 rfl rfl) (lw_gi 5 231 rfl rfl) (lw_gi 5 232 rfl rfl) (by decide +kernel) (by decide) (by decide) rfl hl.1 (Nat.le_of_ble_eq_true rfl) dL_law_498 rfl hw (fun H locs cells slots hw => ?_)
  refine lv_istore hx hb dL_law_501 hl (by decide) rfl (fun ls hl => ?_)
  refine lv_aload_n hx hb dL_law_503 rfl (lv_at hl 4 rfl) ?_
  refine lw_rd (k := 1) S hw hn (by decide) rfl (lv_at hl 2 rfl) (lv_at hl 1 rfl) dL_law_504 dL_law_505 dL_law_507 dL_law_508 dL_law_509 ?_
  refine lw_rf (rest := []) (n := 1) (As := [.int (rI (xs (6 * n + 1)).toInt)]) S.1 hR (lw_gi 8 107 rfl rfl) (lw_gi 1 8 rfl rfl) (lw_gi 8 104 rfl rfl) (lw_gi 8 105 rfl rfl) (lw_gi 8 106 rfl rfl) (by decide +kernel) (by decide) (by decide) rfl hl.1 (Nat.le_of_ble_eq_true rfl) dL_law_510 rfl hw (fun H locs hw => ?_)
  refine lv_istore hx hb dL_law_513 hl (by decide) rfl (fun ls hl => ?_)
  refine lv_goto hx hb (tgt := 590) dL_law_515 rfl ?_
  exact kk _ _ _ _ _ _ _ _ hI1 hw (lv_sub hl [2, 3, 4, 5, 6] rfl)
set_option maxHeartbeats 4000000 in
set_option maxRecDepth 100000 in
theorem la_same (S : lw_S v vr cL σs b L xs l p s m args meth c) (hI : lw_I (cw_bd v) x j σ τ) (hj : j ≤ n) (hn : 6 * n + 6 ≤ L) (hw : lw_W v vr o cL s σs σ τ y H locs cells slots) (hl : lv_has ls 7 (lw_lv n b x v vr o))
    (kk : ∀ (σ : CS) (τ : RS) (y : Int64) (H : Heap) (locs : List Loc) (cells slots : Nat) (ls : Array Slot), lw_I (cw_bd v) x (j + 1) σ τ → lw_W v vr o cL s σs σ τ y H locs cells slots → lv_has ls 7 (lw_lv n b x v vr o) → W p l e room_1 s m args below meth c H locs cells slots Q (F0 m 590 ls [])) :
    W p l e room_1 s m args below meth c H locs cells slots Q (F0 m 518 ls []) := by
  have hx := S.1.1.1
  have hb := S.1.1.2.1
  have hL := S.2.2.2.1
  have htr := S.2.2.2.2
  have hD := S.1.2.2.2.1
  have hti := lw_tg hI
  have hix := lw_inx hI hw
  obtain ⟨σ1, kd, r, τ1, rb, e1, e2, hk, hI1⟩ := lt_same (x := (xs (6 * n + 1)).toInt) (y := (xs (6 * n + 2)).toInt)  (inR_of _) (inR_of _) hI (by omega)
  have hM : cw_Met l v yX11_same cX11_same 3 (some .int) 212 [cR v ((x + 0 : Nat) : Int), .int (rI (xs (6 * n + 1)).toInt), .int (rI (xs (6 * n + 2)).toInt)] σ σ1 kd (some (.int (rI r))) := (cw_sim htr 212 58 σ _ σ1 kd r e1).2 hix (inR_of _) (inR_of _)
  have hR : rf_Met l vr yX12_same cX12_same 7 (some .int) 720 [.ref (rf_h vr), .int (rI (xs (6 * n + 1)).toInt), .int (rI (xs (6 * n + 2)).toInt)] τ τ1 (some (.int (rI rb))) := (rf_sim hD 720 73 τ _ τ1 rb e2).2 (inR_of _) (inR_of _)
  refine lv_aload_n hx hb dL_law_518 rfl (lv_at hl 2 rfl) ?_
  refine lw_rd (k := 1) S hw hn (by decide) rfl (lv_at hl 1 rfl) (lv_at hl 0 rfl) dL_law_519 dL_law_520 dL_law_522 dL_law_523 dL_law_524 ?_
  refine lw_rd (k := 2) S hw hn (by decide) rfl (lv_at hl 1 rfl) (lv_at hl 0 rfl) dL_law_525 dL_law_526 dL_law_528 dL_law_529 dL_law_530 ?_
  refine lv_aload_n hx hb dL_law_531 rfl (lv_at hl 4 rfl) ?_
  refine lw_wr (rest := []) (n := 4) S.1 (lw_c_same (o := o) (cL := cL) (y := y) hM hti hk hw.2.2.2.1.1) (lw_gi 6 4 rfl rfl) (lw_gi 1 0 rfl rfl) (lw_gi 6 2 rfl rfl) (lw_gi 6 3 rfl rfl) (by decide +kernel) (by decide) (by decide) rfl hl.1 (Nat.le_of_ble_eq_true rfl) dL_law_532 rfl hw (fun H locs cells slots hw => ?_)
  refine lv_istore hx hb dL_law_535 hl (by decide) rfl (fun ls hl => ?_)
  refine lv_aload_n hx hb dL_law_537 rfl (lv_at hl 4 rfl) ?_
  refine lw_rd (k := 1) S hw hn (by decide) rfl (lv_at hl 2 rfl) (lv_at hl 1 rfl) dL_law_538 dL_law_539 dL_law_541 dL_law_542 dL_law_543 ?_
  refine lw_rd (k := 2) S hw hn (by decide) rfl (lv_at hl 2 rfl) (lv_at hl 1 rfl) dL_law_544 dL_law_545 dL_law_547 dL_law_548 dL_law_549 ?_
  refine lw_rf (rest := []) (n := 2) (As := [.int (rI (xs (6 * n + 1)).toInt), .int (rI (xs (6 * n + 2)).toInt)]) S.1 hR (lw_gi 8 111 rfl rfl) (lw_gi 1 8 rfl rfl) (lw_gi 8 108 rfl rfl) (lw_gi 8 109 rfl rfl) (lw_gi 8 110 rfl rfl) (by decide +kernel) (by decide) (by decide) rfl hl.1 (Nat.le_of_ble_eq_true rfl) dL_law_550 rfl hw (fun H locs hw => ?_)
  refine lv_istore hx hb dL_law_553 hl (by decide) rfl (fun ls hl => ?_)
  refine lv_goto hx hb (tgt := 590) dL_law_555 rfl ?_
  exact kk _ _ _ _ _ _ _ _ hI1 hw (lv_sub hl [2, 3, 4, 5, 6] rfl)
set_option maxHeartbeats 4000000 in
set_option maxRecDepth 100000 in
theorem la_mark (S : lw_S v vr cL σs b L xs l p s m args meth c) (hI : lw_I (cw_bd v) x j σ τ) (hj : j ≤ n) (hn : 6 * n + 6 ≤ L) (hw : lw_W v vr o cL s σs σ τ y H locs cells slots) (hl : lv_has ls 7 (lw_lv n b x v vr o))
    (kk : ∀ (σ : CS) (τ : RS) (y : Int64) (H : Heap) (locs : List Loc) (cells slots : Nat) (ls : Array Slot), lw_I (cw_bd v) x (j + 1) σ τ → lw_W v vr o cL s σs σ τ y H locs cells slots → lv_has ls 7 (lw_lv n b x v vr o) → W p l e room_1 s m args below meth c H locs cells slots Q (F0 m 590 ls [])) :
    W p l e room_1 s m args below meth c H locs cells slots Q (F0 m 558 ls []) := by
  have hx := S.1.1.1
  have hb := S.1.1.2.1
  have hL := S.2.2.2.1
  have htr := S.2.2.2.2
  have hD := S.1.2.2.2.1
  have hti := lw_tg hI
  have hix := lw_inx hI hw
  obtain ⟨σ1, kd, r, τ1, rb, e1, e2, hk, hI1, hcode, hans⟩ := lt_mark  hI (by omega)
  have hM : cw_Met l v yX11_mark cX11_mark 1 (some .int) 212 [cR v ((x + 0 : Nat) : Int)] σ σ1 kd (some (.int (rI r))) := (cw_sim htr 212 47 σ _ σ1 kd r e1).2 hix
  have hR : rf_Met l vr yX12_mark cX12_mark 1 (some .int) 720 [.ref (rf_h vr)] τ τ1 (some (.int (rI rb))) := (rf_sim hD 720 74 τ _ τ1 rb e2).2
  refine lv_aload_n hx hb dL_law_558 rfl (lv_at hl 2 rfl) ?_
  refine lv_aload_n hx hb dL_law_559 rfl (lv_at hl 4 rfl) ?_
  refine lw_wr (rest := []) (n := 2) S.1 (lw_c_mark (o := o) (cL := cL) (y := y) hM hti hk hw.2.2.2.1.1) (lw_gi 6 17 rfl rfl) (lw_gi 1 0 rfl rfl) (lw_gi 6 15 rfl rfl) (lw_gi 6 16 rfl rfl) (by decide +kernel) (by decide) (by decide) rfl hl.1 (Nat.le_of_ble_eq_true rfl) dL_law_560 rfl hw (fun H locs cells slots hw => ?_)
  refine lv_istore hx hb dL_law_563 hl (by decide) rfl (fun ls hl => ?_)
  refine lv_aload_n hx hb dL_law_565 rfl (lv_at hl 4 rfl) ?_
  refine lw_rf (rest := []) (n := 0) (As := []) S.1 hR (lw_gi 8 115 rfl rfl) (lw_gi 1 8 rfl rfl) (lw_gi 8 112 rfl rfl) (lw_gi 8 113 rfl rfl) (lw_gi 8 114 rfl rfl) (by decide +kernel) (by decide) (by decide) rfl hl.1 (Nat.le_of_ble_eq_true rfl) dL_law_566 rfl hw (fun H locs hw => ?_)
  refine lv_istore hx hb dL_law_569 hl (by decide) rfl (fun ls hl => ?_)
  refine lv_goto hx hb (tgt := 590) dL_law_571 rfl ?_
  exact kk _ _ _ _ _ _ _ _ hI1 hw (lv_sub hl [2, 3, 4, 5, 6] rfl)
set_option maxHeartbeats 4000000 in
set_option maxRecDepth 100000 in
theorem la_back (S : lw_S v vr cL σs b L xs l p s m args meth c) (hI : lw_I (cw_bd v) x j σ τ) (hj : j ≤ n) (hn : 6 * n + 6 ≤ L) (hw : lw_W v vr o cL s σs σ τ y H locs cells slots) (hl : lv_has ls 7 (lw_lv n b x v vr o))
    (kk : ∀ (σ : CS) (τ : RS) (y : Int64) (H : Heap) (locs : List Loc) (cells slots : Nat) (ls : Array Slot), lw_I (cw_bd v) x (j + 1) σ τ → lw_W v vr o cL s σs σ τ y H locs cells slots → lv_has ls 7 (lw_lv n b x v vr o) → W p l e room_1 s m args below meth c H locs cells slots Q (F0 m 590 ls [])) :
    W p l e room_1 s m args below meth c H locs cells slots Q (F0 m 574 ls []) := by
  have hx := S.1.1.1
  have hb := S.1.1.2.1
  have hL := S.2.2.2.1
  have htr := S.2.2.2.2
  have hD := S.1.2.2.2.1
  have hti := lw_tg hI
  have hix := lw_inx hI hw
  obtain ⟨σ1, kd, r, τ1, rb, e1, e2, hk, hI1⟩ := lt_back  hI (by omega)
  have hM : cw_Met l v yX11_back cX11_back 1 (some .int) 212 [cR v ((x + 0 : Nat) : Int)] σ σ1 kd (some (.int (rI r))) := (cw_sim htr 212 36 σ _ σ1 kd r e1).2 hix
  have hR : rf_Met l vr yX12_back cX12_back 1 (some .int) 720 [.ref (rf_h vr)] τ τ1 (some (.int (rI rb))) := (rf_sim hD 720 75 τ _ τ1 rb e2).2
  refine lv_aload_n hx hb dL_law_574 rfl (lv_at hl 2 rfl) ?_
  refine lv_aload_n hx hb dL_law_575 rfl (lv_at hl 4 rfl) ?_
  refine lw_wr (rest := []) (n := 2) S.1 (lw_c_back (o := o) (cL := cL) (y := y) hM hti hk hw.2.2.2.1.1) (lw_gi 6 25 rfl rfl) (lw_gi 1 0 rfl rfl) (lw_gi 6 23 rfl rfl) (lw_gi 6 24 rfl rfl) (by decide +kernel) (by decide) (by decide) rfl hl.1 (Nat.le_of_ble_eq_true rfl) dL_law_576 rfl hw (fun H locs cells slots hw => ?_)
  refine lv_istore hx hb dL_law_579 hl (by decide) rfl (fun ls hl => ?_)
  refine lv_aload_n hx hb dL_law_581 rfl (lv_at hl 4 rfl) ?_
  refine lw_rf (rest := []) (n := 0) (As := []) S.1 hR (lw_gi 8 119 rfl rfl) (lw_gi 1 8 rfl rfl) (lw_gi 8 116 rfl rfl) (lw_gi 8 117 rfl rfl) (lw_gi 8 118 rfl rfl) (by decide +kernel) (by decide) (by decide) rfl hl.1 (Nat.le_of_ble_eq_true rfl) dL_law_582 rfl hw (fun H locs hw => ?_)
  refine lv_istore hx hb dL_law_585 hl (by decide) rfl (fun ls hl => ?_)
  refine lv_goto hx hb (tgt := 590) dL_law_587 rfl ?_
  exact kk _ _ _ _ _ _ _ _ hI1 hw (lv_sub hl [2, 3, 4, 5, 6] rfl)
end LWI
