section LWO
theorem lw_9 {P : Nat → Prop} (h0 : P 0) (h1 : P 1) (h2 : P 2) (h3 : P 3) (h4 : P 4) (h5 : P 5) (h6 : P 6) (h7 : P 7) (h8 : P 8) : ∀ i, i < 9 → P i := fun i hi => by
  have : i = 0 ∨ i = 1 ∨ i = 2 ∨ i = 3 ∨ i = 4 ∨ i = 5 ∨ i = 6 ∨ i = 7 ∨ i = 8 := by omega
  rcases this with rfl | rfl | rfl | rfl | rfl | rfl | rfl | rfl | rfl
  · exact h0
  · exact h1
  · exact h2
  · exact h3
  · exact h4
  · exact h5
  · exact h6
  · exact h7
  · exact h8
/-- the reference's Strings, at the start -/
theorem lw_refS {a : Array Value} {s : State} {A : Nat → Prop} {bK bV : Nat → Nat} (hts : ∀ w ∈ lw_tbl, w.before a s = true) (hgv : (Jvm.Cond.and given_1 narrow_1).before a s = true) {aK aV : Nat → Nat} (r1 : vk_S 11 rf_sl rf_sb aK aV (fun q => s.heap.size ≤ q) s s.heap) (eK : ∀ i, i < 11 → bK i = aK i) (eV : ∀ i, i < 11 → bV i = aV i)
    (hA : ∀ (q : Nat) (cell : Cell), A q → s.heap[q]? = some cell → cell.vm.isStatics = false ∧ (∀ k r : Nat, cell.slots[k]? ≠ some (.ref r)) ∧ (cell.slots.size = 8 ∨ cell.slots.size = 0)) : js_K A 11 rf_sl rf_sb bK bV s s.heap := by
  obtain ⟨u1, u2, u3, u4⟩ := lw_us hgv
  have hA0 : ∀ q : Nat, q < s.heap.size → ¬ (fun q => s.heap.size ≤ q) q := fun q hq h => by
    have h : s.heap.size ≤ q := h
    omega
  have hA1 : ∀ (q : Nat) (cell : Cell), s.heap[q]? = some cell → cell.vm.isStatics = true → ¬ A q := fun q cell g1 g2 g3 => by
    rw [(hA q cell g3 g1).1] at g2; cases g2
  refine ⟨?_, ?_, ?_⟩
  · exact va_Z.wide (va_Zof (hts _ (lw_in 2 195 rfl)) (hts _ (lw_in 1 9 rfl)) (va_eqt u4) hA0) hA1
  · exact va_Zq.wide (va_Zqof (hts _ (lw_in 2 203 rfl)) (hts _ (lw_in 1 11 rfl)) u3 hA0) hA1
  · refine r1.wide eK eV (fun q cell k r g1 g2 g3 => (hA q cell g3 g1).2.1 k r g2) (fun i hi q cell g1 g2 g4 g3 => ?_)
    have hl : 1 ≤ rf_sl.getD i 0 ∧ Int32.ofNat (rf_sl.getD i 0) ≠ (8 : Nat).toInt32 := (show ∀ i, i < 11 → 1 ≤ rf_sl.getD i 0 ∧ Int32.ofNat (rf_sl.getD i 0) ≠ (8 : Nat).toInt32 by decide +kernel) i hi
    rcases (hA q cell g3 g1).2.2 with g | g
    · rw [g] at g4; exact hl.2 g4.symm
    · rw [g] at g2; omega
set_option maxHeartbeats 4000000 in
set_option maxRecDepth 100000 in
theorem whole_start {p : Program} {e : Env} {s : State} {m : MethodId} {below : List Frame} {meth : Method} {c : Code} (l : Launch) (htr : l.stackTraces = false) {b L : Nat} {xs : Nat → Int32} (hL : L ≤ 3072) (C0 : lw_At p s m meth c b L xs) : W p l e room_1 s m #[Value.ref b] below meth c s.heap [] 0 0 (lw_Z below #[Value.ref b] s) (entryFrame m ([Value.ref b] : List Value).toArray 7) := by
  obtain ⟨hx, hb, hr, hml, hown, hts, hX, hbl, hlk, hgv⟩ := C0
  obtain ⟨v, hK, h0, ⟨v1, v2, v3⟩, hnt⟩ := lw_env hts hgv
  have hg : ∀ w ∈ lw_gw, w.before #[Value.ref b] s = true := fun w h => hts w (List.mem_filter.mp h).1
  have B : cw_B v RL p s m #[Value.ref b] meth c code 7 ret := ⟨hx, hb, hr, hml, hown, fun w h => hts w (lw_cw_in w h), hlk, hK⟩
  have hl := lv_entry ([.ref b] : List Value) (n := 7) (Nat.le_of_ble_eq_true rfl)
  rw [lg_entry_eq]
  generalize (lg_sl ([.ref b] : List Value) ++ List.replicate (7 - (lg_sl ([.ref b] : List Value)).length) Slot.unset).toArray = ls at hl ⊢
  have hl : lv_has ls 7 [(0, .ref b)] := hl
  have hw := cw_W0 (s := s) h0.1
  have hR1 : v.2.2.1 - c_hp lw_σ ≤ 601024 := by rw [v2]; decide
  have hR2 : v.2.2.2.1 - c_sl lw_σ ≤ 7293034 := by rw [v3]; decide
  have hold : iOld (cw_bd v) lw_σ := by
    refine ⟨fun a ha => ?_, fun a ha => ?_, h0.1.2.2.1, ⟨rfl, rfl, fun i _ => rfl⟩, ⟨rfl, rfl⟩, fun i => ?_, ?_⟩
    · rcases lw_σ_tg ha with rfl | rfl <;> decide
    · rcases lw_σ_tg ha with rfl | rfl
      · exact Or.inl rfl
      · exact Or.inr rfl
    · show cw_pa i < 2147483647
      unfold cw_pa
      omega
    · show cw_pa 0 ≠ cw_pa 1 ∧ cw_pa 0 ≠ cw_pa 2 ∧ cw_pa 1 ≠ cw_pa 2
      decide
  obtain ⟨σ2, kd, r, e1, hk0, hir, G2, R2, t16, t3, t0⟩ := s_new (bd := cw_bd v) (σ := lw_σ) (d := 30) (k := 36 + 410 * 512) (s := 1919039 + 3060 * 512) (z := 100 * 512) (by decide) hold (by show 100 + 24 + 360000 + (36 + 410 * 512) ≤ v.2.2.1; rw [v2]; decide) (by show 0 + 26000 + 3600000 + (1919039 + 3060 * 512) ≤ v.2.2.2.1; rw [v3]; decide) (by show v.2.2.1 < 1000000; rw [v2]; decide) (by decide)
  subst hk0
  have hM : cw_Met l v yX11_init cX11_init 1 none 30 [cR v ((c_hp lw_σ + 0 : Nat) : Int)] (cs_n lw_σ 12 10) σ2 0 none := (cw_sim htr 30 45 _ _ σ2 0 r e1).2 ⟨by decide, by decide⟩
  have hcz : cR v ((c_hp lw_σ + 0 : Nat) : Int) = .ref (cw_mp v 100) := cR_r (by decide)
  refine lw_new (rest := []) (R := room_1) (t := 12) (N := 10) (index := 8) B hw cwt_12 rfl cwd_12 (hts _ (lw_in 1 32 rfl)) (hts _ (lw_in 1 33 rfl)) (hts _ (lw_in 1 1 rfl)) ⟨by rw [v2]; decide, by rw [v3]; decide, by decide⟩ ⟨hR1, hR2⟩ rfl (z := ((c_hp lw_σ + 0 : Nat) : Int)) rfl dL_law_0 (fun H hw => ?_)
  refine lv_dup hx hb dL_law_3 (cR_cat _) ?_
  refine lw_ci (rest := [cR v ((c_hp lw_σ + 0 : Nat) : Int)]) (R := room_1) (n := 0) (As := []) (index := 57) B hM (by decide) rfl (hts _ (lw_in 1 36 rfl)) (hts _ (lw_in 1 1 rfl)) (hts _ (lw_in 1 34 rfl)) (hts _ (lw_in 1 35 rfl)) (by decide +kernel) (by decide) ⟨by decide, by decide, hR1, hR2⟩ rfl hl.1 (by rw [hcz]; exact Nat.le_of_ble_eq_true rfl) dL_law_4 rfl hw (fun H locs cells slots hw => ?_)
  clear hM
  rw [hcz]
  refine lv_astore_n hx hb dL_law_7 rfl hl (by decide) rfl (fun ls hl => ?_)
  have hp := G2.nu 16 3
  have RA := R2.1
  have RB := R2.2.1
  have hb1 : c_hp σ2 + (36 + 410 * 512) ≤ 601124 := by
    have h9 : (cw_bd v).1 = 601124 := v2
    rw [h9] at RA
    omega
  have hb2 : c_sl σ2 + (1919039 + 3060 * 512) ≤ 7293034 := by
    have h9 : (cw_bd v).2.1 = 7293034 := v3
    rw [h9] at RB
    omega
  have hc1 : c_hp σ2 = 100 + cells := hw.2.2.1
  have hc2 : c_sl σ2 = 0 + slots := hw.2.2.2.1
  have hszH : s.heap.size ≤ H.size := by
    have h1 := hw.1.1.1
    have h2 := hw.2.1
    have h3 := hw.2.2.1
    omega
  have htm : ∀ q, cw_tm v σ2 q → q < H.size := fun q h => by
    obtain ⟨a, ha, rfl⟩ := h
    exact (hw.1.2.1 a ha).here
  obtain ⟨cM, iM, hKm⟩ := u_known (n := 83) (ws := rf_bw) (fun w h => hts w (lw_rf_in w h)) rf_bw_in (hts _ (lw_in 6 31 rfl))
  obtain ⟨cI, kI, pI, i1, i2, i3⟩ := Cond.arrayClass_spec (args := #[Value.ref b]) (first := s) (o := none) (s := s) (idx := []) (hts _ (lw_in 1 84 rfl))
  obtain ⟨aK, aV, r1, r2⟩ := lw_S11 hgv
  generalize hvr : ((cM, iM, cI, H.size, fun k => if 200 ≤ k then aV (k - 200) else if 100 ≤ k then aK (k - 100) else H.size + 1 + rc_ord k) : rfE) = vr
  have eM : vr.1 = cM := by rw [← hvr]
  have eS : vr.2.1 = iM := by rw [← hvr]
  have eI : vr.2.2.1 = cI := by rw [← hvr]
  have eH : rf_h vr = H.size := by rw [← hvr]
  have eK : ∀ i, i < 11 → rf_aK vr i = aK i := fun i hi => by
    rw [← hvr]
    show (if 200 ≤ 100 + i then aV (100 + i - 200) else if 100 ≤ 100 + i then aK (100 + i - 100) else H.size + 1 + rc_ord (100 + i)) = aK i
    rw [if_neg (by omega), if_pos (by omega)]
    congr 1
    omega
  have eV : ∀ i, i < 11 → rf_aV vr i = aV i := fun i hi => by
    rw [← hvr]
    show (if 200 ≤ 200 + i then aV (200 + i - 200) else if 100 ≤ 200 + i then aK (200 + i - 100) else H.size + 1 + rc_ord (200 + i)) = aV i
    rw [if_pos (by omega)]
    congr 1
    omega
  have hAd : ∀ k, k = 0 ∨ rf_len k ≠ 0 → rf_ad vr k = (H.size + 1) + rc_ord k := fun k hk => by
    have h83 : k < 83 := by
      rcases hk with rfl | hk
      · decide
      · exact rf_len83 hk
    rw [← hvr]
    show (if 200 ≤ k then aV (k - 200) else if 100 ≤ k then aK (k - 100) else H.size + 1 + rc_ord k) = _
    rw [if_neg (by omega), if_neg (by omega)]
  have hh : rf_h vr < H.size + 1 := by rw [eH]; omega
  have hD := rf_D_of hAd hh
  have haK : ∀ i, i < 11 → aK i < s.heap.size := fun i hi => by
    obtain ⟨⟨c1, a1, -⟩, -⟩ := r1.1 i hi
    exact (Array.getElem?_eq_some_iff.mp a1).1
  have hlow : ∀ i, i < 11 → rf_aK vr i < H.size + 1 ∧ rf_aK vr i ≠ rf_h vr := fun i hi => by
    have := haK i hi
    rw [eK i hi, eH]
    omega
  have hF : ∀ q, rf_F vr q → H.size ≤ q := fun q h => by
    rcases h with rfl | ⟨k, hk, rfl⟩
    · rw [eH]; exact Nat.le_refl _
    · rw [hAd k (Or.inr hk)]; omega
  have hJ := lw_refS (A := fun q => s.heap.size ≤ q ∨ cw_tm v lw_σ q) hts hgv r1 eK eV (fun q cell hA hc => by
    rcases hA with h | h
    · exact absurd (Array.getElem?_eq_some_iff.mp hc).1 (by omega)
    · obtain ⟨g1, g2, g3, -⟩ := hnt q cell h hc
      exact ⟨g1, g2, g3⟩)
  have hKm' : u_Kn s RX12 TX12 83 vr.1 vr.2.1 := by rw [eM, eS]; exact hKm
  have hvT : vk_R RX12 rf_ldT "type" (rf_aK vr 9) s := by rw [eK 9 (by decide)]; exact vk_R.of (hts _ (lw_in 6 53 rfl)) (r2 9 (by decide))
  have hvK : vk_R RX12 rf_ldK "kind" (rf_aK vr 10) s := by rw [eK 10 (by decide)]; exact vk_R.of (hts _ (lw_in 6 60 rfl)) (r2 10 (by decide))
  have hv9 : ∀ i, i < 9 → vk_R RX12 (rc_sx i).1 (rc_sx i).2 (rf_aK vr i) s := fun i hi => by
    rw [eK i (by omega)]
    exact (lw_9 (P := fun i => vk_R RX12 (rc_sx i).1 (rc_sx i).2 (aK i) s) (vk_R.of (hts _ (lw_in 6 38 rfl)) (r2 0 (by decide))) (vk_R.of (hts _ (lw_in 6 39 rfl)) (r2 1 (by decide))) (vk_R.of (hts _ (lw_in 6 40 rfl)) (r2 2 (by decide))) (vk_R.of (hts _ (lw_in 6 41 rfl)) (r2 3 (by decide))) (vk_R.of (hts _ (lw_in 6 42 rfl)) (r2 4 (by decide))) (vk_R.of (hts _ (lw_in 6 43 rfl)) (r2 5 (by decide))) (vk_R.of (hts _ (lw_in 6 44 rfl)) (r2 6 (by decide))) (vk_R.of (hts _ (lw_in 6 45 rfl)) (r2 7 (by decide))) (vk_R.of (hts _ (lw_in 6 46 rfl)) (r2 8 (by decide)))) i hi
  obtain ⟨τ, rr, e7, hHO, t63, t29, t3r⟩ := q_init (d := 5) (by decide)
  have hMr := lw_rM (rf_init (l := l) (v := vr) (sz := H.size + 1) (d := 5) hAd hh hlow e7)
  refine W.newcK hx hb hown (hts _ (lw_in 6 30 rfl)) (hts _ (lw_in 6 31 rfl)) (hts _ (lw_in 1 8 rfl)) rfl dL_law_8 (by show cells + 1 ≤ 601024; omega) (by show slots + 83 ≤ 7293034; omega) hKm.2.1 rfl (fun H1 kC hkC f1 f2 f3 => ?_)
  have hw1 := cw_gr_W (k := 1) (n := 83) (L := []) hw ⟨by omega, by omega⟩ f2 (fun q hq _ => f3 q hq) (fun z hz => by cases hz)
  rw [List.append_nil] at hw1
  have hob := u_born (tyX12) (fun w h => hts w (lw_rf_in w h)) rf_bw_in hKm hkC f1 tyX12_ok
  refine lv_dup hx hb dL_law_11 rfl ?_
  have hBk := lw_backV (R := room_1) (p := p) (e := e) (below := below) (s := s) (sargs := #[Value.ref b]) (len := 3) (W9 := 8) (maxL := 1) hMr lw_rcb (fun a' U mk hn hb => by
    obtain ⟨methY, cY, hmY, hcY, -, hlY, -⟩ := Cond.code_spec hn (hb _ List.mem_cons_self)
    exact ⟨methY, cY, hmY, hcY, hlY⟩) (by decide) (by decide) (fun w hw a' U hW => by
      have h : w ∈ lw_gw := by
        rcases List.mem_cons.mp hw with rfl | h
        · exact (lw_gi 6 34 rfl rfl)
        · exact lw_rfg w h
      exact word_at hW (good_of_word (lw_gw_ok h)) (hg w h)) (fun a' U hW => word_at hW (good_of_word rfl) (hts _ (lw_in 1 8 rfl)))
  intro T hT X
  have hH1 : T.heap = H1 := hT
  obtain ⟨w, vm₁, B1, hW₁, X', ⟨rfl, k9, n9, L9, ⟨rfl, rfl, gM, gz, gfr, gT, gL⟩, h7, h8, h9⟩, st1⟩ := callI X hx (own := RL) (index := 60) (bytes := cX12_init) (maxL := 1) hown rfl (hts _ (lw_in 6 32 rfl)) (hts _ (lw_in 6 33 rfl)) (hts _ (lw_in 6 34 rfl)) (by decide +kernel) hBk
    (g := F0 m 12 ls [.ref H.size, .ref H.size]) rfl (hl.1.trans hml.symm) (a := H.size) (argsL := []) (rest := [.ref H.size]) (cw_par (n := 0) (by decide +kernel) rfl) rfl (lv_room (Nat.le_of_ble_eq_true rfl)) (by rw [hb]; exact dL_law_12)
    (fun vm₁ hW₁ => ⟨by show cells + 1 + 34 ≤ 601024; omega, by show slots + 83 + 1918955 ≤ 7293034; omega, by show _ = [Value.ref (rf_h vr)].toArray; rw [eH], by show T.heap.size = _; rw [hH1]; exact f2, by show t_OB (rf_h vr) vr.1 83 vr.2.1 T.heap rc_V0; rw [hH1, eH, eM, eS]; exact hob, u_Kn_moved (U := T.setVm vm₁) hW₁.alike hKm', by rw [eI]; exact arrOfT_moved (E := T.setVm vm₁) hW₁.alike (lw_arT i2 i3), by rw [eI]; show vm₁.findClass _ = _; rw [hW₁.alike.findClass]; exact i1, ⟨fun i hi => (hv9 i hi).warm (U := T.setVm vm₁) hW₁, hvT.warm (U := T.setVm vm₁) hW₁, hvK.warm (U := T.setVm vm₁) hW₁⟩, va_AO.moved (U := T.setVm vm₁) hW₁.alike (va_AO.of (hts _ (lw_in 6 37 rfl))), by
      show js_K (rf_F vr) 11 rf_sl rf_sb (rf_aK vr) (rf_aV vr) (T.setVm vm₁) T.heap
      rw [hH1]
      exact js_K.moved (U := T.setVm vm₁) hW₁.alike (js_K.narrow (hJ.kept (H1 := H1) (fun q hq hA => (f3 q (by omega)).trans (hw.2.2.2.2.1 q hq (fun h => hA (Or.inr h))))) (fun q hq => Or.inl (Nat.le_trans hszH (hF q hq))))⟩)
  obtain ⟨U1, L1, c1, s1⟩ := B1
  dsimp only [Pt.U, Pt.locs, Pt.cells, Pt.slots] at gM gz gfr gT gL h7 h8 h9 X' st1 ⊢
  subst h7 h8 h9
  have hTT : (T.setVm vm₁).heap = H1 := hH1
  rw [hTT] at gfr
  have gT' : va_T (.object RJ0) (rf_ad vr 0) 9 (fun i => .ref (rf_aK vr i)) (rf_F vr) s U1.heap := va_T.moved (u := U1) (U := s) X'.warmed.alike.symm (gT U1 rfl)
  have hw2 := cw_gr_W (k := 34) (n := rc_SL) (L := L9) hw1 ⟨by show c_hp σ2 + 1 + 34 ≤ _; omega, by show c_sl σ2 + 83 + 1918955 ≤ _; omega⟩ (H' := U1.heap) (by omega) (fun q hq ht => gfr q (by omega) (fun he => by
      rw [eH] at he
      rcases ht with ht | ht
      · have := htm q ht; omega
      · omega)) (fun z hz => by
      rcases gL z hz with h | h
      · rw [h, eH]; exact hszH
      · exact Nat.le_trans (Nat.le_trans hszH (Nat.le_succ _)) h)
  suffices hK9 : W p l e room_1 s m #[Value.ref b] below meth c U1.heap (locs ++ L9) (cells + 1 + 34) (slots + 83 + rc_SL) (lw_Z below #[Value.ref b] s) (F0 m 15 ls [.ref H.size]) by
    obtain ⟨t2, a1, b1⟩ := hK9 U1 rfl X'
    exact ⟨t2, st1 t2 a1, b1⟩
  refine lv_astore_n hx hb dL_law_15 rfl hl (by decide) rfl (fun ls hl => ?_)
  refine lv_iconst (v := 1) hx hb dL_law_16 (by decide) ?_
  refine W.newaK (N := 1) hx hb (atype := .long) (hts _ (lw_in 8 120 rfl)) rfl dL_law_17 rfl (by decide) (by decide) (by decide) (by show cells + 1 + 34 + 1 ≤ 601024; omega) (by show slots + 83 + 1918955 + 1 ≤ 7293034; omega) rfl (fun H3 cL g1 g2 g3 hA => ?_)
  have hw3 := cw_gr_W (k := 1) (n := 1) (L := []) hw2 ⟨by show c_hp σ2 + 1 + 34 + 1 ≤ _; omega, by show c_sl σ2 + 83 + 1918955 + 1 ≤ _; omega⟩ g2 (fun q hq _ => g3 q hq) (fun z hz => by cases hz)
  rw [List.append_nil] at hw3
  have hU1 : H.size ≤ U1.heap.size := by omega
  refine lv_astore_n hx hb dL_law_19 rfl hl (by decide) rfl (fun ls hl => ?_)
  refine lv_iconst (v := rI ((6 * 0 : Nat) : Int)) hx hb dL_law_20 (by decide) ?_
  refine lv_istore hx hb dL_law_21 hl (by decide) rfl (fun ls hl => ?_)
  have S : lw_S v vr cL lw_σ b L xs l p s m #[Value.ref b] meth c := by
    refine ⟨⟨⟨hx, hb, hr, hml, hown, hg, hlk⟩, hK, ⟨hKm', by rw [eI]; exact lw_arT i2 i3, hJ, hvT, hvK⟩, hD, hA, hR1, hR2⟩, hX, ⟨hbl, fun h => ?_⟩, hL, htr⟩
    obtain ⟨scr, x1, x2, -⟩ := hX
    exact (hnt b scr h x1).2.2.2 x2
  have hT0 : rf_ad vr 0 = H.size + 1 + rc_ord 0 := hAd 0 (Or.inl rfl)
  have hT1 := gT'.here
  have hW : lw_W v vr U1.heap.size cL s lw_σ (lw_gr (lw_gr (lw_gr σ2 1 83) 34 rc_SL) 1 1) τ 0 H3 (locs ++ L9) (cells + 1 + 34 + 1) (slots + 83 + rc_SL + 1) := by
    refine ⟨hw3, gM.kept (fun q hq => g3 q (gM.here hq)), g1, ⟨fun h => ?_, Nat.le_trans hszH hU1, fun h => ?_⟩, fun q hq => ⟨fun h => ?_, Nat.le_trans hszH (hF q hq)⟩, gT'.same1 (g3 _ hT1), fun h => ?_, by omega⟩
    · have := htm _ h; omega
    · have := gM.here h; omega
    · have := htm _ h; have := hF q hq; omega
    · have := htm _ h; omega
  have hI : lw_I (cw_bd v) 100 0 (lw_gr (lw_gr (lw_gr σ2 1 83) 34 rc_SL) 1 1) τ := by
    refine ⟨gg_gr (gg_gr (gg_gr G2 0 83) 33 rc_SL) 0 1, ?_, hHO, ?_, ?_, ?_⟩
    · have ht : (c_pv (lw_gr (lw_gr (lw_gr σ2 1 83) 34 rc_SL) 1 1) (100 + 0) 6).toNat = 0 := by
        show (c_pv σ2 (c_hp lw_σ + 0) 6).toNat = 0
        rw [t0]
        rfl
      rw [ht]
      exact rr_gr (rr_gr (rr_gr (R2.le (by decide) (by decide) (by decide) (by decide))))
    · exact t16.trans t63.symm
    · exact t3.trans t29.symm
    · exact t0.trans t3r.symm
  exact lw_loop S h0 512 0 0 _ _ _ _ _ _ _ _ (by omega) (by omega) (Nat.le_refl _) hI hW (lv_sub hl [0, 4, 3, 2, 1] (by unfold lw_lv; rw [eH]; rfl))
end LWO
