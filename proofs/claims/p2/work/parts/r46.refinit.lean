def rc_SL : Nat := 1918955
def rc_V0 : Nat → Value := fun k => defaultValue (tyX12 k)
def rc_VE (v : rfE) : Nat → Value := (updV (updV (updV (updV (updV (updV (updV (updV (updV (updV (updV (updV (updV (updV (updV (updV (updV (updV (updV (updV (updV (updV (updV (updV (updV (updV (updV (updV (updV (updV (updV (updV (updV (updV (updV (updV (updV rc_V0 0 (.ref (rf_ad v 0))) 2 (.ref (rf_ad v 2))) 4 (.ref (rf_ad v 4))) 13 (.int (rI (-1)))) 16 (.ref (rf_ad v 16))) 17 (.ref (rf_ad v 17))) 18 (.ref (rf_ad v 18))) 19 (.ref (rf_ad v 19))) 21 (.ref (rf_ad v 21))) 22 (.ref (rf_ad v 22))) 23 (.ref (rf_ad v 23))) 24 (.ref (rf_ad v 24))) 25 (.ref (rf_ad v 25))) 26 (.ref (rf_ad v 26))) 28 (.ref (rf_ad v 28))) 30 (.ref (rf_ad v 30))) 31 (.ref (rf_ad v 31))) 32 (.ref (rf_ad v 32))) 33 (.ref (rf_ad v 33))) 34 (.ref (rf_ad v 34))) 35 (.ref (rf_ad v 35))) 36 (.ref (rf_ad v 36))) 37 (.ref (rf_ad v 37))) 38 (.ref (rf_ad v 38))) 40 (.ref (rf_ad v 40))) 41 (.ref (rf_ad v 41))) 42 (.ref (rf_ad v 42))) 44 (.ref (rf_ad v 44))) 45 (.ref (rf_ad v 45))) 46 (.ref (rf_ad v 46))) 47 (.ref (rf_ad v 47))) 48 (.int (rI 1))) 49 (.ref (rf_ad v 49))) 50 (.ref (rf_ad v 50))) 58 (.ref (rf_ad v 58))) 63 (.int (rI 5000))) 74 (.ref (rf_ad v 74)))
/-- how the reference begins, ahead of its table -/
def rf_s0 : RS := (fun k => if k = 13 then -1 else if k = 48 then 1 else if k = 63 then 5000 else 0, fun _ _ => 0)
theorem rc_VE_ok (v : rfE) : ∀ k, k < 83 → rc_VE v k = rf_fv v rf_s0 k := by
  intro k hk
  match k, hk with
  | 0, _ => rfl
  | 1, _ => rfl
  | 2, _ => rfl
  | 3, _ => rfl
  | 4, _ => rfl
  | 5, _ => rfl
  | 6, _ => rfl
  | 7, _ => rfl
  | 8, _ => rfl
  | 9, _ => rfl
  | 10, _ => rfl
  | 11, _ => rfl
  | 12, _ => rfl
  | 13, _ => rfl
  | 14, _ => rfl
  | 15, _ => rfl
  | 16, _ => rfl
  | 17, _ => rfl
  | 18, _ => rfl
  | 19, _ => rfl
  | 20, _ => rfl
  | 21, _ => rfl
  | 22, _ => rfl
  | 23, _ => rfl
  | 24, _ => rfl
  | 25, _ => rfl
  | 26, _ => rfl
  | 27, _ => rfl
  | 28, _ => rfl
  | 29, _ => rfl
  | 30, _ => rfl
  | 31, _ => rfl
  | 32, _ => rfl
  | 33, _ => rfl
  | 34, _ => rfl
  | 35, _ => rfl
  | 36, _ => rfl
  | 37, _ => rfl
  | 38, _ => rfl
  | 39, _ => rfl
  | 40, _ => rfl
  | 41, _ => rfl
  | 42, _ => rfl
  | 43, _ => rfl
  | 44, _ => rfl
  | 45, _ => rfl
  | 46, _ => rfl
  | 47, _ => rfl
  | 48, _ => rfl
  | 49, _ => rfl
  | 50, _ => rfl
  | 51, _ => rfl
  | 52, _ => rfl
  | 53, _ => rfl
  | 54, _ => rfl
  | 55, _ => rfl
  | 56, _ => rfl
  | 57, _ => rfl
  | 58, _ => rfl
  | 59, _ => rfl
  | 60, _ => rfl
  | 61, _ => rfl
  | 62, _ => rfl
  | 63, _ => rfl
  | 64, _ => rfl
  | 65, _ => rfl
  | 66, _ => rfl
  | 67, _ => rfl
  | 68, _ => rfl
  | 69, _ => rfl
  | 70, _ => rfl
  | 71, _ => rfl
  | 72, _ => rfl
  | 73, _ => rfl
  | 74, _ => rfl
  | 75, _ => rfl
  | 76, _ => rfl
  | 77, _ => rfl
  | 78, _ => rfl
  | 79, _ => rfl
  | 80, _ => rfl
  | 81, _ => rfl
  | 82, _ => rfl
  | k + 83, h => exact absurd h (by omega)
def rc_sx (i : Nat) : Nat × String := match i with
  | 0 => (9, "sort")
  | 1 => (11, "axiom")
  | 2 => (13, "rule")
  | 3 => (15, "check")
  | 4 => (17, "norm")
  | 5 => (19, "same")
  | 6 => (21, "head")
  | 7 => (23, "let")
  | 8 => (25, "in")
  | _ => (0, "")
/-- the strings' words at a state: the nine words and the two names of sorts -/
def rc_Sr (v : rfE) (U : State) : Prop := (∀ i, i < 9 → vk_R RX12 (rc_sx i).1 (rc_sx i).2 (rf_aK v i) U) ∧ vk_R RX12 rf_ldT "type" (rf_aK v 9) U ∧ vk_R RX12 rf_ldK "kind" (rf_aK v 10) U
/-- where the constructor begins: the object is made, nothing in it; the arrays will lie behind the heap's end -/
def rc_P (v : rfE) (sz : Nat) : Array Value → State → Prop := va_Pc [.ref (rf_h v)] (fun U => U.heap.size = sz ∧ t_OB (rf_h v) v.1 83 v.2.1 U.heap rc_V0 ∧ u_Kn U RX12 TX12 83 v.1 v.2.1 ∧ ArrOfT U v.2.2.1 .int ∧ U.vm.findClass ("[" ++ FieldType.int.toString) = some v.2.2.1 ∧ rc_Sr v U ∧ va_AO RJ0 U ∧ js_K (rf_F v) 11 rf_sl rf_sb (rf_aK v) (rf_aV v) U U.heap)
def rc_Q (v : rfE) (sz : Nat) (σ : RS) : Array Value → State → Outcome → State → Prop := fun _ st o t => o = .returned none ∧ rf_M v σ t.heap ∧ t.heap.size = sz + 34 ∧ (∀ q : Nat, q < sz → q ≠ rf_h v → t.heap[q]? = st.heap[q]?) ∧ va_T (.object RJ0) (rf_ad v 0) 9 (fun i => .ref (rf_aK v i)) (rf_F v) t t.heap
def rc_rm (d : Nat) : Room := { frames := d + 1, cells := 34, slots := rc_SL, locals := 60 * (d + 1) }
def rc_free (v : rfE) (sz : Nat) : Addr → Prop := fun q => q = rf_h v ∨ sz ≤ q
theorem rf_D_of {v : rfE} {sz : Nat} (hAd : ∀ k, k = 0 ∨ rf_len k ≠ 0 → rf_ad v k = sz + rc_ord k) (hh : rf_h v < sz) : rf_D v := by
  refine ⟨fun k hk q => ?_, fun j k hj hk q => ?_⟩
  · rw [hAd k (Or.inr hk)] at q; omega
  · rw [hAd j (Or.inr hj), hAd k (Or.inr hk)] at q
    exact rc_ord_inj (rf_len83 hj) (rf_len83 hk) hj hk (by omega)
theorem rf_ad0 {v : rfE} {sz : Nat} (hAd : ∀ k, k = 0 ∨ rf_len k ≠ 0 → rf_ad v k = sz + rc_ord k) (hh : rf_h v < sz) : ¬ rf_F v (rf_ad v 0) := by
  rintro (q | ⟨k, hk, q⟩)
  · rw [hAd 0 (Or.inl rfl)] at q; omega
  · rw [hAd 0 (Or.inl rfl), hAd k (Or.inr hk)] at q
    have hj0 : rc_ord k = rc_ord 0 := by omega
    have := rc_ord_b k (rf_len83 hk) 0 (by decide)
    have h0 : rf_isA 0 = true := rfl
    have h1 : rf_isA k = true := by simp [rf_isA, hk]
    simp [h0, h1, hj0] at this
    rw [this] at hk
    exact hk rfl
theorem rc_T {v : rfE} {u U : State} {H : Heap} {cS : ClassId} {kA : Class} {comp : ClassId} (h1 : u.vm.classes[cS]? = some kA) (h2 : kA.kind = .array comp (.object RJ0)) (hA : u.vm.Alike U.vm) (hc : H[rf_ad v 0]? = some (arrV cS 9 (rc_wv v 9))) (hn : ¬ rf_F v (rf_ad v 0)) : va_T (.object RJ0) (rf_ad v 0) 9 (fun i => .ref (rf_aK v i)) (rf_F v) U H := by
  have h3 : u.isArrayOf (arrV cS 9 (rc_wv v 9)) (.object RJ0) := by
    unfold State.isArrayOf
    exact ⟨fun q h => (by cases h), kA, h1, comp, h2⟩
  refine ⟨arrV cS 9 (rc_wv v 9), hc, State.isArrayOf_alike hA h3, (fun h => by cases h), ?_, ?_, fun j hj => ?_, hn⟩
  · rw [arrV_size]; exact Nat.le_refl 9
  · rw [arrV_size]
  · rw [arrV_read _ _ hj]
    simp [rc_wv, hj]
set_option maxHeartbeats 8000000 in
set_option maxRecDepth 100000 in
/-- THE REFERENCE'S CONSTRUCTOR -/
theorem rf_init {l : Launch} {v : rfE} {sz d : Nat} {σ : RS} {r : Int} (hAd : ∀ k, k = 0 ∨ rf_len k ≠ 0 → rf_ad v k = sz + rc_ord k) (hh : rf_h v < sz) (hlow : ∀ i, i < 11 → rf_aK v i < sz ∧ rf_aK v i ≠ rf_h v) (h7 : RF d 5 rf_s0 [7] = some (σ, r)) :
    Met l yX12_init (Cond.code yX12_init cX12_init 1 none :: rf_bw) (rc_rm d) (rc_P v sz) (rc_Q v sz σ) 34 rc_SL (rc_free v sz) := by
  have hDD := rf_D_of hAd hh
  refine Met.ofW (cc := cX12_init) (maxL := 1) (ret := none) (by decide +kernel) rfl ?_
  intro p e s m args below meth c s₁ BB hml hv
  obtain ⟨rfl, rfl, hO, hKn, hAI, hfA, hSr, hAO, hJ⟩ := hv
  have hx := BB.exec
  have hb := BB.bytes
  have hts0 := atoms_spec (ws := Cond.code yX12_init cX12_init 1 none :: rf_bw) BB.pre
  have hts : ∀ w ∈ rf_bw, w.before #[Value.ref (rf_h v)] s = true := fun w h => hts0 w (List.mem_cons_of_mem _ h)
  have hown : s.vm.findClass RX12 = some m.cls := findClass_of_methodNamed BB.named
  have B : rc_B v p s m #[Value.ref (rf_h v)] meth c := ⟨hx, hb, BB.returns, hml, hown, hts, BB.notSynchronized, (name_of_methodNamed BB.named BB.method).1, hKn, hAI, hfA, hts _ rf_aci, hAd, hh⟩
  have hSr0 := hSr
  obtain ⟨hSr, hSt, hSk⟩ := hSr
  have hl := lv_entry ([.ref (rf_h v)]) (n := 1) (Nat.le_of_ble_eq_true rfl)
  rw [lg_entry_eq]
  generalize (lg_sl ([.ref (rf_h v)]) ++ List.replicate (1 - (lg_sl ([.ref (rf_h v)])).length) Slot.unset).toArray = ls at hl ⊢
  have hw : rc_W v s 0 0 0 rc_V0 s.heap [] := ⟨hO, rfl, fun k hk h => absurd h (by omega), fun h => absurd h (by omega), fun _ _ _ => rfl, fun q h => by cases h⟩
  refine lv_aload_n hx hb dX12_init_0 rfl (lv_at hl 0 rfl) ?_
  refine W.objInit hx hb hown (hts _ rf_oi1) (hts _ rf_oi2) (hts _ rf_oi3) rfl (hl.1.trans hml.symm) rfl dX12_init_1 (by show 1 ≤ d + 1; omega) (by show _ + 12 ≤ 60 * (d + 1); simp [JFrame.monitorRoom]; omega) ?_
  refine lv_aload_n hx hb dX12_init_4 rfl (lv_at hl 0 rfl) ?_
  refine lv_bipush (v := rI 9) hx hb dX12_init_5 (by decide +kernel) ?_
  refine rc_anew B hw (hts _ rf_cl7) (va_AO.use hAO) (by show 0 + 1 ≤ 34; omega) (by show 0 + 9 ≤ rc_SL; decide) dX12_init_7 (fun H cS kA comp e1 e2 e3 e4 hw => ?_)
  refine lv_dup hx hb dX12_init_10 rfl ?_
  refine lv_iconst (v := rI 0) hx hb dX12_init_11 rfl ?_
  refine va_ldcS hx hb hown (hSr 0 (by decide)) dX12_init_12 ?_
  refine rc_aast B hJ hlow e2 e3 e4 hw (by decide) dX12_init_14 (fun H locs hw => ?_)
  refine lv_dup hx hb dX12_init_15 rfl ?_
  refine lv_iconst (v := rI 1) hx hb dX12_init_16 rfl ?_
  refine va_ldcS hx hb hown (hSr 1 (by decide)) dX12_init_17 ?_
  refine rc_aast B hJ hlow e2 e3 e4 hw (by decide) dX12_init_19 (fun H locs hw => ?_)
  refine lv_dup hx hb dX12_init_20 rfl ?_
  refine lv_iconst (v := rI 2) hx hb dX12_init_21 rfl ?_
  refine va_ldcS hx hb hown (hSr 2 (by decide)) dX12_init_22 ?_
  refine rc_aast B hJ hlow e2 e3 e4 hw (by decide) dX12_init_24 (fun H locs hw => ?_)
  refine lv_dup hx hb dX12_init_25 rfl ?_
  refine lv_iconst (v := rI 3) hx hb dX12_init_26 rfl ?_
  refine va_ldcS hx hb hown (hSr 3 (by decide)) dX12_init_27 ?_
  refine rc_aast B hJ hlow e2 e3 e4 hw (by decide) dX12_init_29 (fun H locs hw => ?_)
  refine lv_dup hx hb dX12_init_30 rfl ?_
  refine lv_iconst (v := rI 4) hx hb dX12_init_31 rfl ?_
  refine va_ldcS hx hb hown (hSr 4 (by decide)) dX12_init_32 ?_
  refine rc_aast B hJ hlow e2 e3 e4 hw (by decide) dX12_init_34 (fun H locs hw => ?_)
  refine lv_dup hx hb dX12_init_35 rfl ?_
  refine lv_iconst (v := rI 5) hx hb dX12_init_36 rfl ?_
  refine va_ldcS hx hb hown (hSr 5 (by decide)) dX12_init_37 ?_
  refine rc_aast B hJ hlow e2 e3 e4 hw (by decide) dX12_init_39 (fun H locs hw => ?_)
  refine lv_dup hx hb dX12_init_40 rfl ?_
  refine lv_bipush (v := rI 6) hx hb dX12_init_41 (by decide +kernel) ?_
  refine va_ldcS hx hb hown (hSr 6 (by decide)) dX12_init_43 ?_
  refine rc_aast B hJ hlow e2 e3 e4 hw (by decide) dX12_init_45 (fun H locs hw => ?_)
  refine lv_dup hx hb dX12_init_46 rfl ?_
  refine lv_bipush (v := rI 7) hx hb dX12_init_47 (by decide +kernel) ?_
  refine va_ldcS hx hb hown (hSr 7 (by decide)) dX12_init_49 ?_
  refine rc_aast B hJ hlow e2 e3 e4 hw (by decide) dX12_init_51 (fun H locs hw => ?_)
  refine lv_dup hx hb dX12_init_52 rfl ?_
  refine lv_bipush (v := rI 8) hx hb dX12_init_53 (by decide +kernel) ?_
  refine va_ldcS hx hb hown (hSr 8 (by decide)) dX12_init_55 ?_
  refine rc_aast B hJ hlow e2 e3 e4 hw (by decide) dX12_init_57 (fun H locs hw => ?_)
  refine rc_put B hw 0 (by decide) rfl rfl lk_27 rfl rfl dX12_init_58 (fun H locs hw => ?_)
  refine lv_aload_n hx hb dX12_init_61 rfl (lv_at hl 0 rfl) ?_
  refine lv_sipush (v := rI 4000) hx hb dX12_init_62 (by decide +kernel) ?_
  refine rc_newa B hw 2 (N := 4000) rfl (by decide) rfl (by decide) (by rfl) (by decide) (by show 1 + 1 ≤ 34; omega) (by show 9 + 4000 ≤ rc_SL; decide) dX12_init_65 (fun H hw => ?_)
  refine rc_put B hw 2 (by decide) rfl rfl lk_33 rfl rfl dX12_init_67 (fun H locs hw => ?_)
  refine lv_aload_n hx hb dX12_init_70 rfl (lv_at hl 0 rfl) ?_
  refine lv_sipush (v := rI 4000) hx hb dX12_init_71 (by decide +kernel) ?_
  refine rc_newa B hw 4 (N := 4000) rfl (by decide) rfl (by decide) (by rfl) (by decide) (by show 2 + 1 ≤ 34; omega) (by show 4009 + 4000 ≤ rc_SL; decide) dX12_init_74 (fun H hw => ?_)
  refine rc_put B hw 4 (by decide) rfl rfl lk_37 rfl rfl dX12_init_76 (fun H locs hw => ?_)
  refine lv_aload_n hx hb dX12_init_79 rfl (lv_at hl 0 rfl) ?_
  refine lv_iconst (v := rI (-1)) hx hb dX12_init_80 rfl ?_
  refine rc_puti B hw 13 (by decide) rfl lk_40 rfl rfl dX12_init_81 (fun H locs hw => ?_)
  refine lv_aload_n hx hb dX12_init_84 rfl (lv_at hl 0 rfl) ?_
  refine lv_bipush (v := rI 96) hx hb dX12_init_85 (by decide +kernel) ?_
  refine rc_newa B hw 16 (N := 96) rfl (by decide) rfl (by decide) (by rfl) (by decide) (by show 3 + 1 ≤ 34; omega) (by show 8009 + 96 ≤ rc_SL; decide) dX12_init_87 (fun H hw => ?_)
  refine rc_put B hw 16 (by decide) rfl rfl lk_44 rfl rfl dX12_init_89 (fun H locs hw => ?_)
  refine lv_aload_n hx hb dX12_init_92 rfl (lv_at hl 0 rfl) ?_
  refine lv_bipush (v := rI 8) hx hb dX12_init_93 (by decide +kernel) ?_
  refine rc_newa B hw 17 (N := 8) rfl (by decide) rfl (by decide) (by rfl) (by decide) (by show 4 + 1 ≤ 34; omega) (by show 8105 + 8 ≤ rc_SL; decide) dX12_init_95 (fun H hw => ?_)
  refine rc_put B hw 17 (by decide) rfl rfl lk_47 rfl rfl dX12_init_97 (fun H locs hw => ?_)
  refine lv_aload_n hx hb dX12_init_100 rfl (lv_at hl 0 rfl) ?_
  refine lv_bipush (v := rI 8) hx hb dX12_init_101 (by decide +kernel) ?_
  refine rc_newa B hw 18 (N := 8) rfl (by decide) rfl (by decide) (by rfl) (by decide) (by show 5 + 1 ≤ 34; omega) (by show 8113 + 8 ≤ rc_SL; decide) dX12_init_103 (fun H hw => ?_)
  refine rc_put B hw 18 (by decide) rfl rfl lk_50 rfl rfl dX12_init_105 (fun H locs hw => ?_)
  refine lv_aload_n hx hb dX12_init_108 rfl (lv_at hl 0 rfl) ?_
  refine lv_bipush (v := rI 64) hx hb dX12_init_109 (by decide +kernel) ?_
  refine rc_newa B hw 19 (N := 64) rfl (by decide) rfl (by decide) (by rfl) (by decide) (by show 6 + 1 ≤ 34; omega) (by show 8121 + 64 ≤ rc_SL; decide) dX12_init_111 (fun H hw => ?_)
  refine rc_put B hw 19 (by decide) rfl rfl lk_52 rfl rfl dX12_init_113 (fun H locs hw => ?_)
  refine lv_aload_n hx hb dX12_init_116 rfl (lv_at hl 0 rfl) ?_
  refine lv_sipush (v := rI 1200) hx hb dX12_init_117 (by decide +kernel) ?_
  refine rc_newa B hw 21 (N := 1200) rfl (by decide) rfl (by decide) (by rfl) (by decide) (by show 7 + 1 ≤ 34; omega) (by show 8185 + 1200 ≤ rc_SL; decide) dX12_init_120 (fun H hw => ?_)
  refine rc_put B hw 21 (by decide) rfl rfl lk_54 rfl rfl dX12_init_122 (fun H locs hw => ?_)
  refine lv_aload_n hx hb dX12_init_125 rfl (lv_at hl 0 rfl) ?_
  refine lv_bipush (v := rI 100) hx hb dX12_init_126 (by decide +kernel) ?_
  refine rc_newa B hw 22 (N := 100) rfl (by decide) rfl (by decide) (by rfl) (by decide) (by show 8 + 1 ≤ 34; omega) (by show 9385 + 100 ≤ rc_SL; decide) dX12_init_128 (fun H hw => ?_)
  refine rc_put B hw 22 (by decide) rfl rfl lk_57 rfl rfl dX12_init_130 (fun H locs hw => ?_)
  refine lv_aload_n hx hb dX12_init_133 rfl (lv_at hl 0 rfl) ?_
  refine lv_bipush (v := rI 100) hx hb dX12_init_134 (by decide +kernel) ?_
  refine rc_newa B hw 23 (N := 100) rfl (by decide) rfl (by decide) (by rfl) (by decide) (by show 9 + 1 ≤ 34; omega) (by show 9485 + 100 ≤ rc_SL; decide) dX12_init_136 (fun H hw => ?_)
  refine rc_put B hw 23 (by decide) rfl rfl lk_60 rfl rfl dX12_init_138 (fun H locs hw => ?_)
  refine lv_aload_n hx hb dX12_init_141 rfl (lv_at hl 0 rfl) ?_
  refine lv_bipush (v := rI 100) hx hb dX12_init_142 (by decide +kernel) ?_
  refine rc_newa B hw 24 (N := 100) rfl (by decide) rfl (by decide) (by rfl) (by decide) (by show 10 + 1 ≤ 34; omega) (by show 9585 + 100 ≤ rc_SL; decide) dX12_init_144 (fun H hw => ?_)
  refine rc_put B hw 24 (by decide) rfl rfl lk_63 rfl rfl dX12_init_146 (fun H locs hw => ?_)
  refine lv_aload_n hx hb dX12_init_149 rfl (lv_at hl 0 rfl) ?_
  refine lv_bipush (v := rI 100) hx hb dX12_init_150 (by decide +kernel) ?_
  refine rc_newa B hw 25 (N := 100) rfl (by decide) rfl (by decide) (by rfl) (by decide) (by show 11 + 1 ≤ 34; omega) (by show 9685 + 100 ≤ rc_SL; decide) dX12_init_152 (fun H hw => ?_)
  refine rc_put B hw 25 (by decide) rfl rfl lk_66 rfl rfl dX12_init_154 (fun H locs hw => ?_)
  refine lv_aload_n hx hb dX12_init_157 rfl (lv_at hl 0 rfl) ?_
  refine lv_bipush (v := rI 100) hx hb dX12_init_158 (by decide +kernel) ?_
  refine rc_newa B hw 26 (N := 100) rfl (by decide) rfl (by decide) (by rfl) (by decide) (by show 12 + 1 ≤ 34; omega) (by show 9785 + 100 ≤ rc_SL; decide) dX12_init_160 (fun H hw => ?_)
  refine rc_put B hw 26 (by decide) rfl rfl lk_69 rfl rfl dX12_init_162 (fun H locs hw => ?_)
  refine lv_aload_n hx hb dX12_init_165 rfl (lv_at hl 0 rfl) ?_
  refine lv_bipush (v := rI 20) hx hb dX12_init_166 (by decide +kernel) ?_
  refine rc_newa B hw 28 (N := 20) rfl (by decide) rfl (by decide) (by rfl) (by decide) (by show 13 + 1 ≤ 34; omega) (by show 9885 + 20 ≤ rc_SL; decide) dX12_init_168 (fun H hw => ?_)
  refine rc_put B hw 28 (by decide) rfl rfl lk_72 rfl rfl dX12_init_170 (fun H locs hw => ?_)
  refine lv_aload_n hx hb dX12_init_173 rfl (lv_at hl 0 rfl) ?_
  refine lv_ldc (v := rI 140000) hx hb hown (hts _ lc_75) dX12_init_174 ?_
  refine rc_newa B hw 30 (N := 140000) rfl (by decide) rfl (by decide) (by rfl) (by decide) (by show 14 + 1 ≤ 34; omega) (by show 9905 + 140000 ≤ rc_SL; decide) dX12_init_176 (fun H hw => ?_)
  refine rc_put B hw 30 (by decide) rfl rfl lk_76 rfl rfl dX12_init_178 (fun H locs hw => ?_)
  refine lv_aload_n hx hb dX12_init_181 rfl (lv_at hl 0 rfl) ?_
  refine lv_ldc (v := rI 140000) hx hb hown (hts _ lc_75) dX12_init_182 ?_
  refine rc_newa B hw 31 (N := 140000) rfl (by decide) rfl (by decide) (by rfl) (by decide) (by show 15 + 1 ≤ 34; omega) (by show 149905 + 140000 ≤ rc_SL; decide) dX12_init_184 (fun H hw => ?_)
  refine rc_put B hw 31 (by decide) rfl rfl lk_79 rfl rfl dX12_init_186 (fun H locs hw => ?_)
  refine lv_aload_n hx hb dX12_init_189 rfl (lv_at hl 0 rfl) ?_
  refine lv_ldc (v := rI 140000) hx hb hown (hts _ lc_75) dX12_init_190 ?_
  refine rc_newa B hw 32 (N := 140000) rfl (by decide) rfl (by decide) (by rfl) (by decide) (by show 16 + 1 ≤ 34; omega) (by show 289905 + 140000 ≤ rc_SL; decide) dX12_init_192 (fun H hw => ?_)
  refine rc_put B hw 32 (by decide) rfl rfl lk_82 rfl rfl dX12_init_194 (fun H locs hw => ?_)
  refine lv_aload_n hx hb dX12_init_197 rfl (lv_at hl 0 rfl) ?_
  refine lv_ldc (v := rI 140000) hx hb hown (hts _ lc_75) dX12_init_198 ?_
  refine rc_newa B hw 33 (N := 140000) rfl (by decide) rfl (by decide) (by rfl) (by decide) (by show 17 + 1 ≤ 34; omega) (by show 429905 + 140000 ≤ rc_SL; decide) dX12_init_200 (fun H hw => ?_)
  refine rc_put B hw 33 (by decide) rfl rfl lk_85 rfl rfl dX12_init_202 (fun H locs hw => ?_)
  refine lv_aload_n hx hb dX12_init_205 rfl (lv_at hl 0 rfl) ?_
  refine lv_ldc (v := rI 140000) hx hb hown (hts _ lc_75) dX12_init_206 ?_
  refine rc_newa B hw 34 (N := 140000) rfl (by decide) rfl (by decide) (by rfl) (by decide) (by show 18 + 1 ≤ 34; omega) (by show 569905 + 140000 ≤ rc_SL; decide) dX12_init_208 (fun H hw => ?_)
  refine rc_put B hw 34 (by decide) rfl rfl lk_88 rfl rfl dX12_init_210 (fun H locs hw => ?_)
  refine lv_aload_n hx hb dX12_init_213 rfl (lv_at hl 0 rfl) ?_
  refine lv_ldc (v := rI 140000) hx hb hown (hts _ lc_75) dX12_init_214 ?_
  refine rc_newa B hw 35 (N := 140000) rfl (by decide) rfl (by decide) (by rfl) (by decide) (by show 19 + 1 ≤ 34; omega) (by show 709905 + 140000 ≤ rc_SL; decide) dX12_init_216 (fun H hw => ?_)
  refine rc_put B hw 35 (by decide) rfl rfl lk_91 rfl rfl dX12_init_218 (fun H locs hw => ?_)
  refine lv_aload_n hx hb dX12_init_221 rfl (lv_at hl 0 rfl) ?_
  refine lv_ldc (v := rI 140000) hx hb hown (hts _ lc_75) dX12_init_222 ?_
  refine rc_newa B hw 36 (N := 140000) rfl (by decide) rfl (by decide) (by rfl) (by decide) (by show 20 + 1 ≤ 34; omega) (by show 849905 + 140000 ≤ rc_SL; decide) dX12_init_224 (fun H hw => ?_)
  refine rc_put B hw 36 (by decide) rfl rfl lk_94 rfl rfl dX12_init_226 (fun H locs hw => ?_)
  refine lv_aload_n hx hb dX12_init_229 rfl (lv_at hl 0 rfl) ?_
  refine lv_ldc (v := rI 140000) hx hb hown (hts _ lc_75) dX12_init_230 ?_
  refine rc_newa B hw 37 (N := 140000) rfl (by decide) rfl (by decide) (by rfl) (by decide) (by show 21 + 1 ≤ 34; omega) (by show 989905 + 140000 ≤ rc_SL; decide) dX12_init_232 (fun H hw => ?_)
  refine rc_put B hw 37 (by decide) rfl rfl lk_97 rfl rfl dX12_init_234 (fun H locs hw => ?_)
  refine lv_aload_n hx hb dX12_init_237 rfl (lv_at hl 0 rfl) ?_
  refine lv_ldc (v := rI 140000) hx hb hown (hts _ lc_75) dX12_init_238 ?_
  refine rc_newa B hw 38 (N := 140000) rfl (by decide) rfl (by decide) (by rfl) (by decide) (by show 22 + 1 ≤ 34; omega) (by show 1129905 + 140000 ≤ rc_SL; decide) dX12_init_240 (fun H hw => ?_)
  refine rc_put B hw 38 (by decide) rfl rfl lk_100 rfl rfl dX12_init_242 (fun H locs hw => ?_)
  refine lv_aload_n hx hb dX12_init_245 rfl (lv_at hl 0 rfl) ?_
  refine lv_ldc (v := rI 140000) hx hb hown (hts _ lc_75) dX12_init_246 ?_
  refine rc_newa B hw 40 (N := 140000) rfl (by decide) rfl (by decide) (by rfl) (by decide) (by show 23 + 1 ≤ 34; omega) (by show 1269905 + 140000 ≤ rc_SL; decide) dX12_init_248 (fun H hw => ?_)
  refine rc_put B hw 40 (by decide) rfl rfl lk_103 rfl rfl dX12_init_250 (fun H locs hw => ?_)
  refine lv_aload_n hx hb dX12_init_253 rfl (lv_at hl 0 rfl) ?_
  refine lv_ldc (v := rI 140000) hx hb hown (hts _ lc_75) dX12_init_254 ?_
  refine rc_newa B hw 41 (N := 140000) rfl (by decide) rfl (by decide) (by rfl) (by decide) (by show 24 + 1 ≤ 34; omega) (by show 1409905 + 140000 ≤ rc_SL; decide) dX12_init_256 (fun H hw => ?_)
  refine rc_put B hw 41 (by decide) rfl rfl lk_106 rfl rfl dX12_init_258 (fun H locs hw => ?_)
  refine lv_aload_n hx hb dX12_init_261 rfl (lv_at hl 0 rfl) ?_
  refine lv_bipush (v := rI 50) hx hb dX12_init_262 (by decide +kernel) ?_
  refine rc_newa B hw 42 (N := 50) rfl (by decide) rfl (by decide) (by rfl) (by decide) (by show 25 + 1 ≤ 34; omega) (by show 1549905 + 50 ≤ rc_SL; decide) dX12_init_264 (fun H hw => ?_)
  refine rc_put B hw 42 (by decide) rfl rfl lk_109 rfl rfl dX12_init_266 (fun H locs hw => ?_)
  refine lv_aload_n hx hb dX12_init_269 rfl (lv_at hl 0 rfl) ?_
  refine lv_ldc (v := rI 80000) hx hb hown (hts _ lc_112) dX12_init_270 ?_
  refine rc_newa B hw 44 (N := 80000) rfl (by decide) rfl (by decide) (by rfl) (by decide) (by show 26 + 1 ≤ 34; omega) (by show 1549955 + 80000 ≤ rc_SL; decide) dX12_init_272 (fun H hw => ?_)
  refine rc_put B hw 44 (by decide) rfl rfl lk_113 rfl rfl dX12_init_274 (fun H locs hw => ?_)
  refine lv_aload_n hx hb dX12_init_277 rfl (lv_at hl 0 rfl) ?_
  refine lv_ldc (v := rI 80000) hx hb hown (hts _ lc_112) dX12_init_278 ?_
  refine rc_newa B hw 45 (N := 80000) rfl (by decide) rfl (by decide) (by rfl) (by decide) (by show 27 + 1 ≤ 34; omega) (by show 1629955 + 80000 ≤ rc_SL; decide) dX12_init_280 (fun H hw => ?_)
  refine rc_put B hw 45 (by decide) rfl rfl lk_116 rfl rfl dX12_init_282 (fun H locs hw => ?_)
  refine lv_aload_n hx hb dX12_init_285 rfl (lv_at hl 0 rfl) ?_
  refine lv_ldc (v := rI 80000) hx hb hown (hts _ lc_112) dX12_init_286 ?_
  refine rc_newa B hw 46 (N := 80000) rfl (by decide) rfl (by decide) (by rfl) (by decide) (by show 28 + 1 ≤ 34; omega) (by show 1709955 + 80000 ≤ rc_SL; decide) dX12_init_288 (fun H hw => ?_)
  refine rc_put B hw 46 (by decide) rfl rfl lk_119 rfl rfl dX12_init_290 (fun H locs hw => ?_)
  refine lv_aload_n hx hb dX12_init_293 rfl (lv_at hl 0 rfl) ?_
  refine lv_ldc (v := rI 80000) hx hb hown (hts _ lc_112) dX12_init_294 ?_
  refine rc_newa B hw 47 (N := 80000) rfl (by decide) rfl (by decide) (by rfl) (by decide) (by show 29 + 1 ≤ 34; omega) (by show 1789955 + 80000 ≤ rc_SL; decide) dX12_init_296 (fun H hw => ?_)
  refine rc_put B hw 47 (by decide) rfl rfl lk_122 rfl rfl dX12_init_298 (fun H locs hw => ?_)
  refine lv_aload_n hx hb dX12_init_301 rfl (lv_at hl 0 rfl) ?_
  refine lv_iconst (v := rI 1) hx hb dX12_init_302 rfl ?_
  refine rc_puti B hw 48 (by decide) rfl lk_125 rfl rfl dX12_init_303 (fun H locs hw => ?_)
  refine lv_aload_n hx hb dX12_init_306 rfl (lv_at hl 0 rfl) ?_
  refine lv_sipush (v := rI 21000) hx hb dX12_init_307 (by decide +kernel) ?_
  refine rc_newa B hw 49 (N := 21000) rfl (by decide) rfl (by decide) (by rfl) (by decide) (by show 30 + 1 ≤ 34; omega) (by show 1869955 + 21000 ≤ rc_SL; decide) dX12_init_310 (fun H hw => ?_)
  refine rc_put B hw 49 (by decide) rfl rfl lk_128 rfl rfl dX12_init_312 (fun H locs hw => ?_)
  refine lv_aload_n hx hb dX12_init_315 rfl (lv_at hl 0 rfl) ?_
  refine lv_sipush (v := rI 21000) hx hb dX12_init_316 (by decide +kernel) ?_
  refine rc_newa B hw 50 (N := 21000) rfl (by decide) rfl (by decide) (by rfl) (by decide) (by show 31 + 1 ≤ 34; omega) (by show 1890955 + 21000 ≤ rc_SL; decide) dX12_init_319 (fun H hw => ?_)
  refine rc_put B hw 50 (by decide) rfl rfl lk_131 rfl rfl dX12_init_321 (fun H locs hw => ?_)
  refine lv_aload_n hx hb dX12_init_324 rfl (lv_at hl 0 rfl) ?_
  refine lv_sipush (v := rI 4000) hx hb dX12_init_325 (by decide +kernel) ?_
  refine rc_newa B hw 58 (N := 4000) rfl (by decide) rfl (by decide) (by rfl) (by decide) (by show 32 + 1 ≤ 34; omega) (by show 1911955 + 4000 ≤ rc_SL; decide) dX12_init_328 (fun H hw => ?_)
  refine rc_put B hw 58 (by decide) rfl rfl lk_134 rfl rfl dX12_init_330 (fun H locs hw => ?_)
  refine lv_aload_n hx hb dX12_init_333 rfl (lv_at hl 0 rfl) ?_
  refine lv_sipush (v := rI 5000) hx hb dX12_init_334 (by decide +kernel) ?_
  refine rc_puti B hw 63 (by decide) rfl lk_137 rfl rfl dX12_init_337 (fun H locs hw => ?_)
  refine lv_aload_n hx hb dX12_init_340 rfl (lv_at hl 0 rfl) ?_
  refine lv_sipush (v := rI 3000) hx hb dX12_init_341 (by decide +kernel) ?_
  refine rc_newa B hw 74 (N := 3000) rfl (by decide) rfl (by decide) (by rfl) (by decide) (by show 33 + 1 ≤ 34; omega) (by show 1915955 + 3000 ≤ rc_SL; decide) dX12_init_344 (fun H hw => ?_)
  refine rc_put B hw 74 (by decide) rfl rfl lk_140 rfl rfl dX12_init_346 (fun H locs hw => ?_)
  refine lv_aload_n hx hb dX12_init_349 rfl (lv_at hl 0 rfl) ?_
  refine lv_bipush (v := rI 7) hx hb dX12_init_350 (by decide +kernel) ?_
  obtain ⟨hO9, hsz9, hAr9, hWd9, hfr9, hlo9⟩ := hw
  have hM : rf_M v rf_s0 H := by
    refine ⟨t_OB.to hO9 (rc_VE_ok v), fun k hk => ?_, fun k => ?_, fun k i => ⟨(by decide : (-2147483648 : Int) ≤ 0), (by decide : (0 : Int) ≤ 2147483647)⟩⟩
    · have ho : rc_ord k < 34 := (by decide +kernel : ∀ k, k < 83 → (rf_len k != 0) = true → rc_ord k < 34) k (rf_len83 hk) (by simp [hk])
      exact hAr9 k hk ho
    · show inR (if k = 13 then -1 else if k = 48 then 1 else if k = 63 then 5000 else 0)
      split
      · exact ⟨by decide, by decide⟩
      · split
        · exact ⟨by decide, by decide⟩
        · split
          · exact ⟨by decide, by decide⟩
          · exact ⟨by decide, by decide⟩
  have hout : ∀ q : Nat, q < s.heap.size → ¬ rf_F v q → H[q]? = s.heap[q]? := fun q hq hF => hfr9 q hq (fun z => hF (Or.inl z))
  have hT9 : ∀ U : State, U.heap = H → s.vm.Alike U.vm → va_T (.object RJ0) (rf_ad v 0) 9 (fun i => .ref (rf_aK v i)) (rf_F v) U H := by
    intro U hU hA
    exact rc_T e2 e3 hA (hWd9 (by omega)) (rf_ad0 hAd hh)
  have hRec := (rf_sim (l := l) hDD d 5 rf_s0 [7] σ r h7).2
  have hM5 : rf_Met l v yX12_table cX12_table 4 none d [.ref (rf_h v), .int (rI 7)] rf_s0 σ none := hRec ⟨by decide, by decide⟩
  obtain ⟨cellO, q1, q2, q3, q4⟩ := hO9
  have hrun := W.runV (C := RX12) (own := RX12) (Ts := rf_bw) (As := [.int (rI 7)]) (rest := []) (H := H) (locs := locs) (cells := 34) (slots := rc_SL) (R := rc_rm d) (e := e) (below := below) (meth := meth) (g := F0 m 352 ls [.int (rI 7), .ref (rf_h v)]) ⟨hx, hb, hml, hown, hts⟩ hM5 (cwV 1 hts (rf_good (index := 143) g_143_table) rfl rfl rfl (by decide +kernel) ⟨Nat.le_refl _, by show 8 + (4 + 11) + 60 * d ≤ 60 * (d + 1); omega⟩)
    ⟨rf_blind, ⟨cellO, q1, by rw [q3]; rfl, by rw [q2]; exact hKn.2.1⟩, fun U hU hW => ⟨rfl, by rw [hU]; exact hM, u_Kn_moved hW.alike hKn, arrOfT_moved hW.alike hAI, by
      rw [hU]
      exact ⟨(hJ.kept (fun a ha hA => hout a ha hA)).moved hW.alike, hT9 U hU hW.alike, hSt.warm hW, hSk.warm hW⟩⟩⟩ rfl rfl hl.1 rfl (lv_room (Nat.le_of_ble_eq_true rfl)) dX12_init_352 ⟨Nat.le_refl _, Nat.le_refl _⟩
  intro T hT X
  obtain ⟨v1, st₀, t1, T', L, h0, X', hL, f1, ⟨hv1, hM1, hz1, hfr1⟩, st⟩ := hrun T hT X
  obtain rfl : v1 = none := Outcome.returned.inj hv1
  have hend := W.vret (m := m) (meth := meth) (c := c) (p := p) (Qc := rc_Q v s.heap.size σ) (free := rc_free v s.heap.size) (l := l) (e := e) (R := rc_rm d) (below := below) (H := T'.heap) (locs := locs ++ L) (cells := 34 + 0) (slots := rc_SL + 0) (s := s) (args := #[Value.ref (rf_h v)]) hx hb BB.returns (fun t ht hW => ⟨rfl, by rw [ht, f1]; exact hM1, by rw [ht, f1, hz1, h0, hsz9], fun q hq hqh => ?_, ?_⟩) ?_ (ls := ls) dX12_init_355
  · obtain ⟨t2, a1, b1⟩ := hend T' rfl X'
    exact ⟨t2, st t2 a1, b1⟩
  · have hnF : ¬ rf_F v q := by
      rintro (z | ⟨k, hk, z⟩)
      · exact hqh z
      · rw [hAd k (Or.inr hk)] at z; omega
    rw [ht, f1, hfr1 q hnF, h0]
    exact hfr9 q hq hqh
  · rw [ht, f1]
    exact rc_T e2 e3 hW.alike (by rw [hfr1 _ (rf_ad0 hAd hh), h0]; exact hWd9 (by omega)) (rf_ad0 hAd hh)
  · intro z hz
    rcases List.mem_append.mp hz with h | h
    · exact hlo9 z h
    · rcases hL z h with q | ⟨k, hk, q⟩
      · exact Or.inl q
      · refine Or.inr ?_
        rw [q, hAd k (Or.inr hk)]; omega
