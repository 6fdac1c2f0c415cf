section RK3
variable {σ τ σ0 : RS}
/-- what leaves the lexer where it stands -/
def kp (o : RO) (σ : RS) : Prop := ∀ y, o = some y → SL y.1 σ
theorem SL.refl : SL σ σ := ⟨fun _ _ => rfl, rfl, fun _ => rfl, fun _ => rfl⟩
theorem SL.trans (h : SL σ τ) (k : SL τ σ0) : SL σ σ0 := by
  have e7 := h.1 7 rfl
  exact ⟨fun j hj => (h.1 j hj).trans (k.1 j hj), h.2.1.trans k.2.1, fun q => (h.2.2.1 q).trans (k.2.2.1 (e7.symm.trans q)), fun q => (h.2.2.2 q).trans (k.2.2.2 (e7.symm.trans q))⟩
theorem kp_some {r : Int} (h : SL σ σ0) : kp (some (σ, r)) σ0 := fun y hy => by cases hy; exact h
theorem kp_gi {k : Nat} {f : Int → RO} (h : ∀ z, kp (f z) σ0) : kp (rf_gi σ k f) σ0 := h _
theorem kp_pi {k : Nat} {x : Int} {f : RS → RO} (h0 : SL σ σ0) (hk : lxk k = false) (h : ∀ σ1, SL σ1 σ0 → kp (f σ1) σ0) (hk' : k ≠ 7 ∧ k ≠ 8 ∧ k ≠ 10 := by decide) : kp (rf_pi σ k x f) σ0 := h _ (h0.i1 hk x hk')
theorem kp_wr {k : Nat} {i x : Int} {f : RS → RO} (h0 : SL σ σ0) (hk : k ≠ 4) (h : ∀ σ1, SL σ1 σ0 → kp (f σ1) σ0) : kp (rf_wr σ k i x f) σ0 := by
  unfold rf_wr
  by_cases c : 0 ≤ i ∧ i < (rf_len k : Int)
  · rw [if_pos c]; exact h _ (h0.w1 hk i x)
  · rw [if_neg c]; exact fun y hy => by cases hy
theorem kp_ck {x : Int} {f : Int → RO} (h : ∀ z, kp (f z) σ0) : kp (rf_ck x f) σ0 := by
  unfold rf_ck
  by_cases c : -2147483648 ≤ x ∧ x ≤ 2147483647
  · rw [if_pos c]; exact h x
  · rw [if_neg c]; exact fun y hy => by cases hy
theorem kp_if {c : Prop} [Decidable c] {a b : RO} (h1 : kp a σ0) (h2 : kp b σ0) : kp (if c then a else b) σ0 := by
  by_cases h : c
  · rw [if_pos h]; exact h1
  · rw [if_neg h]; exact h2
theorem kp_fin {o : RO} (h : kp o σ0) : kp (rf_fin o) σ0 := fun y hy => h y (rf_fin_s hy).1
theorem lr_kp {o1 o2 : RO} (h1 : kp o1 σ) (h2 : kp o2 τ) (H : SL σ τ) : lr o1 o2 (fun _ _ => True) := fun y1 y2 e1 e2 => ⟨((h1 y1 e1).trans H).trans (h2 y2 e2).symm, trivial⟩
theorem k_node {d : Nat} {a0 a1 a2 a3 a4 : Int} : kp (RF d 18 σ [a0, a1, a2, a3, a4]) σ := by
  cases d with
  | zero => exact fun y hy => by cases hy
  | succ d =>
    rw [RF_s]
    refine kp_fin ?_
    rw [rb_node]
    unfold pf_node_0
    refine kp_gi (fun _ => ?_)
    refine kp_if ?_ ?_
    · refine kp_gi (fun _ => ?_)
      refine kp_wr SL.refl (by decide) (fun _ K1 => ?_)
      refine kp_gi (fun _ => ?_)
      refine kp_wr K1 (by decide) (fun _ K2 => ?_)
      refine kp_gi (fun _ => ?_)
      refine kp_wr K2 (by decide) (fun _ K3 => ?_)
      refine kp_gi (fun _ => ?_)
      refine kp_wr K3 (by decide) (fun _ K4 => ?_)
      refine kp_gi (fun _ => ?_)
      refine kp_wr K4 (by decide) (fun _ K5 => ?_)
      refine kp_gi (fun _ => ?_)
      refine kp_wr K5 (by decide) (fun _ K6 => ?_)
      refine kp_gi (fun _ => ?_)
      refine kp_gi (fun _ => ?_)
      refine kp_wr K6 (by decide) (fun _ K7 => ?_)
      refine kp_gi (fun _ => ?_)
      refine kp_ck (fun _ => ?_)
      refine kp_pi K7 rfl (fun _ K8 => ?_)
      refine kp_gi (fun _ => ?_)
      refine kp_ck (fun _ => ?_)
      exact kp_some K8
    · exact kp_some SL.refl
theorem l_node {d e : Nat} {a0 a1 a2 a3 a4 b0 b1 b2 b3 b4 : Int} (H : SL σ τ) : lr (RF d 18 σ [a0, a1, a2, a3, a4]) (RF e 18 τ [b0, b1, b2, b3, b4]) (fun _ _ => True) := lr_kp k_node k_node H
theorem k_parts {d : Nat} {a0 a1 a2 a3 : Int} : kp (RF d 21 σ [a0, a1, a2, a3]) σ := by
  cases d with
  | zero => exact fun y hy => by cases hy
  | succ d =>
    rw [RF_s]
    refine kp_fin ?_
    rw [rb_parts]
    unfold pf_parts_0
    refine kp_gi (fun _ => ?_)
    refine kp_if ?_ ?_
    · exact kp_some SL.refl
    · refine kp_wr SL.refl (by decide) (fun _ K1 => ?_)
      refine kp_wr K1 (by decide) (fun _ K2 => ?_)
      refine kp_wr K2 (by decide) (fun _ K3 => ?_)
      exact kp_some K3
theorem l_parts {d e : Nat} {a0 a1 a2 a3 b0 b1 b2 b3 : Int} (H : SL σ τ) : lr (RF d 21 σ [a0, a1, a2, a3]) (RF e 21 τ [b0, b1, b2, b3]) (fun _ _ => True) := lr_kp k_parts k_parts H
theorem l_nameNode {d e : Nat} (H : SL σ τ) : lr (RF d 19 σ []) (RF e 19 τ []) (fun _ _ => True) := by
  cases d with
  | zero => exact lr_none
  | succ d =>
    cases e with
    | zero => exact fun y1 y2 _ h2 => by cases h2
    | succ e =>
      rw [RF_s, RF_s]
      refine lr_fin ?_
      rw [rb_nameNode, rb_nameNode]
      unfold pf_nameNode_0
      refine lr_gi H rfl (fun _ => ?_)
      refine lr_gj (fun _ _ => ?_)
      refine lr_gi H rfl (fun _ => ?_)
      refine lr_cj (fun _ _ => ?_)
      refine lr_gi H rfl (fun _ => ?_)
      refine lr_cl (l_node H) (fun _ _ _ _ H_1 _ => ?_)
      refine lr_cl (l_isName H_1) (fun _ _ _ _ H_2 hv => ?_)
      cases hv
      refine lr_if (fun _ => ?_) (fun _ => ?_)
      · refine lr_cl (l_cant H_2) (fun _ _ _ _ H_3 hv => ?_)
        cases hv
        exact lr_some H_3 trivial
      · refine lr_cl (l_next H_2) (fun _ _ _ _ H_4 hv => ?_)
        cases hv
        exact lr_some H_4 trivial
theorem l_readAtom {d : Nat} (hT : ∀ {σ τ : RS} {e : Nat} {x : Int}, SL σ τ → lr (RF d 20 σ [x]) (RF e 20 τ [x]) (fun _ _ => True)) {e : Nat} {a0 : Int} (H : SL σ τ) : lr (RF (d + 1) 24 σ [a0]) (RF e 24 τ [a0]) (fun _ _ => True) := by
  cases e with
  | zero => exact fun y1 y2 _ h2 => by cases h2
  | succ e =>
    rw [RF_s, RF_s]
    refine lr_fin ?_
    rw [rb_readAtom, rb_readAtom]
    unfold pf_readAtom_0
    refine lr_cl (l_isSign H) (fun _ _ _ _ H_1 hv => ?_)
    cases hv
    refine lr_if (fun _ => ?_) (fun _ => ?_)
    · refine lr_gi H_1 rfl (fun _ => ?_)
      refine lr_cl (l_next H_1) (fun _ _ _ _ H_2 hv => ?_)
      cases hv
      refine lr_ck (fun _ => ?_)
      refine lr_cl (hT H_2) (fun _ _ _ _ H_3 _ => ?_)
      refine lr_cl (l_need H_3) (fun _ _ _ _ H_4 hv => ?_)
      cases hv
      refine lr_kp ?_ ?_ H_4
      · refine kp_gi (fun _ => ?_)
        refine kp_if ?_ ?_
        · exact kp_some SL.refl
        · refine kp_wr SL.refl (by decide) (fun _ K1 => ?_)
          exact kp_some K1
      · refine kp_gi (fun _ => ?_)
        refine kp_if ?_ ?_
        · exact kp_some SL.refl
        · refine kp_wr SL.refl (by decide) (fun _ K1 => ?_)
          exact kp_some K1
    · refine lr_cl (l_nameNode H_1) (fun _ _ _ _ H_5 _ => ?_)
      exact lr_some H_5 trivial
theorem lw_readUse_6 {d e : Nat} (hT : ∀ {σ τ : RS} {e : Nat} {x : Int}, SL σ τ → lr (RF d 20 σ [x]) (RF e 20 τ [x]) (fun _ _ => True)) (hA : ∀ {σ τ : RS} {e : Nat} {x : Int}, SL σ τ → lr (RF d 24 σ [x]) (RF e 24 τ [x]) (fun _ _ => True)) : ∀ {n : Nat} {σ τ : RS} {a0 a1 a2 b2 : Int}, SL σ τ → lr (pf_readUse_6 (RF d) n σ a0 a1 a2) (pf_readUse_6 (RF e) n τ a0 a1 b2) (fun _ _ => True) := by
  intro n
  induction n with
  | zero => intros; exact lr_none
  | succ n ih =>
    intro σ τ a0 a1 a2 b2 H
    unfold pf_readUse_6
    refine lr_gi H rfl (fun _ => ?_)
    refine lr_if (fun _ => ?_) (fun _ => ?_)
    · unfold pf_readUse_42
      refine lr_gi H rfl (fun _ => ?_)
      refine lr_if (fun _ => ?_) (fun _ => ?_)
      · exact lr_some H trivial
      · refine lr_cl (l_isSign H) (fun _ _ _ _ H_1 hv => ?_)
        cases hv
        refine lr_if (fun _ => ?_) (fun _ => ?_)
        · exact lr_some H_1 trivial
        · refine lr_gi H_1 rfl (fun _ => ?_)
          refine lr_cl (l_next H_1) (fun _ _ _ _ H_2 hv => ?_)
          cases hv
          refine lr_ck (fun _ => ?_)
          refine lr_cl (hT H_2) (fun _ _ _ _ H_3 _ => ?_)
          refine lr_cl (l_node H_3) (fun _ _ _ _ H_4 _ => ?_)
          refine lr_kp ?_ ?_ H_4
          · refine kp_gi (fun _ => ?_)
            refine kp_if ?_ ?_
            · exact kp_some SL.refl
            · refine kp_wr SL.refl (by decide) (fun _ K1 => ?_)
              exact kp_some K1
          · refine kp_gi (fun _ => ?_)
            refine kp_if ?_ ?_
            · exact kp_some SL.refl
            · refine kp_wr SL.refl (by decide) (fun _ K1 => ?_)
              exact kp_some K1
    · refine lr_cl (l_beginsAtom H) (fun _ _ _ _ H_5 hv => ?_)
      cases hv
      refine lr_if (fun _ => ?_) (fun _ => ?_)
      · unfold pf_readUse_42
        refine lr_gi H_5 rfl (fun _ => ?_)
        refine lr_if (fun _ => ?_) (fun _ => ?_)
        · exact lr_some H_5 trivial
        · refine lr_cl (l_isSign H_5) (fun _ _ _ _ H_6 hv => ?_)
          cases hv
          refine lr_if (fun _ => ?_) (fun _ => ?_)
          · exact lr_some H_6 trivial
          · refine lr_gi H_6 rfl (fun _ => ?_)
            refine lr_cl (l_next H_6) (fun _ _ _ _ H_7 hv => ?_)
            cases hv
            refine lr_ck (fun _ => ?_)
            refine lr_cl (hT H_7) (fun _ _ _ _ H_8 _ => ?_)
            refine lr_cl (l_node H_8) (fun _ _ _ _ H_9 _ => ?_)
            refine lr_kp ?_ ?_ H_9
            · refine kp_gi (fun _ => ?_)
              refine kp_if ?_ ?_
              · exact kp_some SL.refl
              · refine kp_wr SL.refl (by decide) (fun _ K1 => ?_)
                exact kp_some K1
            · refine kp_gi (fun _ => ?_)
              refine kp_if ?_ ?_
              · exact kp_some SL.refl
              · refine kp_wr SL.refl (by decide) (fun _ K1 => ?_)
                exact kp_some K1
      · refine lr_cl (hA H_5) (fun _ _ _ _ H_10 _ => ?_)
        refine lr_cl (l_node H_10) (fun _ _ _ _ H_11 _ => ?_)
        exact ih H_11
theorem l_readUse {d : Nat} (hT : ∀ {σ τ : RS} {e : Nat} {x : Int}, SL σ τ → lr (RF d 20 σ [x]) (RF e 20 τ [x]) (fun _ _ => True)) (hA : ∀ {σ τ : RS} {e : Nat} {x : Int}, SL σ τ → lr (RF d 24 σ [x]) (RF e 24 τ [x]) (fun _ _ => True)) {e : Nat} {a0 a1 : Int} (H : SL σ τ) : lr (RF (d + 1) 23 σ [a0, a1]) (RF e 23 τ [a0, a1]) (fun _ _ => True) := by
  cases e with
  | zero => exact fun y1 y2 _ h2 => by cases h2
  | succ e =>
    rw [RF_s, RF_s]
    refine lr_fin ?_
    rw [rb_readUse, rb_readUse]
    unfold pf_readUse_0
    refine lr_cl (hA H) (fun _ _ _ _ H_1 _ => ?_)
    exact lw_readUse_6 hT hA H_1
theorem l_readTerm {d : Nat} (hT : ∀ {σ τ : RS} {e : Nat} {x : Int}, SL σ τ → lr (RF d 20 σ [x]) (RF e 20 τ [x]) (fun _ _ => True)) (hU : ∀ {σ τ : RS} {e : Nat} {x y : Int}, SL σ τ → lr (RF d 23 σ [x, y]) (RF e 23 τ [x, y]) (fun _ _ => True)) {e : Nat} {a0 : Int} (H : SL σ τ) : lr (RF (d + 1) 20 σ [a0]) (RF e 20 τ [a0]) (fun _ _ => True) := by
  cases e with
  | zero => exact fun y1 y2 _ h2 => by cases h2
  | succ e =>
    rw [RF_s, RF_s]
    refine lr_fin ?_
    rw [rb_readTerm, rb_readTerm]
    unfold pf_readTerm_0
    refine lr_if (fun _ => ?_) (fun _ => ?_)
    · unfold pf_readTerm_29
      refine lr_gi H rfl (fun _ => ?_)
      refine lr_if (fun _ => ?_) (fun _ => ?_)
      · refine lr_gi H rfl (fun _ => ?_)
        refine lr_cl (l_isSign H) (fun _ _ _ _ H_1 hv => ?_)
        cases hv
        refine lr_if (fun _ => ?_) (fun _ => ?_)
        · unfold pf_readTerm_61
          refine lr_cl (l_isSign H_1) (fun _ _ _ _ H_2 hv => ?_)
          cases hv
          refine lr_if (fun _ => ?_) (fun _ => ?_)
          · unfold pf_readTerm_76
            refine lr_cl (l_node H_2) (fun _ _ _ _ H_3 _ => ?_)
            refine lr_cl (l_next H_3) (fun _ _ _ _ H_4 hv => ?_)
            cases hv
            refine lr_cl (l_nameNode H_4) (fun _ _ _ _ H_5 _ => ?_)
            refine lr_cl (l_need H_5) (fun _ _ _ _ H_6 hv => ?_)
            cases hv
            refine lr_ck (fun _ => ?_)
            refine lr_cl (hT H_6) (fun _ _ _ _ H_7 _ => ?_)
            refine lr_cl (l_need H_7) (fun _ _ _ _ H_8 hv => ?_)
            cases hv
            refine lr_ck (fun _ => ?_)
            refine lr_cl (hT H_8) (fun _ _ _ _ H_9 _ => ?_)
            refine lr_cl (l_parts H_9) (fun _ _ _ _ H_10 _ => ?_)
            exact lr_some H_10 trivial
          · unfold pf_readTerm_76
            refine lr_cl (l_node H_2) (fun _ _ _ _ H_11 _ => ?_)
            refine lr_cl (l_next H_11) (fun _ _ _ _ H_12 hv => ?_)
            cases hv
            refine lr_cl (l_nameNode H_12) (fun _ _ _ _ H_13 _ => ?_)
            refine lr_cl (l_need H_13) (fun _ _ _ _ H_14 hv => ?_)
            cases hv
            refine lr_ck (fun _ => ?_)
            refine lr_cl (hT H_14) (fun _ _ _ _ H_15 _ => ?_)
            refine lr_cl (l_need H_15) (fun _ _ _ _ H_16 hv => ?_)
            cases hv
            refine lr_ck (fun _ => ?_)
            refine lr_cl (hT H_16) (fun _ _ _ _ H_17 _ => ?_)
            refine lr_cl (l_parts H_17) (fun _ _ _ _ H_18 _ => ?_)
            exact lr_some H_18 trivial
        · refine lr_cl (l_isSign H_1) (fun _ _ _ _ H_19 hv => ?_)
          cases hv
          refine lr_if (fun _ => ?_) (fun _ => ?_)
          · refine lr_gi H_19 rfl (fun _ => ?_)
            refine lr_if (fun _ => ?_) (fun _ => ?_)
            · unfold pf_readTerm_217
              refine lr_cl (hU H_19) (fun _ _ _ _ H_20 _ => ?_)
              exact lr_some H_20 trivial
            · refine lr_gi H_19 rfl (fun _ => ?_)
              refine lr_if (fun _ => ?_) (fun _ => ?_)
              · unfold pf_readTerm_217
                refine lr_cl (hU H_19) (fun _ _ _ _ H_21 _ => ?_)
                exact lr_some H_21 trivial
              · refine lr_cl (l_node H_19) (fun _ _ _ _ H_22 _ => ?_)
                refine lr_cl (l_next H_22) (fun _ _ _ _ H_23 hv => ?_)
                cases hv
                refine lr_cl (l_nameNode H_23) (fun _ _ _ _ H_24 _ => ?_)
                refine lr_cl (l_need H_24) (fun _ _ _ _ H_25 hv => ?_)
                cases hv
                refine lr_ck (fun _ => ?_)
                refine lr_cl (hT H_25) (fun _ _ _ _ H_26 _ => ?_)
                refine lr_cl (l_needWord H_26) (fun _ _ _ _ H_27 hv => ?_)
                cases hv
                refine lr_ck (fun _ => ?_)
                refine lr_cl (hT H_27) (fun _ _ _ _ H_28 _ => ?_)
                refine lr_cl (l_parts H_28) (fun _ _ _ _ H_29 _ => ?_)
                exact lr_some H_29 trivial
          · unfold pf_readTerm_61
            refine lr_cl (l_isSign H_19) (fun _ _ _ _ H_30 hv => ?_)
            cases hv
            refine lr_if (fun _ => ?_) (fun _ => ?_)
            · unfold pf_readTerm_76
              refine lr_cl (l_node H_30) (fun _ _ _ _ H_31 _ => ?_)
              refine lr_cl (l_next H_31) (fun _ _ _ _ H_32 hv => ?_)
              cases hv
              refine lr_cl (l_nameNode H_32) (fun _ _ _ _ H_33 _ => ?_)
              refine lr_cl (l_need H_33) (fun _ _ _ _ H_34 hv => ?_)
              cases hv
              refine lr_ck (fun _ => ?_)
              refine lr_cl (hT H_34) (fun _ _ _ _ H_35 _ => ?_)
              refine lr_cl (l_need H_35) (fun _ _ _ _ H_36 hv => ?_)
              cases hv
              refine lr_ck (fun _ => ?_)
              refine lr_cl (hT H_36) (fun _ _ _ _ H_37 _ => ?_)
              refine lr_cl (l_parts H_37) (fun _ _ _ _ H_38 _ => ?_)
              exact lr_some H_38 trivial
            · unfold pf_readTerm_76
              refine lr_cl (l_node H_30) (fun _ _ _ _ H_39 _ => ?_)
              refine lr_cl (l_next H_39) (fun _ _ _ _ H_40 hv => ?_)
              cases hv
              refine lr_cl (l_nameNode H_40) (fun _ _ _ _ H_41 _ => ?_)
              refine lr_cl (l_need H_41) (fun _ _ _ _ H_42 hv => ?_)
              cases hv
              refine lr_ck (fun _ => ?_)
              refine lr_cl (hT H_42) (fun _ _ _ _ H_43 _ => ?_)
              refine lr_cl (l_need H_43) (fun _ _ _ _ H_44 hv => ?_)
              cases hv
              refine lr_ck (fun _ => ?_)
              refine lr_cl (hT H_44) (fun _ _ _ _ H_45 _ => ?_)
              refine lr_cl (l_parts H_45) (fun _ _ _ _ H_46 _ => ?_)
              exact lr_some H_46 trivial
      · exact lr_some H trivial
    · refine lr_gi H rfl (fun _ => ?_)
      refine lr_if (fun _ => ?_) (fun _ => ?_)
      · refine lr_gi H rfl (fun _ => ?_)
        refine lr_cl (l_wrong H) (fun _ _ _ _ H_47 hv => ?_)
        cases hv
        unfold pf_readTerm_29
        refine lr_gi H_47 rfl (fun _ => ?_)
        refine lr_if (fun _ => ?_) (fun _ => ?_)
        · refine lr_gi H_47 rfl (fun _ => ?_)
          refine lr_cl (l_isSign H_47) (fun _ _ _ _ H_48 hv => ?_)
          cases hv
          refine lr_if (fun _ => ?_) (fun _ => ?_)
          · unfold pf_readTerm_61
            refine lr_cl (l_isSign H_48) (fun _ _ _ _ H_49 hv => ?_)
            cases hv
            refine lr_if (fun _ => ?_) (fun _ => ?_)
            · unfold pf_readTerm_76
              refine lr_cl (l_node H_49) (fun _ _ _ _ H_50 _ => ?_)
              refine lr_cl (l_next H_50) (fun _ _ _ _ H_51 hv => ?_)
              cases hv
              refine lr_cl (l_nameNode H_51) (fun _ _ _ _ H_52 _ => ?_)
              refine lr_cl (l_need H_52) (fun _ _ _ _ H_53 hv => ?_)
              cases hv
              refine lr_ck (fun _ => ?_)
              refine lr_cl (hT H_53) (fun _ _ _ _ H_54 _ => ?_)
              refine lr_cl (l_need H_54) (fun _ _ _ _ H_55 hv => ?_)
              cases hv
              refine lr_ck (fun _ => ?_)
              refine lr_cl (hT H_55) (fun _ _ _ _ H_56 _ => ?_)
              refine lr_cl (l_parts H_56) (fun _ _ _ _ H_57 _ => ?_)
              exact lr_some H_57 trivial
            · unfold pf_readTerm_76
              refine lr_cl (l_node H_49) (fun _ _ _ _ H_58 _ => ?_)
              refine lr_cl (l_next H_58) (fun _ _ _ _ H_59 hv => ?_)
              cases hv
              refine lr_cl (l_nameNode H_59) (fun _ _ _ _ H_60 _ => ?_)
              refine lr_cl (l_need H_60) (fun _ _ _ _ H_61 hv => ?_)
              cases hv
              refine lr_ck (fun _ => ?_)
              refine lr_cl (hT H_61) (fun _ _ _ _ H_62 _ => ?_)
              refine lr_cl (l_need H_62) (fun _ _ _ _ H_63 hv => ?_)
              cases hv
              refine lr_ck (fun _ => ?_)
              refine lr_cl (hT H_63) (fun _ _ _ _ H_64 _ => ?_)
              refine lr_cl (l_parts H_64) (fun _ _ _ _ H_65 _ => ?_)
              exact lr_some H_65 trivial
          · refine lr_cl (l_isSign H_48) (fun _ _ _ _ H_66 hv => ?_)
            cases hv
            refine lr_if (fun _ => ?_) (fun _ => ?_)
            · refine lr_gi H_66 rfl (fun _ => ?_)
              refine lr_if (fun _ => ?_) (fun _ => ?_)
              · unfold pf_readTerm_217
                refine lr_cl (hU H_66) (fun _ _ _ _ H_67 _ => ?_)
                exact lr_some H_67 trivial
              · refine lr_gi H_66 rfl (fun _ => ?_)
                refine lr_if (fun _ => ?_) (fun _ => ?_)
                · unfold pf_readTerm_217
                  refine lr_cl (hU H_66) (fun _ _ _ _ H_68 _ => ?_)
                  exact lr_some H_68 trivial
                · refine lr_cl (l_node H_66) (fun _ _ _ _ H_69 _ => ?_)
                  refine lr_cl (l_next H_69) (fun _ _ _ _ H_70 hv => ?_)
                  cases hv
                  refine lr_cl (l_nameNode H_70) (fun _ _ _ _ H_71 _ => ?_)
                  refine lr_cl (l_need H_71) (fun _ _ _ _ H_72 hv => ?_)
                  cases hv
                  refine lr_ck (fun _ => ?_)
                  refine lr_cl (hT H_72) (fun _ _ _ _ H_73 _ => ?_)
                  refine lr_cl (l_needWord H_73) (fun _ _ _ _ H_74 hv => ?_)
                  cases hv
                  refine lr_ck (fun _ => ?_)
                  refine lr_cl (hT H_74) (fun _ _ _ _ H_75 _ => ?_)
                  refine lr_cl (l_parts H_75) (fun _ _ _ _ H_76 _ => ?_)
                  exact lr_some H_76 trivial
            · unfold pf_readTerm_61
              refine lr_cl (l_isSign H_66) (fun _ _ _ _ H_77 hv => ?_)
              cases hv
              refine lr_if (fun _ => ?_) (fun _ => ?_)
              · unfold pf_readTerm_76
                refine lr_cl (l_node H_77) (fun _ _ _ _ H_78 _ => ?_)
                refine lr_cl (l_next H_78) (fun _ _ _ _ H_79 hv => ?_)
                cases hv
                refine lr_cl (l_nameNode H_79) (fun _ _ _ _ H_80 _ => ?_)
                refine lr_cl (l_need H_80) (fun _ _ _ _ H_81 hv => ?_)
                cases hv
                refine lr_ck (fun _ => ?_)
                refine lr_cl (hT H_81) (fun _ _ _ _ H_82 _ => ?_)
                refine lr_cl (l_need H_82) (fun _ _ _ _ H_83 hv => ?_)
                cases hv
                refine lr_ck (fun _ => ?_)
                refine lr_cl (hT H_83) (fun _ _ _ _ H_84 _ => ?_)
                refine lr_cl (l_parts H_84) (fun _ _ _ _ H_85 _ => ?_)
                exact lr_some H_85 trivial
              · unfold pf_readTerm_76
                refine lr_cl (l_node H_77) (fun _ _ _ _ H_86 _ => ?_)
                refine lr_cl (l_next H_86) (fun _ _ _ _ H_87 hv => ?_)
                cases hv
                refine lr_cl (l_nameNode H_87) (fun _ _ _ _ H_88 _ => ?_)
                refine lr_cl (l_need H_88) (fun _ _ _ _ H_89 hv => ?_)
                cases hv
                refine lr_ck (fun _ => ?_)
                refine lr_cl (hT H_89) (fun _ _ _ _ H_90 _ => ?_)
                refine lr_cl (l_need H_90) (fun _ _ _ _ H_91 hv => ?_)
                cases hv
                refine lr_ck (fun _ => ?_)
                refine lr_cl (hT H_91) (fun _ _ _ _ H_92 _ => ?_)
                refine lr_cl (l_parts H_92) (fun _ _ _ _ H_93 _ => ?_)
                exact lr_some H_93 trivial
        · exact lr_some H_47 trivial
      · refine lr_cl (l_cant H) (fun _ _ _ _ H_94 hv => ?_)
        cases hv
        unfold pf_readTerm_29
        refine lr_gi H_94 rfl (fun _ => ?_)
        refine lr_if (fun _ => ?_) (fun _ => ?_)
        · refine lr_gi H_94 rfl (fun _ => ?_)
          refine lr_cl (l_isSign H_94) (fun _ _ _ _ H_95 hv => ?_)
          cases hv
          refine lr_if (fun _ => ?_) (fun _ => ?_)
          · unfold pf_readTerm_61
            refine lr_cl (l_isSign H_95) (fun _ _ _ _ H_96 hv => ?_)
            cases hv
            refine lr_if (fun _ => ?_) (fun _ => ?_)
            · unfold pf_readTerm_76
              refine lr_cl (l_node H_96) (fun _ _ _ _ H_97 _ => ?_)
              refine lr_cl (l_next H_97) (fun _ _ _ _ H_98 hv => ?_)
              cases hv
              refine lr_cl (l_nameNode H_98) (fun _ _ _ _ H_99 _ => ?_)
              refine lr_cl (l_need H_99) (fun _ _ _ _ H_100 hv => ?_)
              cases hv
              refine lr_ck (fun _ => ?_)
              refine lr_cl (hT H_100) (fun _ _ _ _ H_101 _ => ?_)
              refine lr_cl (l_need H_101) (fun _ _ _ _ H_102 hv => ?_)
              cases hv
              refine lr_ck (fun _ => ?_)
              refine lr_cl (hT H_102) (fun _ _ _ _ H_103 _ => ?_)
              refine lr_cl (l_parts H_103) (fun _ _ _ _ H_104 _ => ?_)
              exact lr_some H_104 trivial
            · unfold pf_readTerm_76
              refine lr_cl (l_node H_96) (fun _ _ _ _ H_105 _ => ?_)
              refine lr_cl (l_next H_105) (fun _ _ _ _ H_106 hv => ?_)
              cases hv
              refine lr_cl (l_nameNode H_106) (fun _ _ _ _ H_107 _ => ?_)
              refine lr_cl (l_need H_107) (fun _ _ _ _ H_108 hv => ?_)
              cases hv
              refine lr_ck (fun _ => ?_)
              refine lr_cl (hT H_108) (fun _ _ _ _ H_109 _ => ?_)
              refine lr_cl (l_need H_109) (fun _ _ _ _ H_110 hv => ?_)
              cases hv
              refine lr_ck (fun _ => ?_)
              refine lr_cl (hT H_110) (fun _ _ _ _ H_111 _ => ?_)
              refine lr_cl (l_parts H_111) (fun _ _ _ _ H_112 _ => ?_)
              exact lr_some H_112 trivial
          · refine lr_cl (l_isSign H_95) (fun _ _ _ _ H_113 hv => ?_)
            cases hv
            refine lr_if (fun _ => ?_) (fun _ => ?_)
            · refine lr_gi H_113 rfl (fun _ => ?_)
              refine lr_if (fun _ => ?_) (fun _ => ?_)
              · unfold pf_readTerm_217
                refine lr_cl (hU H_113) (fun _ _ _ _ H_114 _ => ?_)
                exact lr_some H_114 trivial
              · refine lr_gi H_113 rfl (fun _ => ?_)
                refine lr_if (fun _ => ?_) (fun _ => ?_)
                · unfold pf_readTerm_217
                  refine lr_cl (hU H_113) (fun _ _ _ _ H_115 _ => ?_)
                  exact lr_some H_115 trivial
                · refine lr_cl (l_node H_113) (fun _ _ _ _ H_116 _ => ?_)
                  refine lr_cl (l_next H_116) (fun _ _ _ _ H_117 hv => ?_)
                  cases hv
                  refine lr_cl (l_nameNode H_117) (fun _ _ _ _ H_118 _ => ?_)
                  refine lr_cl (l_need H_118) (fun _ _ _ _ H_119 hv => ?_)
                  cases hv
                  refine lr_ck (fun _ => ?_)
                  refine lr_cl (hT H_119) (fun _ _ _ _ H_120 _ => ?_)
                  refine lr_cl (l_needWord H_120) (fun _ _ _ _ H_121 hv => ?_)
                  cases hv
                  refine lr_ck (fun _ => ?_)
                  refine lr_cl (hT H_121) (fun _ _ _ _ H_122 _ => ?_)
                  refine lr_cl (l_parts H_122) (fun _ _ _ _ H_123 _ => ?_)
                  exact lr_some H_123 trivial
            · unfold pf_readTerm_61
              refine lr_cl (l_isSign H_113) (fun _ _ _ _ H_124 hv => ?_)
              cases hv
              refine lr_if (fun _ => ?_) (fun _ => ?_)
              · unfold pf_readTerm_76
                refine lr_cl (l_node H_124) (fun _ _ _ _ H_125 _ => ?_)
                refine lr_cl (l_next H_125) (fun _ _ _ _ H_126 hv => ?_)
                cases hv
                refine lr_cl (l_nameNode H_126) (fun _ _ _ _ H_127 _ => ?_)
                refine lr_cl (l_need H_127) (fun _ _ _ _ H_128 hv => ?_)
                cases hv
                refine lr_ck (fun _ => ?_)
                refine lr_cl (hT H_128) (fun _ _ _ _ H_129 _ => ?_)
                refine lr_cl (l_need H_129) (fun _ _ _ _ H_130 hv => ?_)
                cases hv
                refine lr_ck (fun _ => ?_)
                refine lr_cl (hT H_130) (fun _ _ _ _ H_131 _ => ?_)
                refine lr_cl (l_parts H_131) (fun _ _ _ _ H_132 _ => ?_)
                exact lr_some H_132 trivial
              · unfold pf_readTerm_76
                refine lr_cl (l_node H_124) (fun _ _ _ _ H_133 _ => ?_)
                refine lr_cl (l_next H_133) (fun _ _ _ _ H_134 hv => ?_)
                cases hv
                refine lr_cl (l_nameNode H_134) (fun _ _ _ _ H_135 _ => ?_)
                refine lr_cl (l_need H_135) (fun _ _ _ _ H_136 hv => ?_)
                cases hv
                refine lr_ck (fun _ => ?_)
                refine lr_cl (hT H_136) (fun _ _ _ _ H_137 _ => ?_)
                refine lr_cl (l_need H_137) (fun _ _ _ _ H_138 hv => ?_)
                cases hv
                refine lr_ck (fun _ => ?_)
                refine lr_cl (hT H_138) (fun _ _ _ _ H_139 _ => ?_)
                refine lr_cl (l_parts H_139) (fun _ _ _ _ H_140 _ => ?_)
                exact lr_some H_140 trivial
        · exact lr_some H_94 trivial
theorem l_parse : ∀ (d : Nat), (∀ {σ τ : RS} {e : Nat} {x : Int}, SL σ τ → lr (RF d 20 σ [x]) (RF e 20 τ [x]) (fun _ _ => True)) ∧ (∀ {σ τ : RS} {e : Nat} {x : Int}, SL σ τ → lr (RF d 24 σ [x]) (RF e 24 τ [x]) (fun _ _ => True)) ∧ (∀ {σ τ : RS} {e : Nat} {x y : Int}, SL σ τ → lr (RF d 23 σ [x, y]) (RF e 23 τ [x, y]) (fun _ _ => True)) := by
  intro d
  induction d with
  | zero => exact ⟨fun _ => lr_none, fun _ => lr_none, fun _ => lr_none⟩
  | succ d ih => exact ⟨fun H => l_readTerm ih.1 ih.2.2 H, fun H => l_readAtom ih.1 H, fun H => l_readUse ih.1 ih.2.1 H⟩
theorem l_readTold {d e : Nat} (H : SL σ τ) : lr (RF d 26 σ []) (RF e 26 τ []) (fun _ _ => True) := by
  cases d with
  | zero => exact lr_none
  | succ d =>
    cases e with
    | zero => exact fun y1 y2 _ h2 => by cases h2
    | succ e =>
      rw [RF_s, RF_s]
      refine lr_fin ?_
      rw [rb_readTold, rb_readTold]
      unfold pf_readTold_0
      refine lr_cl (l_nameNode H) (fun _ _ _ _ H_1 _ => ?_)
      refine lr_pi H_1 (Or.inr rfl) (fun _ _ H_2 => ?_)
      refine lr_gi H_2 rfl (fun _ => ?_)
      refine lr_if (fun _ => ?_) (fun _ => ?_)
      · refine lr_cl (l_isSign H_2) (fun _ _ _ _ H_3 hv => ?_)
        cases hv
        refine lr_if (fun _ => ?_) (fun _ => ?_)
        · refine lr_cl (l_need H_3) (fun _ _ _ _ H_4 hv => ?_)
          cases hv
          refine lr_cl ((l_parse _).1 H_4) (fun _ _ _ _ H_5 _ => ?_)
          refine lr_pi H_5 (Or.inr rfl) (fun _ _ H_6 => ?_)
          exact lr_some H_6 trivial
        · refine lr_cl (l_next H_3) (fun _ _ _ _ H_7 hv => ?_)
          cases hv
          refine lr_cl ((l_parse _).1 H_7) (fun _ _ _ _ H_8 _ => ?_)
          refine lr_pi H_8 (Or.inr rfl) (fun _ _ H_9 => ?_)
          refine lr_gi H_9 rfl (fun _ => ?_)
          refine lr_if (fun _ => ?_) (fun _ => ?_)
          · exact lr_some H_9 trivial
          · refine lr_cl (l_isSign H_9) (fun _ _ _ _ H_10 hv => ?_)
            cases hv
            refine lr_if (fun _ => ?_) (fun _ => ?_)
            · exact lr_some H_10 trivial
            · refine lr_cl (l_next H_10) (fun _ _ _ _ H_11 hv => ?_)
              cases hv
              refine lr_cl ((l_parse _).1 H_11) (fun _ _ _ _ H_12 _ => ?_)
              refine lr_pi H_12 (Or.inr rfl) (fun _ _ H_13 => ?_)
              exact lr_some H_13 trivial
      · exact lr_some H_2 trivial
/-- alike, but for the word of the statement that is read anew -/
def SL0 (σ τ : RS) : Prop := (∀ j, lxk j = true → j ≠ 76 → σ.1 j = τ.1 j) ∧ σ.2 4 = τ.2 4 ∧ (σ.1 7 = 2 → σ.1 8 = τ.1 8) ∧ (σ.1 7 = 1 → σ.1 10 = τ.1 10)
theorem SL.z (h : SL σ τ) : SL0 σ τ := ⟨fun j hj _ => h.1 j hj, h.2⟩
theorem SL0.pi (h : SL0 σ τ) {x : Int} : SL (rs_i σ 76 x) (rs_i τ 76 x) := by
  refine ⟨fun j hj => ?_, h.2.1, ?_, ?_⟩
  · show (if j = 76 then x else σ.1 j) = (if j = 76 then x else τ.1 j)
    by_cases c : j = 76
    · rw [if_pos c, if_pos c]
    · rw [if_neg c, if_neg c]; exact h.1 j hj c
  · exact h.2.2.1
  · exact h.2.2.2
theorem SL0.pj (h : SL0 σ τ) {x y : Int} : SL0 (rs_i σ 77 x) (rs_i τ 77 y) := by
  refine ⟨fun j hj h76 => ?_, h.2.1, h.2.2.1, h.2.2.2⟩
  show (if j = 77 then x else σ.1 j) = (if j = 77 then y else τ.1 j)
  rw [if_neg (fun e => by rw [e] at hj; cases hj), if_neg (fun e => by rw [e] at hj; cases hj)]
  exact h.1 j hj h76
theorem lr_g0 {k : Nat} {f g : Int → RO} {V : Int → Int → Prop} (H : SL0 σ τ) (hk : lxk k = true) (h76 : k ≠ 76) (h : ∀ z, lr (f z) (g z) V) : lr (rf_gi σ k f) (rf_gi τ k g) V := by
  unfold rf_gi
  rw [H.1 k hk h76]
  exact h _
theorem lr_p0 {k : Nat} {x y : Int} {f g : RS → RO} {V : Int → Int → Prop} (h : lr (f (rs_i σ k x)) (g (rs_i τ k y)) V) : lr (rf_pi σ k x f) (rf_pi τ k y g) V := h
theorem l_readStatement25 {d e : Nat} {a0 : Int} (H0 : SL0 σ τ) : lr (pf_readStatement_25 (RF d) σ a0) (pf_readStatement_25 (RF e) τ a0) (fun _ _ => True) := by
  unfold pf_readStatement_25
  refine lr_p0 ?_
  have H := H0.pi (x := a0)
  refine lr_pi H (Or.inr rfl) (fun _ _ H_1 => ?_)
  refine lr_pi H_1 (Or.inr rfl) (fun _ _ H_2 => ?_)
  refine lr_gi H_2 rfl (fun _ => ?_)
  refine lr_if (fun _ => ?_) (fun _ => ?_)
  · refine lr_gi H_2 rfl (fun _ => ?_)
    refine lr_if (fun _ => ?_) (fun _ => ?_)
    · refine lr_cl (l_next H_2) (fun _ _ _ _ H_3 hv => ?_)
      cases hv
      refine lr_gi H_3 rfl (fun _ => ?_)
      refine lr_if (fun _ => ?_) (fun _ => ?_)
      · refine lr_cl (l_nameNode H_3) (fun _ _ _ _ H_4 _ => ?_)
        refine lr_pi H_4 (Or.inr rfl) (fun _ _ H_5 => ?_)
        exact lr_some H_5 trivial
      · refine lr_if (fun _ => ?_) (fun _ => ?_)
        · refine lr_cl (l_nameNode H_3) (fun _ _ _ _ H_6 _ => ?_)
          refine lr_pi H_6 (Or.inr rfl) (fun _ _ H_7 => ?_)
          refine lr_cl (l_need H_7) (fun _ _ _ _ H_8 hv => ?_)
          cases hv
          refine lr_cl (l_nameNode H_8) (fun _ _ _ _ H_9 _ => ?_)
          refine lr_pi H_9 (Or.inr rfl) (fun _ _ H_10 => ?_)
          exact lr_some H_10 trivial
        · refine lr_if (fun _ => ?_) (fun _ => ?_)
          · refine lr_cl (l_nameNode H_3) (fun _ _ _ _ H_11 _ => ?_)
            refine lr_pi H_11 (Or.inr rfl) (fun _ _ H_12 => ?_)
            refine lr_gi H_12 rfl (fun _ => ?_)
            refine lr_if (fun _ => ?_) (fun _ => ?_)
            · unfold pf_readStatement_159
              refine lr_gi H_12 rfl (fun _ => ?_)
              refine lr_if (fun _ => ?_) (fun _ => ?_)
              · exact lr_some H_12 trivial
              · refine lr_cl (l_nameNode H_12) (fun _ _ _ _ H_13 _ => ?_)
                refine lr_pi H_13 (Or.inr rfl) (fun _ _ H_14 => ?_)
                exact lr_some H_14 trivial
            · refine lr_cl (l_nameNode H_12) (fun _ _ _ _ H_15 _ => ?_)
              refine lr_pi H_15 (Or.inr rfl) (fun _ _ H_16 => ?_)
              unfold pf_readStatement_159
              refine lr_gi H_16 rfl (fun _ => ?_)
              refine lr_if (fun _ => ?_) (fun _ => ?_)
              · exact lr_some H_16 trivial
              · refine lr_cl (l_nameNode H_16) (fun _ _ _ _ H_17 _ => ?_)
                refine lr_pi H_17 (Or.inr rfl) (fun _ _ H_18 => ?_)
                exact lr_some H_18 trivial
          · refine lr_cl ((l_parse _).1 H_3) (fun _ _ _ _ H_19 _ => ?_)
            refine lr_pi H_19 (Or.inr rfl) (fun _ _ H_20 => ?_)
            refine lr_gi H_20 rfl (fun _ => ?_)
            refine lr_if (fun _ => ?_) (fun _ => ?_)
            · unfold pf_readStatement_226
              refine lr_gi H_20 rfl (fun _ => ?_)
              refine lr_if (fun _ => ?_) (fun _ => ?_)
              · exact lr_some H_20 trivial
              · refine lr_gi H_20 rfl (fun _ => ?_)
                refine lr_if (fun _ => ?_) (fun _ => ?_)
                · exact lr_some H_20 trivial
                · refine lr_cl (l_need H_20) (fun _ _ _ _ H_21 hv => ?_)
                  cases hv
                  refine lr_cl ((l_parse _).1 H_21) (fun _ _ _ _ H_22 _ => ?_)
                  refine lr_pi H_22 (Or.inr rfl) (fun _ _ H_23 => ?_)
                  exact lr_some H_23 trivial
            · refine lr_gi H_20 rfl (fun _ => ?_)
              refine lr_if (fun _ => ?_) (fun _ => ?_)
              · unfold pf_readStatement_226
                refine lr_gi H_20 rfl (fun _ => ?_)
                refine lr_if (fun _ => ?_) (fun _ => ?_)
                · exact lr_some H_20 trivial
                · refine lr_gi H_20 rfl (fun _ => ?_)
                  refine lr_if (fun _ => ?_) (fun _ => ?_)
                  · exact lr_some H_20 trivial
                  · refine lr_cl (l_need H_20) (fun _ _ _ _ H_24 hv => ?_)
                    cases hv
                    refine lr_cl ((l_parse _).1 H_24) (fun _ _ _ _ H_25 _ => ?_)
                    refine lr_pi H_25 (Or.inr rfl) (fun _ _ H_26 => ?_)
                    exact lr_some H_26 trivial
              · refine lr_cl (l_isSign H_20) (fun _ _ _ _ H_27 hv => ?_)
                cases hv
                refine lr_if (fun _ => ?_) (fun _ => ?_)
                · unfold pf_readStatement_226
                  refine lr_gi H_27 rfl (fun _ => ?_)
                  refine lr_if (fun _ => ?_) (fun _ => ?_)
                  · exact lr_some H_27 trivial
                  · refine lr_gi H_27 rfl (fun _ => ?_)
                    refine lr_if (fun _ => ?_) (fun _ => ?_)
                    · exact lr_some H_27 trivial
                    · refine lr_cl (l_need H_27) (fun _ _ _ _ H_28 hv => ?_)
                      cases hv
                      refine lr_cl ((l_parse _).1 H_28) (fun _ _ _ _ H_29 _ => ?_)
                      refine lr_pi H_29 (Or.inr rfl) (fun _ _ H_30 => ?_)
                      exact lr_some H_30 trivial
                · refine lr_cl (l_next H_27) (fun _ _ _ _ H_31 hv => ?_)
                  cases hv
                  refine lr_cl ((l_parse _).1 H_31) (fun _ _ _ _ H_32 _ => ?_)
                  refine lr_pi H_32 (Or.inr rfl) (fun _ _ H_33 => ?_)
                  exact lr_some H_33 trivial
    · refine lr_cl (l_cant H_2) (fun _ _ _ _ H_34 hv => ?_)
      cases hv
      exact lr_some H_34 trivial
  · refine lr_cl (l_readTold H_2) (fun _ _ _ _ H_35 _ => ?_)
    exact lr_some H_35 trivial
theorem l_readStatement {d e : Nat} (H0 : SL0 σ τ) : lr (RF d 25 σ []) (RF e 25 τ []) (fun _ _ => True) := by
  cases d with
  | zero => exact lr_none
  | succ d =>
    cases e with
    | zero => exact fun y1 y2 _ h2 => by cases h2
    | succ e =>
      rw [RF_s, RF_s]
      refine lr_fin ?_
      rw [rb_readStatement, rb_readStatement]
      unfold pf_readStatement_0
      refine lr_g0 H0 rfl (by decide) (fun z1 => lr_p0 ?_)
      have H1 := H0.pj (x := z1) (y := z1)
      refine lr_g0 H1 rfl (by decide) (fun z3 => ?_)
      refine lr_if (fun _ => ?_) (fun _ => ?_)
      · exact l_readStatement25 H1
      · exact lr_g0 H1 rfl (by decide) (fun z5 => l_readStatement25 H1)
end RK3
