section RK2
variable {σ τ : RS}
theorem l_wrong {d e : Nat} {a0 a1 b1 : Int} (H : SL σ τ) : lr (RF d 3 σ [a0, a1]) (RF e 3 τ [a0, b1]) (fun r s => r = s) := by
  cases d with
  | zero => exact lr_none
  | succ d =>
    cases e with
    | zero => exact fun y1 y2 _ h2 => by cases h2
    | succ e =>
      rw [RF_s, RF_s]
      refine lr_fin ?_
      rw [rb_wrong, rb_wrong]
      unfold pf_wrong_0
      refine lr_gi H rfl (fun _ => ?_)
      refine lr_if (fun _ => ?_) (fun _ => ?_)
      · refine lr_pi H (Or.inl rfl) (fun _ _ H_1 => ?_)
        refine lr_pi H_1 (Or.inr rfl) (fun _ _ H_2 => ?_)
        exact lr_some H_2 rfl
      · exact lr_some H rfl
theorem l_isSign {d e : Nat} {a0 : Int} (H : SL σ τ) : lr (RF d 13 σ [a0]) (RF e 13 τ [a0]) (fun r s => r = s) := by
  cases d with
  | zero => exact lr_none
  | succ d =>
    cases e with
    | zero => exact fun y1 y2 _ h2 => by cases h2
    | succ e =>
      rw [RF_s, RF_s]
      refine lr_fin ?_
      rw [rb_isSign, rb_isSign]
      unfold pf_isSign_0
      show lr (if ¬ σ.1 7 = 2 then _ else _) (if ¬ τ.1 7 = 2 then _ else _) _
      have e7 := H.1 7 rfl
      rw [← e7]
      refine lr_if (fun _ => lr_bo (lr_some H rfl)) (fun c => ?_)
      have e8 := H.2.2.1 (Decidable.not_not.mp c)
      show lr (if ¬ σ.1 8 = a0 then _ else _) (if ¬ τ.1 8 = a0 then _ else _) _
      rw [← e8]
      exact lr_if (fun _ => lr_bo (lr_some H rfl)) (fun _ => lr_bo (lr_some H rfl))
theorem l_isName {d e : Nat} (H : SL σ τ) : lr (RF d 14 σ []) (RF e 14 τ []) (fun r s => r = s) := by
  cases d with
  | zero => exact lr_none
  | succ d =>
    cases e with
    | zero => exact fun y1 y2 _ h2 => by cases h2
    | succ e =>
      rw [RF_s, RF_s]
      refine lr_fin ?_
      rw [rb_isName, rb_isName]
      unfold pf_isName_0
      refine lr_gi H rfl (fun _ => ?_)
      refine lr_if (fun _ => ?_) (fun _ => ?_)
      · refine lr_bo ?_
        exact lr_some H rfl
      · refine lr_gi H rfl (fun _ => ?_)
        refine lr_if (fun _ => ?_) (fun _ => ?_)
        · refine lr_bo ?_
          exact lr_some H rfl
        · refine lr_bo ?_
          exact lr_some H rfl
theorem l_cant {d e : Nat} (H : SL σ τ) : lr (RF d 15 σ []) (RF e 15 τ []) (fun r s => r = s) := by
  cases d with
  | zero => exact lr_none
  | succ d =>
    cases e with
    | zero => exact fun y1 y2 _ h2 => by cases h2
    | succ e =>
      rw [RF_s, RF_s]
      refine lr_fin ?_
      rw [rb_cant, rb_cant]
      unfold pf_cant_0
      refine lr_gi H rfl (fun _ => ?_)
      refine lr_cl (l_wrong H) (fun _ _ _ _ H_1 hv => ?_)
      cases hv
      exact lr_some H_1 rfl
theorem l_need {d e : Nat} {a0 : Int} (H : SL σ τ) : lr (RF d 16 σ [a0]) (RF e 16 τ [a0]) (fun r s => r = s) := by
  cases d with
  | zero => exact lr_none
  | succ d =>
    cases e with
    | zero => exact fun y1 y2 _ h2 => by cases h2
    | succ e =>
      rw [RF_s, RF_s]
      refine lr_fin ?_
      rw [rb_need, rb_need]
      unfold pf_need_0
      refine lr_cl (l_isSign H) (fun _ _ _ _ H_1 hv => ?_)
      cases hv
      refine lr_if (fun _ => ?_) (fun _ => ?_)
      · refine lr_cl (l_cant H_1) (fun _ _ _ _ H_2 hv => ?_)
        cases hv
        exact lr_some H_2 rfl
      · refine lr_cl (l_next H_1) (fun _ _ _ _ H_3 hv => ?_)
        cases hv
        exact lr_some H_3 rfl
theorem l_needWord {d e : Nat} {a0 : Int} (H : SL σ τ) : lr (RF d 17 σ [a0]) (RF e 17 τ [a0]) (fun r s => r = s) := by
  cases d with
  | zero => exact lr_none
  | succ d =>
    cases e with
    | zero => exact fun y1 y2 _ h2 => by cases h2
    | succ e =>
      rw [RF_s, RF_s]
      refine lr_fin ?_
      rw [rb_needWord, rb_needWord]
      unfold pf_needWord_0
      refine lr_gi H rfl (fun _ => ?_)
      refine lr_if (fun _ => ?_) (fun _ => ?_)
      · unfold pf_needWord_23
        refine lr_cl (l_cant H) (fun _ _ _ _ H_1 hv => ?_)
        cases hv
        exact lr_some H_1 rfl
      · refine lr_gi H rfl (fun _ => ?_)
        refine lr_if (fun _ => ?_) (fun _ => ?_)
        · unfold pf_needWord_23
          refine lr_cl (l_cant H) (fun _ _ _ _ H_2 hv => ?_)
          cases hv
          exact lr_some H_2 rfl
        · refine lr_cl (l_next H) (fun _ _ _ _ H_3 hv => ?_)
          cases hv
          exact lr_some H_3 rfl
theorem l_beginsAtom {d e : Nat} (H : SL σ τ) : lr (RF d 22 σ []) (RF e 22 τ []) (fun r s => r = s) := by
  cases d with
  | zero => exact lr_none
  | succ d =>
    cases e with
    | zero => exact fun y1 y2 _ h2 => by cases h2
    | succ e =>
      rw [RF_s, RF_s]
      refine lr_fin ?_
      rw [rb_beginsAtom, rb_beginsAtom]
      unfold pf_beginsAtom_0
      refine lr_cl (l_isName H) (fun _ _ _ _ H_1 hv => ?_)
      cases hv
      refine lr_if (fun _ => ?_) (fun _ => ?_)
      · refine lr_bo ?_
        exact lr_some H_1 rfl
      · refine lr_cl (l_isSign H_1) (fun _ _ _ _ H_2 hv => ?_)
        cases hv
        refine lr_if (fun _ => ?_) (fun _ => ?_)
        · refine lr_bo ?_
          exact lr_some H_2 rfl
        · refine lr_bo ?_
          exact lr_some H_2 rfl
end RK2
