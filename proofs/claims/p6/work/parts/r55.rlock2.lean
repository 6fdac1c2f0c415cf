section RK2
variable {σ τ : RS}
theorem l_wrong {d e : Nat} {a0 a1 b1 : Int} (H : SL σ τ) : lr (RF d 3 σ [a0, a1]) (RF e 3 τ [a0, b1]) (fun r s => r = s) := by
  cases d with
  | zero => exact lr_none
  | succ d =>
    cases e with
    | zero => exact fun y1 y2 _ h2 => by cases h2
    | succ e =>
      rw [RF_s, RF_s]
      refine lr_fin ?_
      rw [rb_wrong, rb_wrong]
      unfold pf_wrong_0
      refine lr_gi H rfl (fun _ => ?_)
      refine lr_if (fun _ => ?_) (fun _ => ?_)
      · refine lr_pi H (Or.inl rfl) (fun _ _ H_1 => ?_)
        refine lr_pi H_1 (Or.inr rfl) (fun _ _ H_2 => ?_)
        exact lr_some H_2 rfl
      · exact lr_some H rfl
theorem l_byteAt {d e : Nat} {a0 : Int} (H : SL σ τ) : lr (RF d 7 σ [a0]) (RF e 7 τ [a0]) (fun r s => r = s) := by
  cases d with
  | zero => exact lr_none
  | succ d =>
    cases e with
    | zero => exact fun y1 y2 _ h2 => by cases h2
    | succ e =>
      rw [RF_s, RF_s]
      refine lr_fin ?_
      rw [rb_byteAt, rb_byteAt]
      unfold pf_byteAt_0
      refine lr_gi H rfl (fun _ => ?_)
      refine lr_if (fun _ => ?_) (fun _ => ?_)
      · exact lr_some H rfl
      · refine lr_rd H (fun _ => ?_)
        exact lr_some H rfl
theorem l_isLetter {d e : Nat} {a0 : Int} (H : SL σ τ) : lr (RF d 8 σ [a0]) (RF e 8 τ [a0]) (fun r s => r = s) := by
  cases d with
  | zero => exact lr_none
  | succ d =>
    cases e with
    | zero => exact fun y1 y2 _ h2 => by cases h2
    | succ e =>
      rw [RF_s, RF_s]
      refine lr_fin ?_
      rw [rb_isLetter, rb_isLetter]
      unfold pf_isLetter_0
      refine lr_if (fun _ => ?_) (fun _ => ?_)
      · unfold pf_isLetter_12
        refine lr_if (fun _ => ?_) (fun _ => ?_)
        · refine lr_bo ?_
          exact lr_some H rfl
        · refine lr_if (fun _ => ?_) (fun _ => ?_)
          · refine lr_bo ?_
            exact lr_some H rfl
          · refine lr_bo ?_
            exact lr_some H rfl
      · refine lr_if (fun _ => ?_) (fun _ => ?_)
        · refine lr_bo ?_
          exact lr_some H rfl
        · unfold pf_isLetter_12
          refine lr_if (fun _ => ?_) (fun _ => ?_)
          · refine lr_bo ?_
            exact lr_some H rfl
          · refine lr_if (fun _ => ?_) (fun _ => ?_)
            · refine lr_bo ?_
              exact lr_some H rfl
            · refine lr_bo ?_
              exact lr_some H rfl
theorem l_goesOn {d e : Nat} {a0 : Int} (H : SL σ τ) : lr (RF d 9 σ [a0]) (RF e 9 τ [a0]) (fun r s => r = s) := by
  cases d with
  | zero => exact lr_none
  | succ d =>
    cases e with
    | zero => exact fun y1 y2 _ h2 => by cases h2
    | succ e =>
      rw [RF_s, RF_s]
      refine lr_fin ?_
      rw [rb_goesOn, rb_goesOn]
      unfold pf_goesOn_0
      refine lr_cl (l_isLetter H) (fun _ _ _ _ H_1 hv => ?_)
      cases hv
      refine lr_if (fun _ => ?_) (fun _ => ?_)
      · refine lr_bo ?_
        exact lr_some H_1 rfl
      · refine lr_if (fun _ => ?_) (fun _ => ?_)
        · unfold pf_goesOn_19
          refine lr_if (fun _ => ?_) (fun _ => ?_)
          · refine lr_bo ?_
            exact lr_some H_1 rfl
          · refine lr_bo ?_
            exact lr_some H_1 rfl
        · refine lr_if (fun _ => ?_) (fun _ => ?_)
          · refine lr_bo ?_
            exact lr_some H_1 rfl
          · unfold pf_goesOn_19
            refine lr_if (fun _ => ?_) (fun _ => ?_)
            · refine lr_bo ?_
              exact lr_some H_1 rfl
            · refine lr_bo ?_
              exact lr_some H_1 rfl
theorem lw_isWord_29 {d e : Nat} : ∀ {n : Nat} {σ τ : RS} {a0 a1 a2 : Int}, SL σ τ → lr (pf_isWord_29 (RF d) n σ a0 a1 a2) (pf_isWord_29 (RF e) n τ a0 a1 a2) (fun r s => r = s) := by
  intro n
  induction n with
  | zero => intros; exact lr_none
  | succ n ih =>
    intro σ τ a0 a1 a2 H
    unfold pf_isWord_29
    refine lr_if (fun _ => ?_) (fun _ => ?_)
    · refine lr_bo ?_
      exact lr_some H rfl
    · refine lr_gi H rfl (fun _ => ?_)
      refine lr_gi H rfl (fun _ => ?_)
      refine lr_ck (fun _ => ?_)
      refine lr_if (fun _ => ?_) (fun _ => ?_)
      · refine lr_bo ?_
        exact lr_some H rfl
      · refine lr_ws (fun _ => ?_)
        refine lr_sC (fun _ => ?_)
        refine lr_gi H rfl (fun _ => ?_)
        refine lr_ck (fun _ => ?_)
        refine lr_rd H (fun _ => ?_)
        refine lr_if (fun _ => ?_) (fun _ => ?_)
        · unfold pf_isWord_75
          refine lr_ck (fun _ => ?_)
          exact ih H
        · unfold pf_isWord_75
          refine lr_ck (fun _ => ?_)
          exact ih H
theorem l_isWord {d e : Nat} {a0 : Int} (H : SL σ τ) : lr (RF d 11 σ [a0]) (RF e 11 τ [a0]) (fun r s => r = s) := by
  cases d with
  | zero => exact lr_none
  | succ d =>
    cases e with
    | zero => exact fun y1 y2 _ h2 => by cases h2
    | succ e =>
      rw [RF_s, RF_s]
      refine lr_fin ?_
      show lr (if 3 ≤ d then pf_isWord_0 (RF d) σ a0 else none) (if 3 ≤ e then pf_isWord_0 (RF e) τ a0 else none) _
      refine lr_ij ?_ (fun y1 y2 _ h2 => by cases h2) lr_none lr_none
      unfold pf_isWord_0
      refine lr_ws (fun _ => ?_)
      refine lr_sL (fun _ => ?_)
      refine lr_gi H rfl (fun _ => ?_)
      refine lr_gi H rfl (fun _ => ?_)
      refine lr_ck (fun _ => ?_)
      refine lr_if (fun _ => ?_) (fun _ => ?_)
      · unfold pf_isWord_26
        exact lw_isWord_29 H
      · unfold pf_isWord_26
        exact lw_isWord_29 H
theorem l_readSign {d e : Nat} {a0 : Int} (H : SL σ τ) : lr (RF d 12 σ [a0]) (RF e 12 τ [a0]) (fun r s => r = s) := by
  cases d with
  | zero => exact lr_none
  | succ d =>
    cases e with
    | zero => exact fun y1 y2 _ h2 => by cases h2
    | succ e =>
      rw [RF_s, RF_s]
      refine lr_fin ?_
      rw [rb_readSign, rb_readSign]
      unfold pf_readSign_0
      refine lr_pi H (Or.inl rfl) (fun _ _ H_1 => ?_)
      refine lr_pi H_1 (Or.inl rfl) (fun _ _ H_2 => ?_)
      refine lr_gi H_2 rfl (fun _ => ?_)
      refine lr_ck (fun _ => ?_)
      refine lr_pi H_2 (Or.inl rfl) (fun _ _ H_3 => ?_)
      refine lr_if (fun _ => ?_) (fun _ => ?_)
      · unfold pf_readSign_59
        refine lr_if (fun _ => ?_) (fun _ => ?_)
        · unfold pf_readSign_98
          refine lr_if (fun _ => ?_) (fun _ => ?_)
          · exact lr_some H_3 rfl
          · refine lr_if (fun _ => ?_) (fun _ => ?_)
            · exact lr_some H_3 rfl
            · refine lr_if (fun _ => ?_) (fun _ => ?_)
              · exact lr_some H_3 rfl
              · refine lr_if (fun _ => ?_) (fun _ => ?_)
                · exact lr_some H_3 rfl
                · refine lr_if (fun _ => ?_) (fun _ => ?_)
                  · exact lr_some H_3 rfl
                  · refine lr_if (fun _ => ?_) (fun _ => ?_)
                    · exact lr_some H_3 rfl
                    · refine lr_if (fun _ => ?_) (fun _ => ?_)
                      · exact lr_some H_3 rfl
                      · refine lr_if (fun _ => ?_) (fun _ => ?_)
                        · exact lr_some H_3 rfl
                        · refine lr_pi H_3 (Or.inl rfl) (fun _ _ H_4 => ?_)
                          exact lr_some H_4 rfl
        · refine lr_gi H_3 rfl (fun _ => ?_)
          refine lr_cl (l_byteAt H_3) (fun _ _ _ _ H_5 hv => ?_)
          cases hv
          refine lr_if (fun _ => ?_) (fun _ => ?_)
          · unfold pf_readSign_98
            refine lr_if (fun _ => ?_) (fun _ => ?_)
            · exact lr_some H_5 rfl
            · refine lr_if (fun _ => ?_) (fun _ => ?_)
              · exact lr_some H_5 rfl
              · refine lr_if (fun _ => ?_) (fun _ => ?_)
                · exact lr_some H_5 rfl
                · refine lr_if (fun _ => ?_) (fun _ => ?_)
                  · exact lr_some H_5 rfl
                  · refine lr_if (fun _ => ?_) (fun _ => ?_)
                    · exact lr_some H_5 rfl
                    · refine lr_if (fun _ => ?_) (fun _ => ?_)
                      · exact lr_some H_5 rfl
                      · refine lr_if (fun _ => ?_) (fun _ => ?_)
                        · exact lr_some H_5 rfl
                        · refine lr_if (fun _ => ?_) (fun _ => ?_)
                          · exact lr_some H_5 rfl
                          · refine lr_pi H_5 (Or.inl rfl) (fun _ _ H_6 => ?_)
                            exact lr_some H_6 rfl
          · refine lr_pi H_5 (Or.inl rfl) (fun _ _ H_7 => ?_)
            refine lr_gi H_7 rfl (fun _ => ?_)
            refine lr_ck (fun _ => ?_)
            refine lr_pi H_7 (Or.inl rfl) (fun _ _ H_8 => ?_)
            exact lr_some H_8 rfl
      · refine lr_gi H_3 rfl (fun _ => ?_)
        refine lr_cl (l_byteAt H_3) (fun _ _ _ _ H_9 hv => ?_)
        cases hv
        refine lr_if (fun _ => ?_) (fun _ => ?_)
        · unfold pf_readSign_59
          refine lr_if (fun _ => ?_) (fun _ => ?_)
          · unfold pf_readSign_98
            refine lr_if (fun _ => ?_) (fun _ => ?_)
            · exact lr_some H_9 rfl
            · refine lr_if (fun _ => ?_) (fun _ => ?_)
              · exact lr_some H_9 rfl
              · refine lr_if (fun _ => ?_) (fun _ => ?_)
                · exact lr_some H_9 rfl
                · refine lr_if (fun _ => ?_) (fun _ => ?_)
                  · exact lr_some H_9 rfl
                  · refine lr_if (fun _ => ?_) (fun _ => ?_)
                    · exact lr_some H_9 rfl
                    · refine lr_if (fun _ => ?_) (fun _ => ?_)
                      · exact lr_some H_9 rfl
                      · refine lr_if (fun _ => ?_) (fun _ => ?_)
                        · exact lr_some H_9 rfl
                        · refine lr_if (fun _ => ?_) (fun _ => ?_)
                          · exact lr_some H_9 rfl
                          · refine lr_pi H_9 (Or.inl rfl) (fun _ _ H_10 => ?_)
                            exact lr_some H_10 rfl
          · refine lr_gi H_9 rfl (fun _ => ?_)
            refine lr_cl (l_byteAt H_9) (fun _ _ _ _ H_11 hv => ?_)
            cases hv
            refine lr_if (fun _ => ?_) (fun _ => ?_)
            · unfold pf_readSign_98
              refine lr_if (fun _ => ?_) (fun _ => ?_)
              · exact lr_some H_11 rfl
              · refine lr_if (fun _ => ?_) (fun _ => ?_)
                · exact lr_some H_11 rfl
                · refine lr_if (fun _ => ?_) (fun _ => ?_)
                  · exact lr_some H_11 rfl
                  · refine lr_if (fun _ => ?_) (fun _ => ?_)
                    · exact lr_some H_11 rfl
                    · refine lr_if (fun _ => ?_) (fun _ => ?_)
                      · exact lr_some H_11 rfl
                      · refine lr_if (fun _ => ?_) (fun _ => ?_)
                        · exact lr_some H_11 rfl
                        · refine lr_if (fun _ => ?_) (fun _ => ?_)
                          · exact lr_some H_11 rfl
                          · refine lr_if (fun _ => ?_) (fun _ => ?_)
                            · exact lr_some H_11 rfl
                            · refine lr_pi H_11 (Or.inl rfl) (fun _ _ H_12 => ?_)
                              exact lr_some H_12 rfl
            · refine lr_pi H_11 (Or.inl rfl) (fun _ _ H_13 => ?_)
              refine lr_gi H_13 rfl (fun _ => ?_)
              refine lr_ck (fun _ => ?_)
              refine lr_pi H_13 (Or.inl rfl) (fun _ _ H_14 => ?_)
              exact lr_some H_14 rfl
        · refine lr_pi H_9 (Or.inl rfl) (fun _ _ H_15 => ?_)
          refine lr_gi H_15 rfl (fun _ => ?_)
          refine lr_ck (fun _ => ?_)
          refine lr_pi H_15 (Or.inl rfl) (fun _ _ H_16 => ?_)
          exact lr_some H_16 rfl
theorem l_isSign {d e : Nat} {a0 : Int} (H : SL σ τ) : lr (RF d 13 σ [a0]) (RF e 13 τ [a0]) (fun r s => r = s) := by
  cases d with
  | zero => exact lr_none
  | succ d =>
    cases e with
    | zero => exact fun y1 y2 _ h2 => by cases h2
    | succ e =>
      rw [RF_s, RF_s]
      refine lr_fin ?_
      rw [rb_isSign, rb_isSign]
      unfold pf_isSign_0
      refine lr_gi H rfl (fun _ => ?_)
      refine lr_if (fun _ => ?_) (fun _ => ?_)
      · refine lr_bo ?_
        exact lr_some H rfl
      · refine lr_gi H rfl (fun _ => ?_)
        refine lr_if (fun _ => ?_) (fun _ => ?_)
        · refine lr_bo ?_
          exact lr_some H rfl
        · refine lr_bo ?_
          exact lr_some H rfl
theorem l_isName {d e : Nat} (H : SL σ τ) : lr (RF d 14 σ []) (RF e 14 τ []) (fun r s => r = s) := by
  cases d with
  | zero => exact lr_none
  | succ d =>
    cases e with
    | zero => exact fun y1 y2 _ h2 => by cases h2
    | succ e =>
      rw [RF_s, RF_s]
      refine lr_fin ?_
      rw [rb_isName, rb_isName]
      unfold pf_isName_0
      refine lr_gi H rfl (fun _ => ?_)
      refine lr_if (fun _ => ?_) (fun _ => ?_)
      · refine lr_bo ?_
        exact lr_some H rfl
      · refine lr_gi H rfl (fun _ => ?_)
        refine lr_if (fun _ => ?_) (fun _ => ?_)
        · refine lr_bo ?_
          exact lr_some H rfl
        · refine lr_bo ?_
          exact lr_some H rfl
theorem lw_next_235 {d e : Nat} : ∀ {n : Nat} {σ τ : RS} {a0 : Int}, SL σ τ → lr (pf_next_235 (RF d) n σ a0) (pf_next_235 (RF e) n τ a0) (fun r s => r = s) := by
  intro n
  induction n with
  | zero => intros; exact lr_none
  | succ n ih =>
    intro σ τ a0 H
    unfold pf_next_235
    refine lr_if (fun _ => ?_) (fun _ => ?_)
    · refine lr_gi H rfl (fun _ => ?_)
      refine lr_gi H rfl (fun _ => ?_)
      refine lr_ck (fun _ => ?_)
      refine lr_if (fun _ => ?_) (fun _ => ?_)
      · exact lr_some H rfl
      · refine lr_gi H rfl (fun _ => ?_)
        refine lr_cl (l_wrong H) (fun _ _ _ _ H_1 hv => ?_)
        cases hv
        exact lr_some H_1 rfl
    · refine lr_cl (l_isWord H) (fun _ _ _ _ H_2 hv => ?_)
      cases hv
      refine lr_if (fun _ => ?_) (fun _ => ?_)
      · unfold pf_next_254
        refine lr_ck (fun _ => ?_)
        exact ih H_2
      · refine lr_pi H_2 (Or.inl rfl) (fun _ _ H_3 => ?_)
        unfold pf_next_254
        refine lr_ck (fun _ => ?_)
        exact ih H_3
theorem lw_next_193 {d e : Nat} : ∀ {n : Nat} {σ τ : RS}, SL σ τ → lr (pf_next_193 (RF d) n σ ) (pf_next_193 (RF e) n τ ) (fun r s => r = s) := by
  intro n
  induction n with
  | zero => intros; exact lr_none
  | succ n ih =>
    intro σ τ  H
    unfold pf_next_193
    refine lr_gi H rfl (fun _ => ?_)
    refine lr_cl (l_byteAt H) (fun _ _ _ _ H_1 hv => ?_)
    cases hv
    refine lr_cl (l_goesOn H_1) (fun _ _ _ _ H_2 hv => ?_)
    cases hv
    refine lr_if (fun _ => ?_) (fun _ => ?_)
    · refine lr_pi H_2 (Or.inl rfl) (fun _ _ H_3 => ?_)
      refine lr_gi H_3 rfl (fun _ => ?_)
      refine lr_pi H_3 (Or.inl rfl) (fun _ _ H_4 => ?_)
      exact lw_next_235 H_4
    · refine lr_gi H_2 rfl (fun _ => ?_)
      refine lr_ck (fun _ => ?_)
      refine lr_pi H_2 (Or.inl rfl) (fun _ _ H_5 => ?_)
      exact ih H_5
theorem lw_next_73 {d e : Nat} {k2 k2' : RS → Int → RO} (hk2 : ∀ {σ τ : RS} {z : Int}, SL σ τ → lr (k2 σ z) (k2' τ z) (fun r s => r = s)) : ∀ {n : Nat} {σ τ : RS} {a0 a1 : Int}, SL σ τ → lr (pf_next_73 (RF d) k2 n σ a0 a1) (pf_next_73 (RF e) k2' n τ a0 a1) (fun r s => r = s) := by
  intro n
  induction n with
  | zero => intros; exact lr_none
  | succ n ih =>
    intro σ τ a0 a1 H
    unfold pf_next_73
    refine lr_gi H rfl (fun _ => ?_)
    refine lr_gi H rfl (fun _ => ?_)
    refine lr_if (fun _ => ?_) (fun _ => ?_)
    · unfold pf_next_111
      refine lr_gi H rfl (fun _ => ?_)
      refine lr_gi H rfl (fun _ => ?_)
      refine lr_if (fun _ => ?_) (fun _ => ?_)
      · refine lr_gi H rfl (fun _ => ?_)
        refine lr_ck (fun _ => ?_)
        refine lr_pi H (Or.inl rfl) (fun _ _ H_1 => ?_)
        exact hk2 H_1
      · refine lr_pi H (Or.inl rfl) (fun _ _ H_2 => ?_)
        refine lr_pi H_2 (Or.inl rfl) (fun _ _ H_3 => ?_)
        refine lr_pi H_3 (Or.inl rfl) (fun _ _ H_4 => ?_)
        exact lr_some H_4 rfl
    · refine lr_gi H rfl (fun _ => ?_)
      refine lr_rd H (fun _ => ?_)
      refine lr_if (fun _ => ?_) (fun _ => ?_)
      · unfold pf_next_111
        refine lr_gi H rfl (fun _ => ?_)
        refine lr_gi H rfl (fun _ => ?_)
        refine lr_if (fun _ => ?_) (fun _ => ?_)
        · refine lr_gi H rfl (fun _ => ?_)
          refine lr_ck (fun _ => ?_)
          refine lr_pi H (Or.inl rfl) (fun _ _ H_5 => ?_)
          exact hk2 H_5
        · refine lr_pi H (Or.inl rfl) (fun _ _ H_6 => ?_)
          refine lr_pi H_6 (Or.inl rfl) (fun _ _ H_7 => ?_)
          refine lr_pi H_7 (Or.inl rfl) (fun _ _ H_8 => ?_)
          exact lr_some H_8 rfl
      · refine lr_gi H rfl (fun _ => ?_)
        refine lr_ck (fun _ => ?_)
        refine lr_pi H (Or.inl rfl) (fun _ _ H_9 => ?_)
        exact ih H_9
theorem lw_next_6 {d e : Nat} {k2 k2' : RS → Int → RO} (hk2 : ∀ {σ τ : RS} {z : Int}, SL σ τ → lr (k2 σ z) (k2' τ z) (fun r s => r = s)) : ∀ {n : Nat} {σ τ : RS}, SL σ τ → lr (pf_next_6 (RF d) k2 n σ ) (pf_next_6 (RF e) k2' n τ ) (fun r s => r = s) := by
  intro n
  induction n with
  | zero => intros; exact lr_none
  | succ n ih =>
    intro σ τ  H
    unfold pf_next_6
    refine lr_gi H rfl (fun _ => ?_)
    refine lr_cl (l_byteAt H) (fun _ _ _ _ H_1 hv => ?_)
    cases hv
    refine lr_if (fun _ => ?_) (fun _ => ?_)
    · unfold pf_next_32
      refine lr_gi H_1 rfl (fun _ => ?_)
      refine lr_ck (fun _ => ?_)
      refine lr_pi H_1 (Or.inl rfl) (fun _ _ H_2 => ?_)
      exact ih H_2
    · refine lr_gi H_1 rfl (fun _ => ?_)
      refine lr_cl (l_byteAt H_1) (fun _ _ _ _ H_3 hv => ?_)
      cases hv
      refine lr_if (fun _ => ?_) (fun _ => ?_)
      · refine lr_gi H_3 rfl (fun _ => ?_)
        refine lr_cl (l_byteAt H_3) (fun _ _ _ _ H_4 hv => ?_)
        cases hv
        refine lr_if (fun _ => ?_) (fun _ => ?_)
        · unfold pf_next_63
          refine lr_if (fun _ => ?_) (fun _ => ?_)
          · exact hk2 H_4
          · refine lr_gi H_4 rfl (fun _ => ?_)
            exact lw_next_73 (k2 := k2) (k2' := k2') (fun h => hk2 h) H_4
        · unfold pf_next_63
          refine lr_if (fun _ => ?_) (fun _ => ?_)
          · exact hk2 H_4
          · refine lr_gi H_4 rfl (fun _ => ?_)
            exact lw_next_73 (k2 := k2) (k2' := k2') (fun h => hk2 h) H_4
      · unfold pf_next_32
        refine lr_gi H_3 rfl (fun _ => ?_)
        refine lr_ck (fun _ => ?_)
        refine lr_pi H_3 (Or.inl rfl) (fun _ _ H_5 => ?_)
        exact ih H_5
theorem lw_next_2 {d e : Nat} : ∀ {n : Nat} {σ τ : RS} {a0 : Int}, SL σ τ → lr (pf_next_2 (RF d) n σ a0) (pf_next_2 (RF e) n τ a0) (fun r s => r = s) := by
  intro n
  induction n with
  | zero => intros; exact lr_none
  | succ n ih =>
    intro σ τ a0 H
    unfold pf_next_2
    refine lr_if (fun _ => ?_) (fun _ => ?_)
    · refine lr_gi H rfl (fun _ => ?_)
      refine lr_pi H (Or.inl rfl) (fun _ _ H_1 => ?_)
      refine lr_gi H_1 rfl (fun _ => ?_)
      refine lr_cl (l_byteAt H_1) (fun _ _ _ _ H_2 hv => ?_)
      cases hv
      refine lr_pi H_2 (Or.inl rfl) (fun _ _ H_3 => ?_)
      refine lr_if (fun _ => ?_) (fun _ => ?_)
      · refine lr_cl (l_isLetter H_3) (fun _ _ _ _ H_4 hv => ?_)
        cases hv
        refine lr_if (fun _ => ?_) (fun _ => ?_)
        · refine lr_cl (l_readSign H_4) (fun _ _ _ _ H_5 hv => ?_)
          cases hv
          exact lr_some H_5 rfl
        · exact lw_next_193 H_4
      · refine lr_pi H_3 (Or.inl rfl) (fun _ _ H_6 => ?_)
        exact lr_some H_6 rfl
    · exact lw_next_6 (k2 := pf_next_2 (RF d) n) (k2' := pf_next_2 (RF e) n) (fun h => ih h) H
theorem l_next {d e : Nat} (H : SL σ τ) : lr (RF d 10 σ []) (RF e 10 τ []) (fun r s => r = s) := by
  cases d with
  | zero => exact lr_none
  | succ d =>
    cases e with
    | zero => exact fun y1 y2 _ h2 => by cases h2
    | succ e =>
      rw [RF_s, RF_s]
      refine lr_fin ?_
      rw [rb_next, rb_next]
      unfold pf_next_0
      exact lw_next_2 H
theorem l_cant {d e : Nat} (H : SL σ τ) : lr (RF d 15 σ []) (RF e 15 τ []) (fun r s => r = s) := by
  cases d with
  | zero => exact lr_none
  | succ d =>
    cases e with
    | zero => exact fun y1 y2 _ h2 => by cases h2
    | succ e =>
      rw [RF_s, RF_s]
      refine lr_fin ?_
      rw [rb_cant, rb_cant]
      unfold pf_cant_0
      refine lr_gi H rfl (fun _ => ?_)
      refine lr_cl (l_wrong H) (fun _ _ _ _ H_1 hv => ?_)
      cases hv
      exact lr_some H_1 rfl
theorem l_need {d e : Nat} {a0 : Int} (H : SL σ τ) : lr (RF d 16 σ [a0]) (RF e 16 τ [a0]) (fun r s => r = s) := by
  cases d with
  | zero => exact lr_none
  | succ d =>
    cases e with
    | zero => exact fun y1 y2 _ h2 => by cases h2
    | succ e =>
      rw [RF_s, RF_s]
      refine lr_fin ?_
      rw [rb_need, rb_need]
      unfold pf_need_0
      refine lr_cl (l_isSign H) (fun _ _ _ _ H_1 hv => ?_)
      cases hv
      refine lr_if (fun _ => ?_) (fun _ => ?_)
      · refine lr_cl (l_cant H_1) (fun _ _ _ _ H_2 hv => ?_)
        cases hv
        exact lr_some H_2 rfl
      · refine lr_cl (l_next H_1) (fun _ _ _ _ H_3 hv => ?_)
        cases hv
        exact lr_some H_3 rfl
theorem l_needWord {d e : Nat} {a0 : Int} (H : SL σ τ) : lr (RF d 17 σ [a0]) (RF e 17 τ [a0]) (fun r s => r = s) := by
  cases d with
  | zero => exact lr_none
  | succ d =>
    cases e with
    | zero => exact fun y1 y2 _ h2 => by cases h2
    | succ e =>
      rw [RF_s, RF_s]
      refine lr_fin ?_
      rw [rb_needWord, rb_needWord]
      unfold pf_needWord_0
      refine lr_gi H rfl (fun _ => ?_)
      refine lr_if (fun _ => ?_) (fun _ => ?_)
      · unfold pf_needWord_23
        refine lr_cl (l_cant H) (fun _ _ _ _ H_1 hv => ?_)
        cases hv
        exact lr_some H_1 rfl
      · refine lr_gi H rfl (fun _ => ?_)
        refine lr_if (fun _ => ?_) (fun _ => ?_)
        · unfold pf_needWord_23
          refine lr_cl (l_cant H) (fun _ _ _ _ H_2 hv => ?_)
          cases hv
          exact lr_some H_2 rfl
        · refine lr_cl (l_next H) (fun _ _ _ _ H_3 hv => ?_)
          cases hv
          exact lr_some H_3 rfl
theorem l_beginsAtom {d e : Nat} (H : SL σ τ) : lr (RF d 22 σ []) (RF e 22 τ []) (fun r s => r = s) := by
  cases d with
  | zero => exact lr_none
  | succ d =>
    cases e with
    | zero => exact fun y1 y2 _ h2 => by cases h2
    | succ e =>
      rw [RF_s, RF_s]
      refine lr_fin ?_
      rw [rb_beginsAtom, rb_beginsAtom]
      unfold pf_beginsAtom_0
      refine lr_cl (l_isName H) (fun _ _ _ _ H_1 hv => ?_)
      cases hv
      refine lr_if (fun _ => ?_) (fun _ => ?_)
      · refine lr_bo ?_
        exact lr_some H_1 rfl
      · refine lr_cl (l_isSign H_1) (fun _ _ _ _ H_2 hv => ?_)
        cases hv
        refine lr_if (fun _ => ?_) (fun _ => ?_)
        · refine lr_bo ?_
          exact lr_some H_2 rfl
        · refine lr_bo ?_
          exact lr_some H_2 rfl
end RK2
