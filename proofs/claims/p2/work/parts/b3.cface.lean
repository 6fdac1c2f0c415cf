section CFA
variable {bd : cBd} {b d : Nat} {σ σ1 σ2 σ3 : CS} {Q : CS → Nat → Int → Prop} {k s o z : Nat}
/-- THE LIMIT, the marks, the tape -/
def W3 (b : Nat) (σ σ' : CS) : Prop := c_pv σ' (b + 16) 4 = c_pv σ (b + 16) 4 ∧ c_pv σ' (b + 3) 10 = c_pv σ (b + 3) 10 ∧ c_pv σ' (b + 0) 6 = c_pv σ (b + 0) 6
theorem Ext.w {σ' : CS} (E : Ext b σ σ') : W3 b σ σ' := ⟨E.wM, E.mC, E.tL⟩
def PX (bd : cBd) (b : Nat) (k s z : Nat) (kx : Nat) (T : Nat → CS → Int → Prop) (σ' : CS) (kd : Nat) (r : Int) : Prop := inR r ∧ GG bd b σ' ∧ RR bd b σ' k s 0 z ∧ (kd = 0 ∨ kd = kx) ∧ T kd σ' r
theorem fin_X {kx : Nat} {T : Nat → CS → Int → Prop} {p : CO} (h : sf p (PX bd b k s z kx T)) : sf (cc_fin p) (PX bd b k s z kx T) := sf_fin (sf_mono h (fun σ' kd r q => ⟨q.1, q⟩))
theorem ret_X {kx : Nat} {T : Nat → CS → Int → Prop} {r : Int} (hr : inR r) (G : GG bd b σ) (R : RR bd b σ k s 0 z) (t : T 0 σ r) : sf (some (σ, 0, r)) (PX bd b k s z kx T) := sf_some ⟨hr, G, R, Or.inl rfl, t⟩
theorem thr_X {kx : Nat} {T : Nat → CS → Int → Prop} (G : GG bd b σ) (R : RR bd b σ (k + 1) (s + 6) 0 z) (t : T kx (cs_x σ 6) 0) : sf (cc_x σ bd kx) (PX bd b k s z kx T) := by
  have hm := rr_room G R
  have h3 := gg_x G 6
  exact sf_x ⟨hm.1, hm.2.1⟩ ⟨⟨by decide, by decide⟩, h3.1, rr_x R, Or.inr rfl, t⟩
theorem s_outs (hd : 6 ≤ d) (G : GG bd b σ) (R : RR bd b σ (k + 1) (s + 6) 0 z)  : sf (RC bd d 53 σ [((b + 0 : Nat) : Int)]) (PX bd b k s z 3 (fun _ σ' _ => W3 b σ σ')) := by
  obtain ⟨d, rfl⟩ : ∃ d0, d = d0 + 1 := ⟨d - 1, by omega⟩
  rw [rc_X11_outs (by omega)]
  refine fin_X ?_
  unfold pc_X11_outs_0
  refine wgF (G.tg 0) (G.fi 3 (i := 0) (f := 3) (j := 16)) ?_
  refine wgN (G.tg 16) (fun z2_2 hz2_2 => ?_)
  have fz2_2 := G.nu 16 7
  have rz2_2 : inR z2_2 := hz2_2 ▸ G.ir _ _
  exact ret_X (by first | assumption | exact inR_of _ | exact ⟨by omega, by omega⟩) G (R.le (by omega) (by omega) (by omega) (by omega)) (by first | trivial | assumption | omega | (dsimp only; omega) | exact (Ext.refl (b := b) (σ := σ)).w)
theorem s_fault (hd : 6 ≤ d) (G : GG bd b σ) (R : RR bd b σ (k + 1) (s + 6) 0 z) {x : Int} : sf (RC bd d 42 σ [((b + 0 : Nat) : Int), x]) (PX bd b k s z 3 (fun _ σ' _ => W3 b σ σ')) := by
  obtain ⟨d, rfl⟩ : ∃ d0, d = d0 + 1 := ⟨d - 1, by omega⟩
  rw [rc_X11_fault (by omega)]
  refine fin_X ?_
  unfold pc_X11_fault_0
  refine sf_if (fun c1 => ?_) (fun c1 => ?_)
  · refine wgN (G.tg 0) (fun z2_2 hz2_2 => ?_)
    have rz2_2 : inR z2_2 := hz2_2 ▸ G.ir _ _
    exact ret_X (by first | assumption | exact inR_of _ | exact ⟨by omega, by omega⟩) G (R.le (by omega) (by omega) (by omega) (by omega)) (by first | trivial | assumption | omega | (dsimp only; omega) | exact (Ext.refl (b := b) (σ := σ)).w)
  · refine sf_if (fun c3 => ?_) (fun c3 => ?_)
    · refine wgN (G.tg 0) (fun z4_4 hz4_4 => ?_)
      have rz4_4 : inR z4_4 := hz4_4 ▸ G.ir _ _
      exact ret_X (by first | assumption | exact inR_of _ | exact ⟨by omega, by omega⟩) G (R.le (by omega) (by omega) (by omega) (by omega)) (by first | trivial | assumption | omega | (dsimp only; omega) | exact (Ext.refl (b := b) (σ := σ)).w)
    · refine sf_if (fun c5 => ?_) (fun c5 => ?_)
      · refine wgN (G.tg 0) (fun z6_6 hz6_6 => ?_)
        have fz6_6 := G.nu 0 9
        have rz6_6 : inR z6_6 := hz6_6 ▸ G.ir _ _
        exact ret_X (by first | assumption | exact inR_of _ | exact ⟨by omega, by omega⟩) G (R.le (by omega) (by omega) (by omega) (by omega)) (by first | trivial | assumption | omega | (dsimp only; omega) | exact (Ext.refl (b := b) (σ := σ)).w)
      · exact thr_X G (R.le (by omega) (by omega) (by omega) (by omega)) (by first | trivial | assumption | omega | (dsimp only; omega) | exact (Ext.refl (b := b) (σ := σ)).w)
theorem s_out (hd : 6 ≤ d) (G : GG bd b σ) (R : RR bd b σ (k + 1) (s + 6) 0 z) {x : Int} : sf (RC bd d 52 σ [((b + 0 : Nat) : Int), x]) (PX bd b k s z 3 (fun _ σ' _ => W3 b σ σ')) := by
  obtain ⟨d, rfl⟩ : ∃ d0, d = d0 + 1 := ⟨d - 1, by omega⟩
  rw [rc_X11_out (by omega)]
  refine fin_X ?_
  unfold pc_X11_out_0
  refine sf_if (fun c1 => ?_) (fun c1 => ?_)
  · unfold pc_X11_out_27
    exact thr_X G (R.le (by omega) (by omega) (by omega) (by omega)) (by first | trivial | assumption | omega | (dsimp only; omega) | exact (Ext.refl (b := b) (σ := σ)).w)
  · refine wgF (G.tg 0) (G.fi 3 (i := 0) (f := 3) (j := 16)) ?_
    refine wgN (G.tg 16) (fun z3_3 hz3_3 => ?_)
    have fz3_3 := G.nu 16 7
    have rz3_3 : inR z3_3 := hz3_3 ▸ G.ir _ _
    refine sf_if (fun c4 => ?_) (fun c4 => ?_)
    · unfold pc_X11_out_27
      exact thr_X G (R.le (by omega) (by omega) (by omega) (by omega)) (by first | trivial | assumption | omega | (dsimp only; omega) | exact (Ext.refl (b := b) (σ := σ)).w)
    · refine wgF (G.tg 0) (G.fi 3 (i := 0) (f := 3) (j := 16)) ?_
      refine wgF (G.tg 16) (G.fi 21 (i := 16) (f := 6) (j := 18)) ?_
      refine wlN (G.tg 18) (G.ln 18 (n := 3000)) (by decide) (fun z7_7 hz7_7 => ?_)
      refine sf_if (fun c8 => ?_) (fun c8 => ?_)
      · refine wgF (G.tg 0) (G.fi 3 (i := 0) (f := 3) (j := 16)) ?_
        refine wgF (G.tg 16) (G.fi 21 (i := 16) (f := 6) (j := 18)) ?_
        refine wrN (G.tg 18) (G.ln 18 (n := 3000)) ⟨by omega, by omega⟩ (fun z11_11 hz11_11 => ?_)
        have rz11_11 : inR z11_11 := hz11_11 ▸ G.ir _ _
        exact ret_X (by first | assumption | exact inR_of _ | exact ⟨by omega, by omega⟩) G (R.le (by omega) (by omega) (by omega) (by omega)) (by first | trivial | assumption | omega | (dsimp only; omega) | exact (Ext.refl (b := b) (σ := σ)).w)
      · unfold pc_X11_out_27
        exact thr_X G (R.le (by omega) (by omega) (by omega) (by omega)) (by first | trivial | assumption | omega | (dsimp only; omega) | exact (Ext.refl (b := b) (σ := σ)).w)
theorem s_count (hd : 6 ≤ d) (G : GG bd b σ) (R : RR bd b σ (k + 1) (s + 6) 0 z) {x : Int} : sf (RC bd d 40 σ [((b + 0 : Nat) : Int), x]) (PX bd b k s z 3 (fun _ σ' _ => W3 b σ σ')) := by
  obtain ⟨d, rfl⟩ : ∃ d0, d = d0 + 1 := ⟨d - 1, by omega⟩
  rw [rc_X11_count (by omega)]
  refine fin_X ?_
  unfold pc_X11_count_0
  refine sf_if (fun c1 => ?_) (fun c1 => ?_)
  · unfold pc_X11_count_26
    refine sf_if (fun c2 => ?_) (fun c2 => ?_)
    · refine wgF (G.tg 0) (G.fi 3 (i := 0) (f := 3) (j := 16)) ?_
      refine wgN (G.tg 16) (fun z3_4 hz3_4 => ?_)
      have fz3_4 := G.nu 16 3
      have rz3_4 : inR z3_4 := hz3_4 ▸ G.ir _ _
      exact ret_X (by first | assumption | exact inR_of _ | exact ⟨by omega, by omega⟩) G (R.le (by omega) (by omega) (by omega) (by omega)) (by first | trivial | assumption | omega | (dsimp only; omega) | exact (Ext.refl (b := b) (σ := σ)).w)
    · refine sf_if (fun c5 => ?_) (fun c5 => ?_)
      · refine wgF (G.tg 0) (G.fi 2 (i := 0) (f := 2) (j := 3)) ?_
        refine wgF (G.tg 3) (G.fi 9 (i := 3) (f := 5) (j := 9)) ?_
        refine wgN (G.tg 9) (fun z7_8 hz7_8 => ?_)
        have fz7_8 := G.nu 9 2
        have rz7_8 : inR z7_8 := hz7_8 ▸ G.ir _ _
        exact ret_X (by first | assumption | exact inR_of _ | exact ⟨by omega, by omega⟩) G (R.le (by omega) (by omega) (by omega) (by omega)) (by first | trivial | assumption | omega | (dsimp only; omega) | exact (Ext.refl (b := b) (σ := σ)).w)
      · refine sf_if (fun c9 => ?_) (fun c9 => ?_)
        · refine wgF (G.tg 0) (G.fi 2 (i := 0) (f := 2) (j := 3)) ?_
          refine wgF (G.tg 3) (G.fi 6 (i := 3) (f := 0) (j := 4)) ?_
          refine wgN (G.tg 4) (fun z11_12 hz11_12 => ?_)
          have fz11_12 := G.nu 4 2
          have rz11_12 : inR z11_12 := hz11_12 ▸ G.ir _ _
          exact ret_X (by first | assumption | exact inR_of _ | exact ⟨by omega, by omega⟩) G (R.le (by omega) (by omega) (by omega) (by omega)) (by first | trivial | assumption | omega | (dsimp only; omega) | exact (Ext.refl (b := b) (σ := σ)).w)
        · refine sf_if (fun c13 => ?_) (fun c13 => ?_)
          · refine wgF (G.tg 0) (G.fi 2 (i := 0) (f := 2) (j := 3)) ?_
            refine wgN (G.tg 3) (fun z14_15 hz14_15 => ?_)
            have fz14_15 := G.nu 3 3
            have rz14_15 : inR z14_15 := hz14_15 ▸ G.ir _ _
            exact ret_X (by first | assumption | exact inR_of _ | exact ⟨by omega, by omega⟩) G (R.le (by omega) (by omega) (by omega) (by omega)) (by first | trivial | assumption | omega | (dsimp only; omega) | exact (Ext.refl (b := b) (σ := σ)).w)
          · refine sf_if (fun c16 => ?_) (fun c16 => ?_)
            · refine wgF (G.tg 0) (G.fi 2 (i := 0) (f := 2) (j := 3)) ?_
              refine wgN (G.tg 3) (fun z17_18 hz17_18 => ?_)
              have fz17_18 := G.nu 3 4
              have rz17_18 : inR z17_18 := hz17_18 ▸ G.ir _ _
              exact ret_X (by first | assumption | exact inR_of _ | exact ⟨by omega, by omega⟩) G (R.le (by omega) (by omega) (by omega) (by omega)) (by first | trivial | assumption | omega | (dsimp only; omega) | exact (Ext.refl (b := b) (σ := σ)).w)
            · refine sf_if (fun c19 => ?_) (fun c19 => ?_)
              · refine wgF (G.tg 0) (G.fi 2 (i := 0) (f := 2) (j := 3)) ?_
                refine wgN (G.tg 3) (fun z20_21 hz20_21 => ?_)
                have fz20_21 := G.nu 3 10
                have rz20_21 : inR z20_21 := hz20_21 ▸ G.ir _ _
                exact ret_X (by first | assumption | exact inR_of _ | exact ⟨by omega, by omega⟩) G (R.le (by omega) (by omega) (by omega) (by omega)) (by first | trivial | assumption | omega | (dsimp only; omega) | exact (Ext.refl (b := b) (σ := σ)).w)
              · refine sf_if (fun c22 => ?_) (fun c22 => ?_)
                · refine wgN (G.tg 0) (fun z22_23 hz22_23 => ?_)
                  have fz22_23 := G.nu 0 6
                  have rz22_23 : inR z22_23 := hz22_23 ▸ G.ir _ _
                  exact ret_X (by first | assumption | exact inR_of _ | exact ⟨by omega, by omega⟩) G (R.le (by omega) (by omega) (by omega) (by omega)) (by first | trivial | assumption | omega | (dsimp only; omega) | exact (Ext.refl (b := b) (σ := σ)).w)
                · exact thr_X G (R.le (by omega) (by omega) (by omega) (by omega)) (by first | trivial | assumption | omega | (dsimp only; omega) | exact (Ext.refl (b := b) (σ := σ)).w)
  · refine wgF (G.tg 0) (G.fi 3 (i := 0) (f := 3) (j := 16)) ?_
    refine wgF (G.tg 16) (G.fi 20 (i := 16) (f := 2) (j := 17)) ?_
    refine wlN (G.tg 17) (G.ln 17 (n := 7)) (by decide) (fun z4_26 hz4_26 => ?_)
    refine sf_if (fun c27 => ?_) (fun c27 => ?_)
    · unfold pc_X11_count_26
      refine sf_if (fun c28 => ?_) (fun c28 => ?_)
      · refine wgF (G.tg 0) (G.fi 3 (i := 0) (f := 3) (j := 16)) ?_
        refine wgN (G.tg 16) (fun z3_30 hz3_30 => ?_)
        have fz3_30 := G.nu 16 3
        have rz3_30 : inR z3_30 := hz3_30 ▸ G.ir _ _
        exact ret_X (by first | assumption | exact inR_of _ | exact ⟨by omega, by omega⟩) G (R.le (by omega) (by omega) (by omega) (by omega)) (by first | trivial | assumption | omega | (dsimp only; omega) | exact (Ext.refl (b := b) (σ := σ)).w)
      · refine sf_if (fun c31 => ?_) (fun c31 => ?_)
        · refine wgF (G.tg 0) (G.fi 2 (i := 0) (f := 2) (j := 3)) ?_
          refine wgF (G.tg 3) (G.fi 9 (i := 3) (f := 5) (j := 9)) ?_
          refine wgN (G.tg 9) (fun z7_34 hz7_34 => ?_)
          have fz7_34 := G.nu 9 2
          have rz7_34 : inR z7_34 := hz7_34 ▸ G.ir _ _
          exact ret_X (by first | assumption | exact inR_of _ | exact ⟨by omega, by omega⟩) G (R.le (by omega) (by omega) (by omega) (by omega)) (by first | trivial | assumption | omega | (dsimp only; omega) | exact (Ext.refl (b := b) (σ := σ)).w)
        · refine sf_if (fun c35 => ?_) (fun c35 => ?_)
          · refine wgF (G.tg 0) (G.fi 2 (i := 0) (f := 2) (j := 3)) ?_
            refine wgF (G.tg 3) (G.fi 6 (i := 3) (f := 0) (j := 4)) ?_
            refine wgN (G.tg 4) (fun z11_38 hz11_38 => ?_)
            have fz11_38 := G.nu 4 2
            have rz11_38 : inR z11_38 := hz11_38 ▸ G.ir _ _
            exact ret_X (by first | assumption | exact inR_of _ | exact ⟨by omega, by omega⟩) G (R.le (by omega) (by omega) (by omega) (by omega)) (by first | trivial | assumption | omega | (dsimp only; omega) | exact (Ext.refl (b := b) (σ := σ)).w)
          · refine sf_if (fun c39 => ?_) (fun c39 => ?_)
            · refine wgF (G.tg 0) (G.fi 2 (i := 0) (f := 2) (j := 3)) ?_
              refine wgN (G.tg 3) (fun z14_41 hz14_41 => ?_)
              have fz14_41 := G.nu 3 3
              have rz14_41 : inR z14_41 := hz14_41 ▸ G.ir _ _
              exact ret_X (by first | assumption | exact inR_of _ | exact ⟨by omega, by omega⟩) G (R.le (by omega) (by omega) (by omega) (by omega)) (by first | trivial | assumption | omega | (dsimp only; omega) | exact (Ext.refl (b := b) (σ := σ)).w)
            · refine sf_if (fun c42 => ?_) (fun c42 => ?_)
              · refine wgF (G.tg 0) (G.fi 2 (i := 0) (f := 2) (j := 3)) ?_
                refine wgN (G.tg 3) (fun z17_44 hz17_44 => ?_)
                have fz17_44 := G.nu 3 4
                have rz17_44 : inR z17_44 := hz17_44 ▸ G.ir _ _
                exact ret_X (by first | assumption | exact inR_of _ | exact ⟨by omega, by omega⟩) G (R.le (by omega) (by omega) (by omega) (by omega)) (by first | trivial | assumption | omega | (dsimp only; omega) | exact (Ext.refl (b := b) (σ := σ)).w)
              · refine sf_if (fun c45 => ?_) (fun c45 => ?_)
                · refine wgF (G.tg 0) (G.fi 2 (i := 0) (f := 2) (j := 3)) ?_
                  refine wgN (G.tg 3) (fun z20_47 hz20_47 => ?_)
                  have fz20_47 := G.nu 3 10
                  have rz20_47 : inR z20_47 := hz20_47 ▸ G.ir _ _
                  exact ret_X (by first | assumption | exact inR_of _ | exact ⟨by omega, by omega⟩) G (R.le (by omega) (by omega) (by omega) (by omega)) (by first | trivial | assumption | omega | (dsimp only; omega) | exact (Ext.refl (b := b) (σ := σ)).w)
                · refine sf_if (fun c48 => ?_) (fun c48 => ?_)
                  · refine wgN (G.tg 0) (fun z22_49 hz22_49 => ?_)
                    have fz22_49 := G.nu 0 6
                    have rz22_49 : inR z22_49 := hz22_49 ▸ G.ir _ _
                    exact ret_X (by first | assumption | exact inR_of _ | exact ⟨by omega, by omega⟩) G (R.le (by omega) (by omega) (by omega) (by omega)) (by first | trivial | assumption | omega | (dsimp only; omega) | exact (Ext.refl (b := b) (σ := σ)).w)
                  · exact thr_X G (R.le (by omega) (by omega) (by omega) (by omega)) (by first | trivial | assumption | omega | (dsimp only; omega) | exact (Ext.refl (b := b) (σ := σ)).w)
    · refine wgF (G.tg 0) (G.fi 3 (i := 0) (f := 3) (j := 16)) ?_
      refine wgF (G.tg 16) (G.fi 20 (i := 16) (f := 2) (j := 17)) ?_
      refine wrN (G.tg 17) (G.ln 17 (n := 7)) ⟨by omega, by omega⟩ (fun z8_52 hz8_52 => ?_)
      have fz8_52 := G.nu 17 (x : Int).toNat (lo := 0) (hi := 60000)
      have rz8_52 : inR z8_52 := hz8_52 ▸ G.ir _ _
      exact ret_X (by first | assumption | exact inR_of _ | exact ⟨by omega, by omega⟩) G (R.le (by omega) (by omega) (by omega) (by omega)) (by first | trivial | assumption | omega | (dsimp only; omega) | exact (Ext.refl (b := b) (σ := σ)).w)
theorem s_name (hd : 7 ≤ d) (G : GG bd b σ) (R : RR bd b σ (k + 1) (s + 6) 0 z) {x y : Int} (ry : inR y) : sf (RC bd d 48 σ [((b + 0 : Nat) : Int), x, y]) (PX bd b k s z 3 (fun _ σ' _ => W3 b σ σ')) := by
  obtain ⟨d, rfl⟩ : ∃ d0, d = d0 + 1 := ⟨d - 1, by omega⟩
  rw [rc_X11_name (by omega)]
  refine fin_X ?_
  unfold pc_X11_name_0
  have n4_2_σ := G.nu 4 2
  have n9_2_σ := G.nu 9 2
  refine wgF (G.tg 0) (G.fi 2 (i := 0) (f := 2) (j := 3)) ?_
  refine wgF (G.tg 3) (G.fi 9 (i := 3) (f := 5) (j := 9)) ?_
  refine wtN (G.tg 9) ?_
  refine cl_U (s_has9 (by omega) G) (fun z5_4 rz5_4 fz5_4 => ?_)
  refine sf_if (fun c5 => ?_) (fun c5 => ?_)
  · unfold pc_X11_name_18
    exact thr_X G (R.le (by omega) (by omega) (by omega) (by omega)) (by first | trivial | assumption | omega | (dsimp only; omega) | exact (Ext.refl (b := b) (σ := σ)).w)
  · refine sf_if (fun c6 => ?_) (fun c6 => ?_)
    · refine sf_if (fun c7 => ?_) (fun c7 => ?_)
      · refine wgF (G.tg 0) (G.fi 2 (i := 0) (f := 2) (j := 3)) ?_
        refine wgF (G.tg 3) (G.fi 11 (i := 3) (f := 7) (j := 13)) ?_
        refine wrN (G.tg 13) (G.ln 13 (n := 100)) ⟨by omega, by omega⟩ (fun z11_10 hz11_10 => ?_)
        have rz11_10 : inR z11_10 := hz11_10 ▸ G.ir _ _
        refine sf_if (fun c11 => ?_) (fun c11 => ?_)
        · exact ret_X ⟨by decide, by decide⟩ G (R.le (by omega) (by omega) (by omega) (by omega)) (by first | trivial | assumption | omega | (dsimp only; omega) | exact (Ext.refl (b := b) (σ := σ)).w)
        · exact ret_X ⟨by decide, by decide⟩ G (R.le (by omega) (by omega) (by omega) (by omega)) (by first | trivial | assumption | omega | (dsimp only; omega) | exact (Ext.refl (b := b) (σ := σ)).w)
      · refine sf_if (fun c12 => ?_) (fun c12 => ?_)
        · refine wgF (G.tg 0) (G.fi 2 (i := 0) (f := 2) (j := 3)) ?_
          refine wgF (G.tg 3) (G.fi 12 (i := 3) (f := 8) (j := 14)) ?_
          refine wrN (G.tg 14) (G.ln 14 (n := 100)) ⟨by omega, by omega⟩ (fun z16_15 hz16_15 => ?_)
          have rz16_15 : inR z16_15 := hz16_15 ▸ G.ir _ _
          exact ret_X (by first | assumption | exact inR_of _ | exact ⟨by omega, by omega⟩) G (R.le (by omega) (by omega) (by omega) (by omega)) (by first | trivial | assumption | omega | (dsimp only; omega) | exact (Ext.refl (b := b) (σ := σ)).w)
        · refine sf_if (fun c16 => ?_) (fun c16 => ?_)
          · refine wgF (G.tg 0) (G.fi 2 (i := 0) (f := 2) (j := 3)) ?_
            refine wgF (G.tg 3) (G.fi 9 (i := 3) (f := 5) (j := 9)) ?_
            refine wgF (G.tg 9) (G.fi 17 (i := 9) (f := 1) (j := 11)) ?_
            refine wrN (G.tg 11) (G.ln 11 (n := 100)) ⟨by omega, by omega⟩ (fun z21_20 hz21_20 => ?_)
            have fz21_20 := G.nu 11 (x : Int).toNat (lo := 0) (hi := 12)
            have rz21_20 : inR z21_20 := hz21_20 ▸ G.ir _ _
            exact ret_X (by first | assumption | exact inR_of _ | exact ⟨by omega, by omega⟩) G (R.le (by omega) (by omega) (by omega) (by omega)) (by first | trivial | assumption | omega | (dsimp only; omega) | exact (Ext.refl (b := b) (σ := σ)).w)
          · refine wgF (G.tg 0) (G.fi 2 (i := 0) (f := 2) (j := 3)) ?_
            refine wgF (G.tg 3) (G.fi 9 (i := 3) (f := 5) (j := 9)) ?_
            refine wck ⟨by omega, by omega⟩ (fun z24_23 hz24_23 => ?_)
            refine wtN (G.tg 9) ?_
            refine cl_U (s_signOf9 (by omega) G) (fun z27_25 rz27_25 fz27_25 => ?_)
            exact ret_X (by first | assumption | exact inR_of _ | exact ⟨by omega, by omega⟩) G (R.le (by omega) (by omega) (by omega) (by omega)) (by first | trivial | assumption | omega | (dsimp only; omega) | exact (Ext.refl (b := b) (σ := σ)).w)
    · unfold pc_X11_name_18
      exact thr_X G (R.le (by omega) (by omega) (by omega) (by omega)) (by first | trivial | assumption | omega | (dsimp only; omega) | exact (Ext.refl (b := b) (σ := σ)).w)
theorem s_sort (hd : 8 ≤ d) (G : GG bd b σ) (R : RR bd b σ (k + 1) (s + 6) 0 z) {x y : Int} (ry : inR y) : sf (RC bd d 59 σ [((b + 0 : Nat) : Int), x, y]) (PX bd b k s z 3 (fun _ σ' _ => W3 b σ σ')) := by
  obtain ⟨d, rfl⟩ : ∃ d0, d = d0 + 1 := ⟨d - 1, by omega⟩
  rw [rc_X11_sort (by omega)]
  refine fin_X ?_
  unfold pc_X11_sort_0
  have n4_2_σ := G.nu 4 2
  have n9_2_σ := G.nu 9 2
  refine wgF (G.tg 0) (G.fi 2 (i := 0) (f := 2) (j := 3)) ?_
  refine wgF (G.tg 3) (G.fi 6 (i := 3) (f := 0) (j := 4)) ?_
  refine wtN (G.tg 4) ?_
  refine cl_U (s_has4 (by omega) G) (fun z5_4 rz5_4 fz5_4 => ?_)
  refine sf_if (fun c5 => ?_) (fun c5 => ?_)
  · unfold pc_X11_sort_18
    exact thr_X G (R.le (by omega) (by omega) (by omega) (by omega)) (by first | trivial | assumption | omega | (dsimp only; omega) | exact (Ext.refl (b := b) (σ := σ)).w)
  · refine sf_if (fun c6 => ?_) (fun c6 => ?_)
    · refine sf_if (fun c7 => ?_) (fun c7 => ?_)
      · refine wgF (G.tg 0) (G.fi 2 (i := 0) (f := 2) (j := 3)) ?_
        refine wtN (G.tg 3) ?_
        refine cl_U (s_axiomOf (by omega) G) (fun z12_10 rz12_10 fz12_10 => ?_)
        exact ret_X (by first | assumption | exact inR_of _ | exact ⟨by omega, by omega⟩) G (R.le (by omega) (by omega) (by omega) (by omega)) (by first | trivial | assumption | omega | (dsimp only; omega) | exact (Ext.refl (b := b) (σ := σ)).w)
      · refine sf_if (fun c11 => ?_) (fun c11 => ?_)
        · refine wgF (G.tg 0) (G.fi 2 (i := 0) (f := 2) (j := 3)) ?_
          refine wgF (G.tg 3) (G.fi 6 (i := 3) (f := 0) (j := 4)) ?_
          refine wgF (G.tg 4) (G.fi 15 (i := 4) (f := 1) (j := 6)) ?_
          refine wrN (G.tg 6) (G.ln 6 (n := 8)) ⟨by omega, by omega⟩ (fun z17_15 hz17_15 => ?_)
          have fz17_15 := G.nu 6 (x : Int).toNat (lo := 0) (hi := 12)
          have rz17_15 : inR z17_15 := hz17_15 ▸ G.ir _ _
          exact ret_X (by first | assumption | exact inR_of _ | exact ⟨by omega, by omega⟩) G (R.le (by omega) (by omega) (by omega) (by omega)) (by first | trivial | assumption | omega | (dsimp only; omega) | exact (Ext.refl (b := b) (σ := σ)).w)
        · refine wgF (G.tg 0) (G.fi 2 (i := 0) (f := 2) (j := 3)) ?_
          refine wgF (G.tg 3) (G.fi 6 (i := 3) (f := 0) (j := 4)) ?_
          refine wck ⟨by omega, by omega⟩ (fun z20_18 hz20_18 => ?_)
          refine wtN (G.tg 4) ?_
          refine cl_U (s_signOf4 (by omega) G) (fun z23_20 rz23_20 fz23_20 => ?_)
          exact ret_X (by first | assumption | exact inR_of _ | exact ⟨by omega, by omega⟩) G (R.le (by omega) (by omega) (by omega) (by omega)) (by first | trivial | assumption | omega | (dsimp only; omega) | exact (Ext.refl (b := b) (σ := σ)).w)
    · unfold pc_X11_sort_18
      exact thr_X G (R.le (by omega) (by omega) (by omega) (by omega)) (by first | trivial | assumption | omega | (dsimp only; omega) | exact (Ext.refl (b := b) (σ := σ)).w)
theorem s_rule (hd : 7 ≤ d) (G : GG bd b σ) (R : RR bd b σ (k + 1) (s + 6) 0 z) {x y : Int} : sf (RC bd d 56 σ [((b + 0 : Nat) : Int), x, y]) (PX bd b k s z 3 (fun _ σ' _ => W3 b σ σ')) := by
  obtain ⟨d, rfl⟩ : ∃ d0, d = d0 + 1 := ⟨d - 1, by omega⟩
  rw [rc_X11_rule (by omega)]
  refine fin_X ?_
  unfold pc_X11_rule_0
  have n4_2_σ := G.nu 4 2
  have n9_2_σ := G.nu 9 2
  refine wgF (G.tg 0) (G.fi 2 (i := 0) (f := 2) (j := 3)) ?_
  refine wgF (G.tg 3) (G.fi 6 (i := 3) (f := 0) (j := 4)) ?_
  refine wtN (G.tg 4) ?_
  refine cl_U (s_has4 (by omega) G) (fun z5_4 rz5_4 fz5_4 => ?_)
  refine sf_if (fun c5 => ?_) (fun c5 => ?_)
  · unfold pc_X11_rule_28
    exact thr_X G (R.le (by omega) (by omega) (by omega) (by omega)) (by first | trivial | assumption | omega | (dsimp only; omega) | exact (Ext.refl (b := b) (σ := σ)).w)
  · refine wgF (G.tg 0) (G.fi 2 (i := 0) (f := 2) (j := 3)) ?_
    refine wgF (G.tg 3) (G.fi 6 (i := 3) (f := 0) (j := 4)) ?_
    refine wtN (G.tg 4) ?_
    refine cl_U (s_has4 (by omega) G) (fun z11_9 rz11_9 fz11_9 => ?_)
    refine sf_if (fun c10 => ?_) (fun c10 => ?_)
    · refine wgF (G.tg 0) (G.fi 2 (i := 0) (f := 2) (j := 3)) ?_
      refine wtN (G.tg 3) ?_
      refine cl_U (s_ruleOf (by omega) G) (fun z16_13 rz16_13 fz16_13 => ?_)
      exact ret_X (by first | assumption | exact inR_of _ | exact ⟨by omega, by omega⟩) G (R.le (by omega) (by omega) (by omega) (by omega)) (by first | trivial | assumption | omega | (dsimp only; omega) | exact (Ext.refl (b := b) (σ := σ)).w)
    · unfold pc_X11_rule_28
      exact thr_X G (R.le (by omega) (by omega) (by omega) (by omega)) (by first | trivial | assumption | omega | (dsimp only; omega) | exact (Ext.refl (b := b) (σ := σ)).w)
theorem s_type (hd : 116 ≤ d) (G : GG bd b σ) (R : RR bd b σ (k + 1) (s + 6) 0 z) {x : Int} : sf (RC bd d 63 σ [((b + 0 : Nat) : Int), x]) (PX bd b k s z 3 (fun _ σ' _ => W3 b σ σ')) := by
  obtain ⟨d, rfl⟩ : ∃ d0, d = d0 + 1 := ⟨d - 1, by omega⟩
  rw [rc_X11_type (by omega)]
  refine fin_X ?_
  unfold pc_X11_type_0
  have n4_2_σ := G.nu 4 2
  have n9_2_σ := G.nu 9 2
  refine wgF (G.tg 0) (G.fi 2 (i := 0) (f := 2) (j := 3)) ?_
  refine wgF (G.tg 3) (G.fi 9 (i := 3) (f := 5) (j := 9)) ?_
  refine wtN (G.tg 9) ?_
  refine cl_U (s_has9 (by omega) G) (fun z5_4 rz5_4 fz5_4 => ?_)
  refine sf_if (fun c5 => ?_) (fun c5 => ?_)
  · refine wgF (G.tg 0) (G.fi 2 (i := 0) (f := 2) (j := 3)) ?_
    refine wgF (G.tg 3) (G.fi 10 (i := 3) (f := 6) (j := 12)) ?_
    obtain ⟨_, _, hw, hw1, hw2, hw3, hw4⟩ := G.2.2.2.1
    refine wrN (G.tg 12) (G.ln 12 (n := 100)) ⟨by omega, by omega⟩ (fun z9_8 hz9_8 => ?_)
    have rz9_8 : inR z9_8 := hz9_8 ▸ G.ir _ _
    have t_z9_8 : oN σ z9_8 := hz9_8 ▸ hw4 _ (by omega)
    refine wtN (G.tg 0) ?_
    refine cl_Z (s_tellTypeOf (k := k) (s := s) (z := z) (by omega) G (R.le (by omega) (by omega) (by omega) (by omega)) t_z9_8 (by first | assumption | exact ref_R G R t_z9_8.tg (by decide))) (fun s9 z12_10 rz12_10 Gs9 es9 Rs9 fz12_10 => ?_)
    have E11 := (Ext.refl (b := b) (σ := σ)).trans es9
    have n4_2_s9 := Gs9.nu 4 2
    have n9_2_s9 := Gs9.nu 9 2
    exact ret_X (by first | assumption | exact inR_of _ | exact ⟨by omega, by omega⟩) Gs9 (Rs9.le (by omega) (by omega) (by omega) (by omega)) (by first | trivial | assumption | omega | (dsimp only; omega) | exact E11.w)
  · exact thr_X G (R.le (by omega) (by omega) (by omega) (by omega)) (by first | trivial | assumption | omega | (dsimp only; omega) | exact (Ext.refl (b := b) (σ := σ)).w)
theorem s_same (hd : 116 ≤ d) (G : GG bd b σ) (R : RR bd b σ (k + 4) (s + 34) 0 z) {x y : Int} : sf (RC bd d 58 σ [((b + 0 : Nat) : Int), x, y]) (PX bd b k s z 3 (fun _ σ' _ => W3 b σ σ')) := by
  obtain ⟨d, rfl⟩ : ∃ d0, d = d0 + 1 := ⟨d - 1, by omega⟩
  rw [rc_X11_same (by omega)]
  refine fin_X ?_
  unfold pc_X11_same_0
  have n4_2_σ := G.nu 4 2
  have n9_2_σ := G.nu 9 2
  refine wgF (G.tg 0) (G.fi 2 (i := 0) (f := 2) (j := 3)) ?_
  refine wgF (G.tg 3) (G.fi 9 (i := 3) (f := 5) (j := 9)) ?_
  refine wtN (G.tg 9) ?_
  refine cl_U (s_has9 (by omega) G) (fun z5_4 rz5_4 fz5_4 => ?_)
  refine sf_if (fun c5 => ?_) (fun c5 => ?_)
  · unfold pc_X11_same_28
    exact thr_X G (R.le (by omega) (by omega) (by omega) (by omega)) (by first | trivial | assumption | omega | (dsimp only; omega) | exact (Ext.refl (b := b) (σ := σ)).w)
  · refine wgF (G.tg 0) (G.fi 2 (i := 0) (f := 2) (j := 3)) ?_
    refine wgF (G.tg 3) (G.fi 9 (i := 3) (f := 5) (j := 9)) ?_
    refine wtN (G.tg 9) ?_
    refine cl_U (s_has9 (by omega) G) (fun z11_9 rz11_9 fz11_9 => ?_)
    refine sf_if (fun c10 => ?_) (fun c10 => ?_)
    · refine wtN (G.tg 0) ?_
      refine cl_Z (s_compareNames (k := k + 1) (s := s + 6) (z := z) (by omega) G (R.le (by omega) (by omega) (by omega) (by omega)) ⟨by omega, by omega⟩ ⟨by omega, by omega⟩) (fun s11 z15_12 rz15_12 Gs11 es11 Rs11 fz15_12 => ?_)
      have E13 := (Ext.refl (b := b) (σ := σ)).trans es11
      have n4_2_s11 := Gs11.nu 4 2
      have n9_2_s11 := Gs11.nu 9 2
      exact ret_X (by first | assumption | exact inR_of _ | exact ⟨by omega, by omega⟩) Gs11 (Rs11.le (by omega) (by omega) (by omega) (by omega)) (by first | trivial | assumption | omega | (dsimp only; omega) | exact E13.w)
    · unfold pc_X11_same_28
      exact thr_X G (R.le (by omega) (by omega) (by omega) (by omega)) (by first | trivial | assumption | omega | (dsimp only; omega) | exact (Ext.refl (b := b) (σ := σ)).w)
theorem s_limit (hd : 6 ≤ d) (G : GG bd b σ) (R : RR bd b σ (k + 1) (s + 6) 0 z) {x : Int} : sf (RC bd d 46 σ [((b + 0 : Nat) : Int), x]) (PX bd b k s z 2 (fun kd σ' r => (kd = 0 ∧ (1 ≤ x ∧ x ≤ 20000) ∧ r = c_pv σ (b + 16) 4 ∧ c_pv σ' (b + 16) 4 = x ∧ c_pv σ' (b + 3) 10 = c_pv σ (b + 3) 10 ∧ c_pv σ' (b + 0) 6 = c_pv σ (b + 0) 6) ∨ (kd = 2 ∧ ¬ (1 ≤ x ∧ x ≤ 20000) ∧ W3 b σ σ'))) := by
  obtain ⟨d, rfl⟩ : ∃ d0, d = d0 + 1 := ⟨d - 1, by omega⟩
  rw [rc_X11_limit (by omega)]
  refine fin_X ?_
  unfold pc_X11_limit_0
  have hx : ¬ (1 ≤ x ∧ x ≤ 20000) → sf (pc_X11_limit_12 (RC bd d) bd σ) (PX bd b k s z 2 (fun kd σ' r => (kd = 0 ∧ (1 ≤ x ∧ x ≤ 20000) ∧ r = c_pv σ (b + 16) 4 ∧ c_pv σ' (b + 16) 4 = x ∧ c_pv σ' (b + 3) 10 = c_pv σ (b + 3) 10 ∧ c_pv σ' (b + 0) 6 = c_pv σ (b + 0) 6) ∨ (kd = 2 ∧ ¬ (1 ≤ x ∧ x ≤ 20000) ∧ W3 b σ σ'))) := by
    intro q
    unfold pc_X11_limit_12
    exact thr_X G R (Or.inr ⟨rfl, q, rfl, rfl, rfl⟩)
  refine sf_if (fun c => hx (by omega)) (fun c => ?_)
  refine sf_if (fun c2 => ?_) (fun c2 => hx (by omega))
  refine wgF (G.tg 0) (G.fi 3 (i := 0) (f := 3) (j := 16)) ?_
  refine wgN (G.tg 16) (fun z4 q4 => ?_)
  refine wgF (G.tg 0) (G.fi 3 (i := 0) (f := 3) (j := 16)) ?_
  refine wpN (G.tg 16) (fun σ1 w1 => ?_)
  subst w1
  have g1 := gg_put G 16 4 (y := x) ⟨by omega, by omega⟩ (by decide) (by decide) (fun lo hi q => by cases q; exact ⟨by omega, by omega⟩) (Or.inl ⟨by decide, by decide⟩) (hw_put G (by decide))
  exact ret_X (q4 ▸ G.ir _ _) g1 (rr_put (R.le (by omega) (by omega) (by omega) (by omega)) 16 4 (by decide)) (Or.inl ⟨rfl, ⟨by omega, c2⟩, q4.symm, cs_p_eq, cs_p_na (by omega), cs_p_na (by omega)⟩)
/-- marks -/
theorem P15 {σ1 : CS} (G : GG bd b σ) (R : RR bd b σ k s o z) {i : Nat} {y : Int} (e : σ1 = cs_p σ (b + 15) i y) (hy : y = c_pv σ (b + 9) 2) : GG bd b σ1 ∧ Ext b σ σ1 ∧ RR bd b σ1 k s o z ∧ (∀ a g, (a ≠ b + 15 ∨ g ≠ i) → c_pv σ1 a g = c_pv σ a g) := by
  subst e
  have n92 := G.nu 9 2
  have hfr : ∀ a g, (a ≠ b + 15 ∨ g ≠ i) → c_pv (cs_p σ (b + 15) i y) a g = c_pv σ a g := fun a g hq => by
    rcases hq with hq | hq
    · exact cs_p_na hq
    · exact cs_p_nf hq
  have hF : gF.all (fun q => !(q.1 == 15 && q.2.1 == i)) = true := by
    refine List.all_eq_true.mpr (fun q hq => ?_)
    have h1 := List.all_eq_true.mp (by decide : gF.all (fun q => !(q.1 == 15)) = true) q hq
    simp at h1
    simp [h1]
  refine ⟨gg_put G 15 i ⟨by omega, by omega⟩ (by decide) hF (fun lo hi q => by cases q; exact ⟨by omega, by omega⟩) (Or.inl ⟨by decide, Or.inl (by decide)⟩) ?_, ext_p (fz_g G (by decide) (Or.inl (by decide)) (Or.inl (by decide)) (Or.inl (by decide))), rr_put R 15 i ⟨Or.inl (by decide), Or.inl (by decide), Or.inl (by decide), Or.inl (by decide)⟩, hfr⟩
  obtain ⟨w1, w2, w, h1, h2, h3, h4⟩ := G.2.2.2.1
  refine ⟨fun j hj => by rw [hfr _ _ (Or.inl (by omega))]; exact w1 j hj, fun j hj => by rw [hfr _ _ (Or.inl (by omega))]; exact w2 j hj, w, h1, by rw [hfr _ _ (Or.inl (by omega))]; exact h2, fun j hj => ?_, fun j hj => by rw [hfr _ _ (Or.inl (by omega))]; exact h4 j hj⟩
  by_cases c : j = i
  · subst c; rw [cs_p_eq]; exact ⟨by omega, by omega⟩
  · rw [hfr _ _ (Or.inr c)]; exact h3 j hj
theorem s_mark (hd : 6 ≤ d) (G : GG bd b σ) (R : RR bd b σ (k + 1) (s + 6) 0 z) : sf (RC bd d 47 σ [((b + 0 : Nat) : Int)]) (PX bd b k s z 1 (fun kd σ' r => (kd = 0 ∧ c_pv σ (b + 3) 10 < 20 ∧ r = c_pv σ (b + 3) 10 + 1 ∧ c_pv σ' (b + 16) 4 = c_pv σ (b + 16) 4 ∧ c_pv σ' (b + 3) 10 = c_pv σ (b + 3) 10 + 1 ∧ c_pv σ' (b + 0) 6 = c_pv σ (b + 0) 6) ∨ (kd = 1 ∧ ¬ c_pv σ (b + 3) 10 < 20 ∧ W3 b σ σ'))) := by
  obtain ⟨d, rfl⟩ : ∃ d0, d = d0 + 1 := ⟨d - 1, by omega⟩
  rw [rc_X11_mark (by omega)]
  refine fin_X ?_
  unfold pc_X11_mark_0
  have f2 := G.fi 2 (i := 0) (f := 2) (j := 3)
  refine wgF (G.tg 0) f2 ?_
  refine wgN (G.tg 3) (fun z2 q2 => ?_)
  have n310 := G.nu 3 10
  refine wgF (G.tg 0) f2 ?_
  refine wgF (G.tg 3) (G.fi 13 (i := 3) (f := 9) (j := 15)) ?_
  refine wlN (G.tg 15) (G.ln 15 (n := 20)) (by decide) (fun z5 q5 => ?_)
  refine sf_if (fun c => ?_) (fun c => thr_X G R (Or.inr ⟨rfl, by omega, rfl, rfl, rfl⟩))
  refine wgF (G.tg 0) f2 ?_
  refine wgF (G.tg 3) (G.fi 13 (i := 3) (f := 9) (j := 15)) ?_
  refine wgF (G.tg 0) f2 ?_
  refine wgN (G.tg 3) (fun z10 q10 => ?_)
  refine wgF (G.tg 0) f2 ?_
  refine wgF (G.tg 3) (G.fi 9 (i := 3) (f := 5) (j := 9)) ?_
  refine wgN (G.tg 9) (fun z13 q13 => ?_)
  refine wwN (G.tg 15) (G.ln 15 (n := 20)) ⟨by omega, by omega⟩ (fun σ1 w1 => ?_)
  obtain ⟨G1, e1, R1, F1⟩ := P15 G R w1 q13.symm
  refine wgF (G1.tg 0) (G1.fi 2 (i := 0) (f := 2) (j := 3)) ?_
  refine wgN (G1.tg 3) (fun z16 q16 => ?_)
  have q16' := F1 (b + 3) 10 (Or.inl (by omega))
  refine wck ⟨by omega, by omega⟩ (fun z17 q17 => ?_)
  refine wpN (G1.tg 3) (fun σ2 w2 => ?_)
  obtain ⟨G2, e2, R2, F2, V2⟩ := P310 G1 R1 w2 ⟨by omega, by omega⟩
  refine wgF (G2.tg 0) (G2.fi 2 (i := 0) (f := 2) (j := 3)) ?_
  refine wgN (G2.tg 3) (fun z20 q20 => ?_)
  exact ret_X ⟨by omega, by omega⟩ G2 (R2.le (by omega) (by omega) (by omega) (by omega)) (Or.inl ⟨rfl, by omega, by omega, (e1.c.trans e2).1, by omega, (e1.c.trans e2).2⟩)
theorem s_back (hd : 6 ≤ d) (G : GG bd b σ) (R : RR bd b σ (k + 1) (s + 6) 0 z) : sf (RC bd d 36 σ [((b + 0 : Nat) : Int)]) (PX bd b k s z 1 (fun kd σ' r => (kd = 0 ∧ 0 < c_pv σ (b + 3) 10 ∧ c_pv σ' (b + 16) 4 = c_pv σ (b + 16) 4 ∧ c_pv σ' (b + 3) 10 = c_pv σ (b + 3) 10 - 1 ∧ c_pv σ' (b + 0) 6 = c_pv σ (b + 0) 6) ∨ (kd = 1 ∧ ¬ 0 < c_pv σ (b + 3) 10 ∧ W3 b σ σ'))) := by
  obtain ⟨d, rfl⟩ : ∃ d0, d = d0 + 1 := ⟨d - 1, by omega⟩
  rw [rc_X11_back (by omega)]
  refine fin_X ?_
  unfold pc_X11_back_0
  have f2 := G.fi 2 (i := 0) (f := 2) (j := 3)
  have n310 := G.nu 3 10
  refine wgF (G.tg 0) f2 ?_
  refine wgN (G.tg 3) (fun z2 q2 => ?_)
  refine sf_if (fun c => ?_) (fun c => ?_)
  · unfold pc_X11_back_28
    exact thr_X G R (Or.inr ⟨rfl, by omega, rfl, rfl, rfl⟩)
  refine wgF (G.tg 0) f2 ?_
  refine wgN (G.tg 3) (fun z5 q5 => ?_)
  refine wgF (G.tg 0) f2 ?_
  refine wgF (G.tg 3) (G.fi 13 (i := 3) (f := 9) (j := 15)) ?_
  refine wlN (G.tg 15) (G.ln 15 (n := 20)) (by decide) (fun z8 q8 => ?_)
  rw [if_pos (by omega)]
  refine wgF (G.tg 0) f2 ?_
  refine wgN (G.tg 3) (fun z11 q11 => ?_)
  refine wck ⟨by omega, by omega⟩ (fun z12 q12 => ?_)
  refine wpN (G.tg 3) (fun σ1 w1 => ?_)
  obtain ⟨G1, e1, R1, F1, V1⟩ := P310 G R w1 ⟨by omega, by omega⟩
  have g2 := G1.fi 2 (i := 0) (f := 2) (j := 3)
  refine wgF (G1.tg 0) g2 ?_
  refine wgF (G1.tg 3) (G1.fi 9 (i := 3) (f := 5) (j := 9)) ?_
  refine wgF (G1.tg 0) g2 ?_
  refine wgF (G1.tg 3) (G1.fi 13 (i := 3) (f := 9) (j := 15)) ?_
  refine wgF (G1.tg 0) g2 ?_
  refine wgN (G1.tg 3) (fun z19 q19 => ?_)
  refine wrN (G1.tg 15) (G1.ln 15 (n := 20)) ⟨by omega, by omega⟩ (fun z20 q20 => ?_)
  have n15 := G1.nu 15 z19.toNat (lo := 0) (hi := 100)
  refine wpN (G1.tg 9) (fun σ2 w2 => ?_)
  obtain ⟨G2, e2, R2, F2, V2⟩ := P92 G1 R1 w2 ⟨by omega, by omega⟩ (by
    obtain ⟨w1, w2, w, h1, h2, h3, h4⟩ := G1.2.2.2.1
    have h5 := h3 z19.toNat (by omega)
    exact ⟨w, h1, by omega, h3, h4⟩)
  refine wgF (G2.tg 0) (G2.fi 2 (i := 0) (f := 2) (j := 3)) ?_
  refine wgF (G2.tg 3) (G2.fi 9 (i := 3) (f := 5) (j := 9)) ?_
  refine wgN (G2.tg 9) (fun z24 q24 => ?_)
  have m2 := e2.mC
  exact ret_X ⟨by omega, by omega⟩ G2 (R2.le (by omega) (by omega) (by omega) (by omega)) (Or.inl ⟨rfl, by omega, (e1.trans e2.c).1, by omega, (e1.trans e2.c).2⟩)
theorem s_corner (hd : 10 ≤ d) (G : GG bd b σ) (R : RR bd b σ (k + 1) (s + 6) 0 (z + 10)) {x : Int} : sf (RC bd d 39 σ [((b + 0 : Nat) : Int), x]) (PX bd b k s z 2 (fun kd σ' r => (kd = 0 ∧ (0 ≤ x ∧ x ≤ 8) ∧ c_pv σ' (b + 16) 4 = c_pv σ (b + 16) 4 ∧ c_pv σ' (b + 3) 10 = 0 ∧ c_pv σ' (b + 0) 6 = c_pv σ (b + 0) 6) ∨ (kd = 2 ∧ ¬ (0 ≤ x ∧ x ≤ 8) ∧ W3 b σ σ'))) := by
  obtain ⟨d, rfl⟩ : ∃ d0, d = d0 + 1 := ⟨d - 1, by omega⟩
  rw [rc_X11_corner (by omega)]
  refine fin_X ?_
  unfold pc_X11_corner_0
  have hx : ¬ (0 ≤ x ∧ x ≤ 8) → sf (pc_X11_corner_10 (RC bd d) bd σ) (PX bd b k s z 2 (fun kd σ' r => (kd = 0 ∧ (0 ≤ x ∧ x ≤ 8) ∧ c_pv σ' (b + 16) 4 = c_pv σ (b + 16) 4 ∧ c_pv σ' (b + 3) 10 = 0 ∧ c_pv σ' (b + 0) 6 = c_pv σ (b + 0) 6) ∨ (kd = 2 ∧ ¬ (0 ≤ x ∧ x ≤ 8) ∧ W3 b σ σ'))) := by
    intro q
    unfold pc_X11_corner_10
    exact thr_X G (R.le (by omega) (by omega) (by omega) (by omega)) (Or.inr ⟨rfl, q, rfl, rfl, rfl⟩)
  refine sf_if (fun c => hx (by omega)) (fun c => ?_)
  refine sf_if (fun c2 => ?_) (fun c2 => hx (by omega))
  refine wgF (G.tg 0) (G.fi 2 (i := 0) (f := 2) (j := 3)) ?_
  refine wgF (G.tg 3) (G.fi 9 (i := 3) (f := 5) (j := 9)) ?_
  refine wgN (G.tg 9) (fun z5 q5 => ?_)
  refine wgF (G.tg 0) (G.fi 2 (i := 0) (f := 2) (j := 3)) ?_
  refine wtN (G.tg 3) ?_
  refine cl_C (s_loadCorner (k := k) (s := s) (o := 0) (z := z) (by omega) G (R.le (by omega) (by omega) (by omega) (by omega))) (fun σ1 u ru G1 e1 R1 f1 => ?_)
  exact ret_X (q5 ▸ G.ir _ _) G1 R1 (Or.inl ⟨rfl, ⟨by omega, c2⟩, e1.1, f1, e1.2⟩)
/-- the tape -/
theorem P06 {σ1 : CS} (G : GG bd b σ) (R : RR bd b σ k s o z) {y : Int} (e : σ1 = cs_p σ (b + 0) 6 y) (hy : 0 ≤ y ∧ y ≤ 4000) : GG bd b σ1 ∧ RR bd b σ1 k s o z ∧ (∀ a g, (a ≠ b + 0 ∨ g ≠ 6) → c_pv σ1 a g = c_pv σ a g) ∧ c_pv σ1 (b + 0) 6 = y := by
  subst e
  have hfr : ∀ a g, (a ≠ b + 0 ∨ g ≠ 6) → c_pv (cs_p σ (b + 0) 6 y) a g = c_pv σ a g := fun a g hq => by
    rcases hq with hq | hq
    · exact cs_p_na hq
    · exact cs_p_nf hq
  exact ⟨gg_put G 0 6 ⟨by omega, by omega⟩ (by decide) (by decide) (fun lo hi q => by cases q; exact ⟨by omega, by omega⟩) (Or.inl ⟨by decide, by decide⟩) (hw_put G (by decide)), rr_put R 0 6 (by decide), hfr, cs_p_eq⟩
def PFd (bd : cBd) (b : Nat) (σ : CS) (k s z : Nat) (n : Int) (σ' : CS) (kd : Nat) (r : Int) : Prop := kd = 0 ∧ inR r ∧ GG bd b σ' ∧ RR bd b σ' k s 0 z ∧ c_pv σ' (b + 16) 4 = c_pv σ (b + 16) 4 ∧ c_pv σ' (b + 3) 10 = c_pv σ (b + 3) 10 ∧ c_pv σ' (b + 0) 6 = c_pv σ (b + 0) 6 + n
theorem s_feedFour3 : ∀ (n : Nat) {σ : CS} {m : Nat} {x y : Int}, GG bd b σ → RR bd b σ k s 0 z → y = 8 * (m : Int) - 8 → m ≤ 4 → c_pv σ (b + 0) 6 + m ≤ 4000 → m < n → sf (pc_X11_feedFour_3 (RC bd d) bd n σ ((b + 0 : Nat) : Int) x y) (PFd bd b σ k s z m) := by
  intro n
  induction n with
  | zero =>
    intro σ m x y G R hy hm ht hn
    omega
  | succ n ih =>
    intro σ m x y G R hy hm ht hn
    unfold pc_X11_feedFour_3
    have n06 := G.nu 0 6
    refine sf_if (fun c => ?_) (fun c => ?_)
    · exact sf_some ⟨rfl, ⟨by decide, by decide⟩, G, R, rfl, rfl, by omega⟩
    · obtain ⟨m, rfl⟩ : ∃ q, m = q + 1 := ⟨m - 1, by omega⟩
      refine wgN (G.tg 0) (fun z2 q2 => ?_)
      rw [if_neg (by omega)]
      refine wgF (G.tg 0) (G.fi 0 (i := 0) (f := 0) (j := 1)) ?_
      refine wgN (G.tg 0) (fun z5 q5 => ?_)
      refine wnm (fun z6 q6 => ?_)
      refine wnm (fun z7 q7 => ?_)
      refine wwN (G.tg 1) (G.ln 1 (n := 4000)) ⟨by omega, by omega⟩ (fun σ1 w1 => ?_)
      obtain ⟨G1, e1, R1, F1, V1⟩ := P0 G R w1 (gpr_c (by decide)) (inR_of _) (by intro lo hi q; cases q)
      refine wgN (G1.tg 0) (fun z9 q9 => ?_)
      have t1 := e1.tL
      refine wck ⟨by omega, by omega⟩ (fun z10 q10 => ?_)
      refine wpN (G1.tg 0) (fun σ2 w2 => ?_)
      obtain ⟨G2, R2, F2, V2⟩ := P06 G1 R1 w2 ⟨by omega, by omega⟩
      refine wck ⟨by omega, by omega⟩ (fun z12 q12 => ?_)
      refine sf_mono (ih (m := m) G2 R2 (by omega) (by omega) (by omega) (by omega)) (fun σ' kd r q => ⟨q.1, q.2.1, q.2.2.1, q.2.2.2.1, ?_, ?_, ?_⟩)
      · rw [q.2.2.2.2.1, F2 _ _ (Or.inl (by omega))]; exact e1.wM
      · rw [q.2.2.2.2.2.1, F2 _ _ (Or.inl (by omega))]; exact e1.mC
      · have := q.2.2.2.2.2.2
        omega
theorem s_feedFour (hd : 6 ≤ d) (G : GG bd b σ) (R : RR bd b σ k s 0 z) {x : Int} (ht : c_pv σ (b + 0) 6 + 4 ≤ 4000) : sf (RC bd d 44 σ [((b + 0 : Nat) : Int), x]) (PFd bd b σ k s z 4) := by
  obtain ⟨d, rfl⟩ : ∃ d0, d = d0 + 1 := ⟨d - 1, by omega⟩
  rw [rc_X11_feedFour (by omega)]
  refine sf_fin ?_
  unfold pc_X11_feedFour_0
  exact sf_mono (s_feedFour3 _ (m := 4) G R (by decide) (by decide) (by omega) (by decide)) (fun σ' kd r q => ⟨q.2.1, q⟩)
theorem cl_F {o1 : CO} {K : CS → Int → CO} {n : Int} (h : sf o1 (PFd bd b σ k s z n)) (h0 : ∀ σ' r, GG bd b σ' → RR bd b σ' k s 0 z → c_pv σ' (b + 16) 4 = c_pv σ (b + 16) 4 → c_pv σ' (b + 3) 10 = c_pv σ (b + 3) 10 → c_pv σ' (b + 0) 6 = c_pv σ (b + 0) 6 + n → sf (K σ' r) Q) : sf (cc_cl o1 K) Q := sf_cl h (fun σ' r hp => h0 σ' r hp.2.2.1 hp.2.2.2.1 hp.2.2.2.2.1 hp.2.2.2.2.2.1 hp.2.2.2.2.2.2) (fun σ' kd r hk hp => absurd hp.1 hk)
theorem s_feed (hd : 7 ≤ d) (G : GG bd b σ) (R : RR bd b σ k s 0 z) {x1 x2 x3 x4 x5 : Int} : sf (RC bd d 43 σ [((b + 0 : Nat) : Int), x1, x2, x3, x4, x5]) (PX bd b k s z 0 (fun _ σ' r => c_pv σ' (b + 16) 4 = c_pv σ (b + 16) 4 ∧ c_pv σ' (b + 3) 10 = c_pv σ (b + 3) 10 ∧ ((c_pv σ (b + 0) 6 + 20 ≤ 4000 ∧ c_pv σ' (b + 0) 6 = c_pv σ (b + 0) 6 + 20 ∧ r = c_pv σ (b + 0) 6 + 20) ∨ (¬ c_pv σ (b + 0) 6 + 20 ≤ 4000 ∧ c_pv σ' (b + 0) 6 = c_pv σ (b + 0) 6 ∧ r = -1)))) := by
  obtain ⟨d, rfl⟩ : ∃ d0, d = d0 + 1 := ⟨d - 1, by omega⟩
  rw [rc_X11_feed (by omega)]
  refine fin_X ?_
  unfold pc_X11_feed_0
  have n06 := G.nu 0 6
  refine wgN (G.tg 0) (fun z1 q1 => ?_)
  refine wck ⟨by omega, by omega⟩ (fun z2 q2 => ?_)
  refine sf_if (fun c => ?_) (fun c => ?_)
  · refine wtN (G.tg 0) ?_
    refine cl_F (s_feedFour (by omega) G R (by omega)) (fun σ1 u1 G1 R1 a1 b1 c1 => ?_)
    refine wtN (G1.tg 0) ?_
    refine cl_F (s_feedFour (by omega) G1 R1 (by omega)) (fun σ2 u2 G2 R2 a2 b2 c2 => ?_)
    refine wtN (G2.tg 0) ?_
    refine cl_F (s_feedFour (by omega) G2 R2 (by omega)) (fun σ3 u3 G3 R3 a3 b3 c3 => ?_)
    refine wtN (G3.tg 0) ?_
    refine cl_F (s_feedFour (by omega) G3 R3 (by omega)) (fun σ4 u4 G4 R4 a4 b4 c4 => ?_)
    refine wtN (G4.tg 0) ?_
    refine cl_F (s_feedFour (by omega) G4 R4 (by omega)) (fun σ5 u5 G5 R5 a5 b5 c5 => ?_)
    refine wgN (G5.tg 0) (fun z19 q19 => ?_)
    exact ret_X ⟨by omega, by omega⟩ G5 R5 ⟨by omega, by omega, Or.inl ⟨by omega, by omega, by omega⟩⟩
  · exact ret_X ⟨by decide, by decide⟩ G R ⟨rfl, rfl, Or.inr ⟨by omega, rfl, rfl⟩⟩
theorem s_text (hd : 212 ≤ d) (G : GG bd b σ) {x : Int} (R : RR bd b σ (k + 2 + 20 * (c_pv σ (b + 0) 6).toNat) (s + 49 + 150 * (c_pv σ (b + 0) 6).toNat) 0 (z + 3 * (c_pv σ (b + 0) 6).toNat)) : sf (RC bd d 62 σ [((b + 0 : Nat) : Int), x]) (fun σ' kd r => inR r ∧ GG bd b σ' ∧ ((kd = 0 ∧ (0 ≤ x ∧ x ≤ c_pv σ (b + 0) 6) ∧ RR bd b σ' k s 0 z ∧ c_pv σ' (b + 16) 4 = c_pv σ (b + 16) 4 ∧ c_pv σ' (b + 3) 10 = c_pv σ (b + 3) 10 ∧ c_pv σ' (b + 0) 6 = 0) ∨ (kd = 2 ∧ ¬ (0 ≤ x ∧ x ≤ c_pv σ (b + 0) 6) ∧ RR bd b σ' (k + 1 + 20 * (c_pv σ (b + 0) 6).toNat) (s + 43 + 150 * (c_pv σ (b + 0) 6).toNat) 0 (z + 3 * (c_pv σ (b + 0) 6).toNat) ∧ W3 b σ σ'))) := by
  obtain ⟨d, rfl⟩ : ∃ d0, d = d0 + 1 := ⟨d - 1, by omega⟩
  rw [rc_X11_text (by omega)]
  refine sf_fin ?_
  unfold pc_X11_text_0
  have n06 := G.nu 0 6
  have hx : ¬ (0 ≤ x ∧ x ≤ c_pv σ (b + 0) 6) → sf (pc_X11_text_12 (RC bd d) bd σ) (fun σ' kd r => inR r ∧ inR r ∧ GG bd b σ' ∧ ((kd = 0 ∧ (0 ≤ x ∧ x ≤ c_pv σ (b + 0) 6) ∧ RR bd b σ' k s 0 z ∧ c_pv σ' (b + 16) 4 = c_pv σ (b + 16) 4 ∧ c_pv σ' (b + 3) 10 = c_pv σ (b + 3) 10 ∧ c_pv σ' (b + 0) 6 = 0) ∨ (kd = 2 ∧ ¬ (0 ≤ x ∧ x ≤ c_pv σ (b + 0) 6) ∧ RR bd b σ' (k + 1 + 20 * (c_pv σ (b + 0) 6).toNat) (s + 43 + 150 * (c_pv σ (b + 0) 6).toNat) 0 (z + 3 * (c_pv σ (b + 0) 6).toNat) ∧ W3 b σ σ'))) := by
    intro q
    unfold pc_X11_text_12
    have R' : RR bd b σ (k + 1 + 20 * (c_pv σ (b + 0) 6).toNat + 1) (s + 43 + 150 * (c_pv σ (b + 0) 6).toNat + 6) 0 (z + 3 * (c_pv σ (b + 0) 6).toNat) := R.le (by omega) (by omega) (by omega) (by omega)
    have hm := rr_room G R'
    have h3 := gg_x G 6
    exact sf_x ⟨hm.1, hm.2.1⟩ ⟨⟨by decide, by decide⟩, ⟨by decide, by decide⟩, h3.1, Or.inr ⟨rfl, q, rr_x R', rfl, rfl, rfl⟩⟩
  refine sf_if (fun c => hx (by omega)) (fun c => ?_)
  refine wgN (G.tg 0) (fun z2 q2 => ?_)
  refine sf_if (fun c2 => ?_) (fun c2 => hx (by omega))
  refine wpN (G.tg 0) (fun σ1 w1 => ?_)
  obtain ⟨G1, R1, F1, V1⟩ := P06 G R w1 ⟨by decide, by decide⟩
  refine wtN (G1.tg 0) ?_
  refine cl_Z (s_runText (k := k) (s := s) (z := z) (by omega) G1 (R1.le (by omega) (by omega) (by omega) (by omega)) ⟨by omega, by omega⟩) (fun σ2 u r2 G2 e2 R2 f2 => ?_)
  have a1 := F1 (b + 16) 4 (Or.inl (by omega))
  have a2 := F1 (b + 3) 10 (Or.inl (by omega))
  have a3 := e2.wM
  have a4 := e2.mC
  have a5 := e2.tL
  exact sf_some ⟨r2, r2, G2, Or.inl ⟨rfl, ⟨by omega, by omega⟩, R2, by omega, by omega, by omega⟩⟩
end CFA
