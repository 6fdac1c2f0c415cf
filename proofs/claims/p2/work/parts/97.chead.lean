section CHD
variable {bd : cBd} {b d : Nat} {σ σ1 σ2 σ3 : CS} {Q : CS → Nat → Int → Prop} {k s o z : Nat}
theorem s_spendW (h : GG bd b σ) (hr : RR bd b σ (k + 1) (s + 6) o z) {x : Int} (hx : 1 ≤ x ∧ x ≤ 6) (c2 : c_pv σ (b + 16) 3 < 60000) : sf (cc_g σ 5 2 ((b + 16 : Nat) : Int) (fun z4 => cc_r σ 21 z4 0 (fun z5 => cc_ck (z5 + 1) (fun z6 => cc_w σ 21 z4 0 z6 (fun σ7 => cc_g σ7 5 2 ((b + 16 : Nat) : Int) (fun z8 => cc_r σ7 21 z8 x (fun z9 => cc_ck (z9 + 1) (fun z10 => cc_w σ7 21 z8 x z10 (fun σ11 => cc_g σ11 5 3 ((b + 16 : Nat) : Int) (fun z12 => cc_ck (z12 + 1) (fun z13 => cc_p σ11 5 3 ((b + 16 : Nat) : Int) z13 (fun σ14 => some (σ14, 0, 0))))))))))))) (PO bd b σ k s o z (fun σ' _ => RR bd b σ' (k + 7) (s + 66) (o + 40) z ∧ c_pv σ' (b + 16) 3 = c_pv σ (b + 16) 3 + 1 ∧ ∀ a f, a ≠ b + 16 → a ≠ b + 17 → c_pv σ' a f = c_pv σ a f)) := by
  refine wgF (h.tg 16) (h.fi 20 (i := 16) (f := 2) (j := 17)) ?_
  refine wrN (h.tg 17) (h.ln 17 (n := 7)) ⟨by decide, by decide⟩ (fun y hy => ?_)
  subst hy
  have hn0 := h.nu 16 3
  have hd0 := h.nu 17 (0 : Int).toNat (lo := 0) (hi := 60000)
  have hdl := h.dn (0 : Int).toNat
  refine sf_ck ⟨by omega, by omega⟩ ?_
  refine wwN (h.tg 17) (h.ln 17 (n := 7)) ⟨by decide, by decide⟩ (fun σ1 w1 => ?_)
  subst w1
  -- the life's work first, for the proof: the counts never pass it
  have g0 := gg_put h 16 3 (y := c_pv σ (b + 16) 3 + 1) ⟨by omega, by omega⟩ (by decide) (by decide) (fun lo hi q => by cases q; exact ⟨by omega, by omega⟩) (Or.inr (Or.inr ⟨rfl, rfl, by omega⟩)) (hw_put h (by decide))
  have r0 := rr_life (b := b) hr
  have e17 : ∀ j, c_pv (cs_p σ (b + 16) 3 (c_pv σ (b + 16) 3 + 1)) (b + 17) j = c_pv σ (b + 17) j := fun j => cs_p_na (by omega)
  have e16 : c_pv (cs_p σ (b + 16) 3 (c_pv σ (b + 16) 3 + 1)) (b + 16) 3 = c_pv σ (b + 16) 3 + 1 := cs_p_eq
  have g1 := gg_put g0 17 (0 : Int).toNat (y := c_pv σ (b + 17) (0 : Int).toNat + 1) ⟨by omega, by omega⟩ (by decide) (by decide) (fun lo hi q => by cases q; exact ⟨by omega, by omega⟩) (Or.inr (Or.inl ⟨rfl, by rw [e16]; omega⟩)) (hw_put g0 (by decide))
  have r1 := rr_put r0 17 (0 : Int).toNat (y := c_pv σ (b + 17) (0 : Int).toNat + 1) (by decide)
  have t1 : c_tg (cs_p σ (b + 17) (0 : Int).toNat (c_pv σ (b + 17) (0 : Int).toNat + 1)) (b + 16) = 5 := h.tg 16
  have t2 : c_tg (cs_p σ (b + 17) (0 : Int).toNat (c_pv σ (b + 17) (0 : Int).toNat + 1)) (b + 17) = 21 := h.tg 17
  refine wgF (v := ((b + 17 : Nat) : Int)) t1 (by rw [cs_p_na (q := b + 16) (by omega)]; exact h.fi 20 (i := 16) (f := 2) (j := 17)) ?_
  refine wrN t2 (h.ln 17 (n := 7)) ⟨by omega, by omega⟩ (fun y hy => ?_)
  rw [cs_p_nf (by omega)] at hy
  subst hy
  have hx1 := h.nu 17 x.toNat (lo := 0) (hi := 60000)
  have hx2 := h.dn x.toNat
  refine sf_ck ⟨by omega, by omega⟩ ?_
  refine wwN t2 (h.ln 17 (n := 7)) ⟨by omega, by omega⟩ (fun σ2 w2 => ?_)
  subst w2
  refine wgN (h.tg 16) (fun y hy => ?_)
  rw [cs_p_na (q := b + 16) (by omega), cs_p_na (q := b + 16) (by omega)] at hy
  subst hy
  refine sf_ck ⟨by omega, by omega⟩ ?_
  refine wpN (h.tg 16) (fun σ3 w3 => ?_)
  have hF : gF.all (fun q => !(q.1 == 17 && q.2.1 == x.toNat)) = true := by
    have := gpr_c (i := 1) (f := 0) (by decide)
    refine List.all_eq_true.mpr (fun q hq => ?_)
    have h1 := List.all_eq_true.mp (by decide : gF.all (fun q => !(q.1 == 17)) = true) q hq
    simp at h1
    simp [h1]
  have g2 := gg_put g1 17 x.toNat (y := c_pv σ (b + 17) x.toNat + 1) ⟨by omega, by omega⟩ (by decide) hF (fun lo hi q => by cases q; exact ⟨by omega, by omega⟩) (Or.inr (Or.inl ⟨rfl, by rw [cs_p_na (q := b + 16) (by omega), e16]; omega⟩)) (hw_put g1 ⟨by decide, by decide, by decide, Or.inl (by decide)⟩)
  have r2 := rr_put r1 17 x.toNat (y := c_pv σ (b + 17) x.toNat + 1) ⟨Or.inl (by decide), Or.inl (by decide), Or.inl (by decide), Or.inl (by decide)⟩
  have ee : cs_p (cs_p (cs_p σ (b + 16) 3 (c_pv σ (b + 16) 3 + 1)) (b + 17) (0 : Int).toNat (c_pv σ (b + 17) (0 : Int).toNat + 1)) (b + 17) x.toNat (c_pv σ (b + 17) x.toNat + 1) = σ3 := by
    rw [w3]
    refine Prod.ext rfl (Prod.ext ?_ rfl)
    funext a f
    show c_pv (cs_p (cs_p (cs_p σ (b + 16) 3 _) (b + 17) _ _) (b + 17) x.toNat _) a f = c_pv (cs_p (cs_p (cs_p σ (b + 17) _ _) (b + 17) x.toNat _) (b + 16) 3 _) a f
    by_cases h16 : a = b + 16
    · simp [cs_p_pv, h16]
    · simp [cs_p_pv, h16]
  have x0 : Ext b σ (cs_p σ (b + 16) 3 (c_pv σ (b + 16) 3 + 1)) := ext_p (fz_g h (by decide) (by decide) (by decide) (by decide))
  have x1 := x0.trans (ext_p (y := c_pv σ (b + 17) (0 : Int).toNat + 1) (fz_g g0 (i := 17) (f := (0 : Int).toNat) (by decide) (by decide) (by decide) (by decide)))
  have x2 := x1.trans (ext_p (y := c_pv σ (b + 17) x.toNat + 1) (fz_g g1 (i := 17) (f := x.toNat) (by decide) (Or.inl (by decide)) (Or.inl (by decide)) (Or.inl (by decide))))
  rw [ee] at g2 r2 x2
  refine ret_O ⟨by decide, by decide⟩ g2 x2 (r2.le (by omega) (by omega) (by omega) (by omega)) ⟨r2.le (by omega) (by omega) (by omega) (by omega), by rw [w3]; exact cs_p_eq, fun a f h16 h17 => ?_⟩
  rw [w3, cs_p_na h16, cs_p_na h17, cs_p_na h17]
theorem s_spend (hd : 6 ≤ d) (G : GG bd b σ) (R : RR bd b σ (k + 1) (s + 6) (o) (z)) {x : Int} (hx : 1 ≤ x ∧ x ≤ 6) : sf (RC bd d 93 σ [((b + 16 : Nat) : Int), x]) (PO bd b σ k s o z (fun σ' _ => RR bd b σ' (k + 7) (s + 66) (o + 40) z ∧ c_pv σ' (b + 16) 3 = c_pv σ (b + 16) 3 + 1 ∧ ∀ a f, a ≠ b + 16 → a ≠ b + 17 → c_pv σ' a f = c_pv σ a f)) := by
  obtain ⟨d, rfl⟩ : ∃ d0, d = d0 + 1 := ⟨d - 1, by omega⟩
  rw [rc_X4_spend (by omega)]
  refine fin_O ?_
  unfold pc_X4_spend_0
  refine wgF (G.tg 16) (G.fi 20 (i := 16) (f := 2) (j := 17)) ?_
  refine wrN (G.tg 17) (G.ln 17 (n := 7)) ⟨by omega, by omega⟩ (fun z2_2 hz2_2 => ?_)
  have fz2_2 := G.nu 17 (0 : Int).toNat (lo := 0) (hi := 60000)
  have rz2_2 : inR z2_2 := hz2_2 ▸ G.ir _ _
  refine wgN (G.tg 16) (fun z3_3 hz3_3 => ?_)
  have fz3_3 := G.nu 16 4
  have rz3_3 : inR z3_3 := hz3_3 ▸ G.ir _ _
  refine sf_if (fun c4 => ?_) (fun c4 => ?_)
  · unfold pc_X4_spend_18
    refine sf_if (fun c5 => ?_) (fun c5 => ?_)
    · unfold pc_X4_spend_32
      refine wgF (G.tg 16) (G.fi 19 (i := 16) (f := 1) (j := 2)) ?_
      refine sf_if (fun c7 => ?_) (fun c7 => ?_)
      · unfold pc_X4_spend_47
        refine wpN (G.tg 2) (fun s8 ws8 => ?_)
        obtain ⟨Gs8, es8, Rs8, Fs8, Vs8⟩ := P0 G R ws8 (by decide) ⟨by decide, by decide⟩ (by intro lo hi q; cases q <;> omega)
        have E9 := (Ext.refl (b := b) (σ := σ)).trans es8
        refine wgF (Gs8.tg 16) (Gs8.fi 19 (i := 16) (f := 1) (j := 2)) ?_
        refine wgN (Gs8.tg 16) (fun z3_11 hz3_11 => ?_)
        have rz3_11 : inR z3_11 := hz3_11 ▸ Gs8.ir _ _
        refine wpN (Gs8.tg 2) (fun s12 ws12 => ?_)
        obtain ⟨Gs12, es12, Rs12, Fs12, Vs12⟩ := P0 Gs8 Rs8 ws12 (by decide) (by first | assumption | exact inR_of _ | exact ⟨by omega, by omega⟩) (by intro lo hi q; cases q <;> omega)
        have E13 := E9.trans es12
        exact thr_O Gs12 E13 (Rs12.le (by omega) (by omega) (by omega) (by omega))
      · unfold pc_X4_spend_47
        refine wpN (G.tg 2) (fun s14 ws14 => ?_)
        obtain ⟨Gs14, es14, Rs14, Fs14, Vs14⟩ := P0 G R ws14 (by decide) ⟨by decide, by decide⟩ (by intro lo hi q; cases q <;> omega)
        have E15 := (Ext.refl (b := b) (σ := σ)).trans es14
        refine wgF (Gs14.tg 16) (Gs14.fi 19 (i := 16) (f := 1) (j := 2)) ?_
        refine wgN (Gs14.tg 16) (fun z3_17 hz3_17 => ?_)
        have rz3_17 : inR z3_17 := hz3_17 ▸ Gs14.ir _ _
        refine wpN (Gs14.tg 2) (fun s18 ws18 => ?_)
        obtain ⟨Gs18, es18, Rs18, Fs18, Vs18⟩ := P0 Gs14 Rs14 ws18 (by decide) (by first | assumption | exact inR_of _ | exact ⟨by omega, by omega⟩) (by intro lo hi q; cases q <;> omega)
        have E19 := E15.trans es18
        exact thr_O Gs18 E19 (Rs18.le (by omega) (by omega) (by omega) (by omega))
    · refine wgN (G.tg 16) (fun z2_20 hz2_20 => ?_)
      have fz2_20 := G.nu 16 3
      have rz2_20 : inR z2_20 := hz2_20 ▸ G.ir _ _
      refine sf_if (fun c21 => ?_) (fun c21 => ?_)
      · exact s_spendW G R hx (by omega)
      · unfold pc_X4_spend_32
        refine wgF (G.tg 16) (G.fi 19 (i := 16) (f := 1) (j := 2)) ?_
        refine sf_if (fun c23 => ?_) (fun c23 => ?_)
        · unfold pc_X4_spend_47
          refine wpN (G.tg 2) (fun s24 ws24 => ?_)
          obtain ⟨Gs24, es24, Rs24, Fs24, Vs24⟩ := P0 G R ws24 (by decide) ⟨by decide, by decide⟩ (by intro lo hi q; cases q <;> omega)
          have E25 := (Ext.refl (b := b) (σ := σ)).trans es24
          refine wgF (Gs24.tg 16) (Gs24.fi 19 (i := 16) (f := 1) (j := 2)) ?_
          refine wgN (Gs24.tg 16) (fun z3_27 hz3_27 => ?_)
          have rz3_27 : inR z3_27 := hz3_27 ▸ Gs24.ir _ _
          refine wpN (Gs24.tg 2) (fun s28 ws28 => ?_)
          obtain ⟨Gs28, es28, Rs28, Fs28, Vs28⟩ := P0 Gs24 Rs24 ws28 (by decide) (by first | assumption | exact inR_of _ | exact ⟨by omega, by omega⟩) (by intro lo hi q; cases q <;> omega)
          have E29 := E25.trans es28
          exact thr_O Gs28 E29 (Rs28.le (by omega) (by omega) (by omega) (by omega))
        · unfold pc_X4_spend_47
          refine wpN (G.tg 2) (fun s30 ws30 => ?_)
          obtain ⟨Gs30, es30, Rs30, Fs30, Vs30⟩ := P0 G R ws30 (by decide) ⟨by decide, by decide⟩ (by intro lo hi q; cases q <;> omega)
          have E31 := (Ext.refl (b := b) (σ := σ)).trans es30
          refine wgF (Gs30.tg 16) (Gs30.fi 19 (i := 16) (f := 1) (j := 2)) ?_
          refine wgN (Gs30.tg 16) (fun z3_33 hz3_33 => ?_)
          have rz3_33 : inR z3_33 := hz3_33 ▸ Gs30.ir _ _
          refine wpN (Gs30.tg 2) (fun s34 ws34 => ?_)
          obtain ⟨Gs34, es34, Rs34, Fs34, Vs34⟩ := P0 Gs30 Rs30 ws34 (by decide) (by first | assumption | exact inR_of _ | exact ⟨by omega, by omega⟩) (by intro lo hi q; cases q <;> omega)
          have E35 := E31.trans es34
          exact thr_O Gs34 E35 (Rs34.le (by omega) (by omega) (by omega) (by omega))
  · unfold pc_X4_spend_18
    refine sf_if (fun c36 => ?_) (fun c36 => ?_)
    · unfold pc_X4_spend_32
      refine wgF (G.tg 16) (G.fi 19 (i := 16) (f := 1) (j := 2)) ?_
      refine sf_if (fun c38 => ?_) (fun c38 => ?_)
      · unfold pc_X4_spend_47
        refine wpN (G.tg 2) (fun s39 ws39 => ?_)
        obtain ⟨Gs39, es39, Rs39, Fs39, Vs39⟩ := P0 G R ws39 (by decide) ⟨by decide, by decide⟩ (by intro lo hi q; cases q <;> omega)
        have E40 := (Ext.refl (b := b) (σ := σ)).trans es39
        refine wgF (Gs39.tg 16) (Gs39.fi 19 (i := 16) (f := 1) (j := 2)) ?_
        refine wgN (Gs39.tg 16) (fun z3_42 hz3_42 => ?_)
        have rz3_42 : inR z3_42 := hz3_42 ▸ Gs39.ir _ _
        refine wpN (Gs39.tg 2) (fun s43 ws43 => ?_)
        obtain ⟨Gs43, es43, Rs43, Fs43, Vs43⟩ := P0 Gs39 Rs39 ws43 (by decide) (by first | assumption | exact inR_of _ | exact ⟨by omega, by omega⟩) (by intro lo hi q; cases q <;> omega)
        have E44 := E40.trans es43
        exact thr_O Gs43 E44 (Rs43.le (by omega) (by omega) (by omega) (by omega))
      · unfold pc_X4_spend_47
        refine wpN (G.tg 2) (fun s45 ws45 => ?_)
        obtain ⟨Gs45, es45, Rs45, Fs45, Vs45⟩ := P0 G R ws45 (by decide) ⟨by decide, by decide⟩ (by intro lo hi q; cases q <;> omega)
        have E46 := (Ext.refl (b := b) (σ := σ)).trans es45
        refine wgF (Gs45.tg 16) (Gs45.fi 19 (i := 16) (f := 1) (j := 2)) ?_
        refine wgN (Gs45.tg 16) (fun z3_48 hz3_48 => ?_)
        have rz3_48 : inR z3_48 := hz3_48 ▸ Gs45.ir _ _
        refine wpN (Gs45.tg 2) (fun s49 ws49 => ?_)
        obtain ⟨Gs49, es49, Rs49, Fs49, Vs49⟩ := P0 Gs45 Rs45 ws49 (by decide) (by first | assumption | exact inR_of _ | exact ⟨by omega, by omega⟩) (by intro lo hi q; cases q <;> omega)
        have E50 := E46.trans es49
        exact thr_O Gs49 E50 (Rs49.le (by omega) (by omega) (by omega) (by omega))
    · refine wgN (G.tg 16) (fun z2_51 hz2_51 => ?_)
      have fz2_51 := G.nu 16 3
      have rz2_51 : inR z2_51 := hz2_51 ▸ G.ir _ _
      refine sf_if (fun c52 => ?_) (fun c52 => ?_)
      · exact s_spendW G R hx (by omega)
      · unfold pc_X4_spend_32
        refine wgF (G.tg 16) (G.fi 19 (i := 16) (f := 1) (j := 2)) ?_
        refine sf_if (fun c54 => ?_) (fun c54 => ?_)
        · unfold pc_X4_spend_47
          refine wpN (G.tg 2) (fun s55 ws55 => ?_)
          obtain ⟨Gs55, es55, Rs55, Fs55, Vs55⟩ := P0 G R ws55 (by decide) ⟨by decide, by decide⟩ (by intro lo hi q; cases q <;> omega)
          have E56 := (Ext.refl (b := b) (σ := σ)).trans es55
          refine wgF (Gs55.tg 16) (Gs55.fi 19 (i := 16) (f := 1) (j := 2)) ?_
          refine wgN (Gs55.tg 16) (fun z3_58 hz3_58 => ?_)
          have rz3_58 : inR z3_58 := hz3_58 ▸ Gs55.ir _ _
          refine wpN (Gs55.tg 2) (fun s59 ws59 => ?_)
          obtain ⟨Gs59, es59, Rs59, Fs59, Vs59⟩ := P0 Gs55 Rs55 ws59 (by decide) (by first | assumption | exact inR_of _ | exact ⟨by omega, by omega⟩) (by intro lo hi q; cases q <;> omega)
          have E60 := E56.trans es59
          exact thr_O Gs59 E60 (Rs59.le (by omega) (by omega) (by omega) (by omega))
        · unfold pc_X4_spend_47
          refine wpN (G.tg 2) (fun s61 ws61 => ?_)
          obtain ⟨Gs61, es61, Rs61, Fs61, Vs61⟩ := P0 G R ws61 (by decide) ⟨by decide, by decide⟩ (by intro lo hi q; cases q <;> omega)
          have E62 := (Ext.refl (b := b) (σ := σ)).trans es61
          refine wgF (Gs61.tg 16) (Gs61.fi 19 (i := 16) (f := 1) (j := 2)) ?_
          refine wgN (Gs61.tg 16) (fun z3_64 hz3_64 => ?_)
          have rz3_64 : inR z3_64 := hz3_64 ▸ Gs61.ir _ _
          refine wpN (Gs61.tg 2) (fun s65 ws65 => ?_)
          obtain ⟨Gs65, es65, Rs65, Fs65, Vs65⟩ := P0 Gs61 Rs61 ws65 (by decide) (by first | assumption | exact inR_of _ | exact ⟨by omega, by omega⟩) (by intro lo hi q; cases q <;> omega)
          have E66 := E62.trans es65
          exact thr_O Gs65 E66 (Rs65.le (by omega) (by omega) (by omega) (by omega))
theorem s_look (hd : 7 ≤ d) (G : GG bd b σ) (R : RR bd b σ (k + 1) (s + 6) (o) (z)) {x : Int} : sf (RC bd d 85 σ [((b + 16 : Nat) : Int), x]) (PO bd b σ k s o z (fun σ' _ => RR bd b σ' (k + 7) (s + 66) (o + 40) z ∧ x < 100)) := by
  obtain ⟨d, rfl⟩ : ∃ d0, d = d0 + 1 := ⟨d - 1, by omega⟩
  rw [rc_X4_look (by omega)]
  refine fin_O ?_
  unfold pc_X4_look_0
  refine sf_if (fun c1 => ?_) (fun c1 => ?_)
  · unfold pc_X4_look_11
    refine sf_if (fun c2 => ?_) (fun c2 => ?_)
    · unfold pc_X4_look_38
      refine wtN (G.tg 16) ?_
      refine cl_O (s_spend (k := k) (s := s) (o := o) (z := z) (by omega) G (R.le (by omega) (by omega) (by omega) (by omega)) ⟨by omega, by omega⟩) (Ext.refl (b := b) (σ := σ)) (by omega) (by omega) (by omega) (by omega) (fun s3 z3_4 rz3_4 Gs3 es3 Rs3 fz3_4 => ?_)
      obtain ⟨Qz3_4, Lz3_4, Fz3_4⟩ := fz3_4
      have E5 := (Ext.refl (b := b) (σ := σ)).trans es3
      unfold pc_X4_look_44
      refine sf_if (fun c6 => ?_) (fun c6 => ?_)
      · exact ret_O ⟨by decide, by decide⟩ Gs3 E5 (Qz3_4.le (by omega) (by omega) (by omega) (by omega)) (by first | trivial | assumption | omega | (dsimp only; omega))
      · refine wgF (Gs3.tg 16) (Gs3.fi 19 (i := 16) (f := 1) (j := 2)) ?_
        refine wgN (Gs3.tg 16) (fun z3_8 hz3_8 => ?_)
        have rz3_8 : inR z3_8 := hz3_8 ▸ Gs3.ir _ _
        refine wtN (Gs3.tg 2) ?_
        refine cl_Z (s_set (k := k + 7) (s := s + 66) (o := o + 40) (z := z) (by omega) Gs3 (Qz3_4.le (by omega) (by omega) (by omega) (by omega)) ⟨by omega, by omega⟩ (by first | assumption | exact inR_of _ | exact ⟨by omega, by omega⟩)) (fun s9 z6_10 rz6_10 Gs9 es9 Rs9 fz6_10 => ?_)
        have E11 := E5.trans es9
        exact thr_O Gs9 E11 (Rs9.le (by omega) (by omega) (by omega) (by omega))
    · refine wgF (G.tg 16) (G.fi 20 (i := 16) (f := 2) (j := 17)) ?_
      refine wrN (G.tg 17) (G.ln 17 (n := 7)) ⟨by omega, by omega⟩ (fun z3_13 hz3_13 => ?_)
      have fz3_13 := G.nu 17 (0 : Int).toNat (lo := 0) (hi := 60000)
      have rz3_13 : inR z3_13 := hz3_13 ▸ G.ir _ _
      refine wgN (G.tg 16) (fun z4_14 hz4_14 => ?_)
      have fz4_14 := G.nu 16 4
      have rz4_14 : inR z4_14 := hz4_14 ▸ G.ir _ _
      refine sf_if (fun c15 => ?_) (fun c15 => ?_)
      · unfold pc_X4_look_44
        refine sf_if (fun c16 => ?_) (fun c16 => ?_)
        · exact ret_O ⟨by decide, by decide⟩ G (Ext.refl (b := b) (σ := σ)) (R.le (by omega) (by omega) (by omega) (by omega)) (by first | trivial | assumption | omega | (dsimp only; omega))
        · refine wgF (G.tg 16) (G.fi 19 (i := 16) (f := 1) (j := 2)) ?_
          refine wgN (G.tg 16) (fun z3_18 hz3_18 => ?_)
          have rz3_18 : inR z3_18 := hz3_18 ▸ G.ir _ _
          refine wtN (G.tg 2) ?_
          refine cl_Z (s_set (k := k + 1) (s := s + 6) (o := o) (z := z) (by omega) G (R.le (by omega) (by omega) (by omega) (by omega)) ⟨by omega, by omega⟩ (by first | assumption | exact inR_of _ | exact ⟨by omega, by omega⟩)) (fun s19 z6_20 rz6_20 Gs19 es19 Rs19 fz6_20 => ?_)
          have E21 := (Ext.refl (b := b) (σ := σ)).trans es19
          exact thr_O Gs19 E21 (Rs19.le (by omega) (by omega) (by omega) (by omega))
      · refine wgN (G.tg 16) (fun z6_22 hz6_22 => ?_)
        have fz6_22 := G.nu 16 3
        have rz6_22 : inR z6_22 := hz6_22 ▸ G.ir _ _
        refine sf_if (fun c23 => ?_) (fun c23 => ?_)
        · unfold pc_X4_look_44
          refine sf_if (fun c24 => ?_) (fun c24 => ?_)
          · exact ret_O ⟨by decide, by decide⟩ G (Ext.refl (b := b) (σ := σ)) (R.le (by omega) (by omega) (by omega) (by omega)) (by first | trivial | assumption | omega | (dsimp only; omega))
          · refine wgF (G.tg 16) (G.fi 19 (i := 16) (f := 1) (j := 2)) ?_
            refine wgN (G.tg 16) (fun z3_26 hz3_26 => ?_)
            have rz3_26 : inR z3_26 := hz3_26 ▸ G.ir _ _
            refine wtN (G.tg 2) ?_
            refine cl_Z (s_set (k := k + 1) (s := s + 6) (o := o) (z := z) (by omega) G (R.le (by omega) (by omega) (by omega) (by omega)) ⟨by omega, by omega⟩ (by first | assumption | exact inR_of _ | exact ⟨by omega, by omega⟩)) (fun s27 z6_28 rz6_28 Gs27 es27 Rs27 fz6_28 => ?_)
            have E29 := (Ext.refl (b := b) (σ := σ)).trans es27
            exact thr_O Gs27 E29 (Rs27.le (by omega) (by omega) (by omega) (by omega))
        · unfold pc_X4_look_38
          refine wtN (G.tg 16) ?_
          refine cl_O (s_spend (k := k) (s := s) (o := o) (z := z) (by omega) G (R.le (by omega) (by omega) (by omega) (by omega)) ⟨by omega, by omega⟩) (Ext.refl (b := b) (σ := σ)) (by omega) (by omega) (by omega) (by omega) (fun s30 z3_31 rz3_31 Gs30 es30 Rs30 fz3_31 => ?_)
          obtain ⟨Qz3_31, Lz3_31, Fz3_31⟩ := fz3_31
          have E32 := (Ext.refl (b := b) (σ := σ)).trans es30
          unfold pc_X4_look_44
          refine sf_if (fun c33 => ?_) (fun c33 => ?_)
          · exact ret_O ⟨by decide, by decide⟩ Gs30 E32 (Qz3_31.le (by omega) (by omega) (by omega) (by omega)) (by first | trivial | assumption | omega | (dsimp only; omega))
          · refine wgF (Gs30.tg 16) (Gs30.fi 19 (i := 16) (f := 1) (j := 2)) ?_
            refine wgN (Gs30.tg 16) (fun z3_35 hz3_35 => ?_)
            have rz3_35 : inR z3_35 := hz3_35 ▸ Gs30.ir _ _
            refine wtN (Gs30.tg 2) ?_
            refine cl_Z (s_set (k := k + 7) (s := s + 66) (o := o + 40) (z := z) (by omega) Gs30 (Qz3_31.le (by omega) (by omega) (by omega) (by omega)) ⟨by omega, by omega⟩ (by first | assumption | exact inR_of _ | exact ⟨by omega, by omega⟩)) (fun s36 z6_37 rz6_37 Gs36 es36 Rs36 fz6_37 => ?_)
            have E38 := E32.trans es36
            exact thr_O Gs36 E38 (Rs36.le (by omega) (by omega) (by omega) (by omega))
  · unfold pc_X4_look_11
    refine sf_if (fun c39 => ?_) (fun c39 => ?_)
    · unfold pc_X4_look_38
      refine wtN (G.tg 16) ?_
      refine cl_O (s_spend (k := k) (s := s) (o := o) (z := z) (by omega) G (R.le (by omega) (by omega) (by omega) (by omega)) ⟨by omega, by omega⟩) (Ext.refl (b := b) (σ := σ)) (by omega) (by omega) (by omega) (by omega) (fun s40 z3_41 rz3_41 Gs40 es40 Rs40 fz3_41 => ?_)
      obtain ⟨Qz3_41, Lz3_41, Fz3_41⟩ := fz3_41
      have E42 := (Ext.refl (b := b) (σ := σ)).trans es40
      unfold pc_X4_look_44
      refine sf_if (fun c43 => ?_) (fun c43 => ?_)
      · exact ret_O ⟨by decide, by decide⟩ Gs40 E42 (Qz3_41.le (by omega) (by omega) (by omega) (by omega)) (by first | trivial | assumption | omega | (dsimp only; omega))
      · refine wgF (Gs40.tg 16) (Gs40.fi 19 (i := 16) (f := 1) (j := 2)) ?_
        refine wgN (Gs40.tg 16) (fun z3_45 hz3_45 => ?_)
        have rz3_45 : inR z3_45 := hz3_45 ▸ Gs40.ir _ _
        refine wtN (Gs40.tg 2) ?_
        refine cl_Z (s_set (k := k + 7) (s := s + 66) (o := o + 40) (z := z) (by omega) Gs40 (Qz3_41.le (by omega) (by omega) (by omega) (by omega)) ⟨by omega, by omega⟩ (by first | assumption | exact inR_of _ | exact ⟨by omega, by omega⟩)) (fun s46 z6_47 rz6_47 Gs46 es46 Rs46 fz6_47 => ?_)
        have E48 := E42.trans es46
        exact thr_O Gs46 E48 (Rs46.le (by omega) (by omega) (by omega) (by omega))
    · refine wgF (G.tg 16) (G.fi 20 (i := 16) (f := 2) (j := 17)) ?_
      refine wrN (G.tg 17) (G.ln 17 (n := 7)) ⟨by omega, by omega⟩ (fun z3_50 hz3_50 => ?_)
      have fz3_50 := G.nu 17 (0 : Int).toNat (lo := 0) (hi := 60000)
      have rz3_50 : inR z3_50 := hz3_50 ▸ G.ir _ _
      refine wgN (G.tg 16) (fun z4_51 hz4_51 => ?_)
      have fz4_51 := G.nu 16 4
      have rz4_51 : inR z4_51 := hz4_51 ▸ G.ir _ _
      refine sf_if (fun c52 => ?_) (fun c52 => ?_)
      · unfold pc_X4_look_44
        refine sf_if (fun c53 => ?_) (fun c53 => ?_)
        · exact ret_O ⟨by decide, by decide⟩ G (Ext.refl (b := b) (σ := σ)) (R.le (by omega) (by omega) (by omega) (by omega)) (by first | trivial | assumption | omega | (dsimp only; omega))
        · refine wgF (G.tg 16) (G.fi 19 (i := 16) (f := 1) (j := 2)) ?_
          refine wgN (G.tg 16) (fun z3_55 hz3_55 => ?_)
          have rz3_55 : inR z3_55 := hz3_55 ▸ G.ir _ _
          refine wtN (G.tg 2) ?_
          refine cl_Z (s_set (k := k + 1) (s := s + 6) (o := o) (z := z) (by omega) G (R.le (by omega) (by omega) (by omega) (by omega)) ⟨by omega, by omega⟩ (by first | assumption | exact inR_of _ | exact ⟨by omega, by omega⟩)) (fun s56 z6_57 rz6_57 Gs56 es56 Rs56 fz6_57 => ?_)
          have E58 := (Ext.refl (b := b) (σ := σ)).trans es56
          exact thr_O Gs56 E58 (Rs56.le (by omega) (by omega) (by omega) (by omega))
      · refine wgN (G.tg 16) (fun z6_59 hz6_59 => ?_)
        have fz6_59 := G.nu 16 3
        have rz6_59 : inR z6_59 := hz6_59 ▸ G.ir _ _
        refine sf_if (fun c60 => ?_) (fun c60 => ?_)
        · unfold pc_X4_look_44
          refine sf_if (fun c61 => ?_) (fun c61 => ?_)
          · exact ret_O ⟨by decide, by decide⟩ G (Ext.refl (b := b) (σ := σ)) (R.le (by omega) (by omega) (by omega) (by omega)) (by first | trivial | assumption | omega | (dsimp only; omega))
          · refine wgF (G.tg 16) (G.fi 19 (i := 16) (f := 1) (j := 2)) ?_
            refine wgN (G.tg 16) (fun z3_63 hz3_63 => ?_)
            have rz3_63 : inR z3_63 := hz3_63 ▸ G.ir _ _
            refine wtN (G.tg 2) ?_
            refine cl_Z (s_set (k := k + 1) (s := s + 6) (o := o) (z := z) (by omega) G (R.le (by omega) (by omega) (by omega) (by omega)) ⟨by omega, by omega⟩ (by first | assumption | exact inR_of _ | exact ⟨by omega, by omega⟩)) (fun s64 z6_65 rz6_65 Gs64 es64 Rs64 fz6_65 => ?_)
            have E66 := (Ext.refl (b := b) (σ := σ)).trans es64
            exact thr_O Gs64 E66 (Rs64.le (by omega) (by omega) (by omega) (by omega))
        · unfold pc_X4_look_38
          refine wtN (G.tg 16) ?_
          refine cl_O (s_spend (k := k) (s := s) (o := o) (z := z) (by omega) G (R.le (by omega) (by omega) (by omega) (by omega)) ⟨by omega, by omega⟩) (Ext.refl (b := b) (σ := σ)) (by omega) (by omega) (by omega) (by omega) (fun s67 z3_68 rz3_68 Gs67 es67 Rs67 fz3_68 => ?_)
          obtain ⟨Qz3_68, Lz3_68, Fz3_68⟩ := fz3_68
          have E69 := (Ext.refl (b := b) (σ := σ)).trans es67
          unfold pc_X4_look_44
          refine sf_if (fun c70 => ?_) (fun c70 => ?_)
          · exact ret_O ⟨by decide, by decide⟩ Gs67 E69 (Qz3_68.le (by omega) (by omega) (by omega) (by omega)) (by first | trivial | assumption | omega | (dsimp only; omega))
          · refine wgF (Gs67.tg 16) (Gs67.fi 19 (i := 16) (f := 1) (j := 2)) ?_
            refine wgN (Gs67.tg 16) (fun z3_72 hz3_72 => ?_)
            have rz3_72 : inR z3_72 := hz3_72 ▸ Gs67.ir _ _
            refine wtN (Gs67.tg 2) ?_
            refine cl_Z (s_set (k := k + 7) (s := s + 66) (o := o + 40) (z := z) (by omega) Gs67 (Qz3_68.le (by omega) (by omega) (by omega) (by omega)) ⟨by omega, by omega⟩ (by first | assumption | exact inR_of _ | exact ⟨by omega, by omega⟩)) (fun s73 z6_74 rz6_74 Gs73 es73 Rs73 fz6_74 => ?_)
            have E75 := E69.trans es73
            exact thr_O Gs73 E75 (Rs73.le (by omega) (by omega) (by omega) (by omega))
/-- a link with a term -/
def oLt (σ : CS) (x : Int) : Prop := oLn σ x ∧ oN σ (c_pv σ x.toNat 1)
theorem oLt.tg {x : Int} (h : oLt σ x) : 0 ≤ x ∧ c_tg σ x.toNat = 4 := h.1
theorem oLt.ln {x : Int} (h : oLt σ x) : oLn σ x := h.1
theorem oLt.upz {σ' : CS} {x : Int} (h : oLt σ x) (e : Ext0 b σ σ') : oLt σ' x := ⟨h.1.upz e, by rw [e.lk h.1.2]; exact h.2.upz e⟩
theorem oLt.up {σ' : CS} {x : Int} (h : oLt σ x) (e : Ext b σ σ') : oLt σ' x := h.upz e.z
/-- a use of n parts -/
def oV (b : Nat) (σ : CS) (x : Int) (n : Nat) : Prop := oU σ x ∧ oA b σ (c_pv σ x.toNat 8) ∧ c_ln σ (c_pv σ x.toNat 8).toNat = n
theorem oV.upz {σ' : CS} {x : Int} {n : Nat} (h : oV b σ x n) (e : Ext0 b σ σ') : oV b σ' x n := by
  have e8 := e.nd h.1.1.2 8 (by omega)
  refine ⟨h.1.upz e, by rw [e8]; exact h.2.1.upz e, ?_⟩
  rw [e8, e.ln h.2.1.1.2 (by decide)]
  exact h.2.2
theorem oV.up {σ' : CS} {x : Int} {n : Nat} (h : oV b σ x n) (e : Ext b σ σ') : oV b σ' x n := h.upz e.z
theorem pl.succ {m : Nat} {x : Int} (h : pl σ m x) (hx : 0 ≤ x) : ∃ m0, m = m0 + 1 := by
  cases m with
  | zero => exact absurd h (by show ¬ x < 0; omega)
  | succ m => exact ⟨m, rfl⟩
theorem s_head36 {T : CS → Int → Prop} (hd : 7 ≤ d) {k11 : CS → Int → Int → Int → Int → Int → CO} {x3 x4 x6 : Int} {N : Nat} (h6 : 0 ≤ x6 ∧ x6 ≤ 1000000) (rx3 : inR x3) (rx4 : inR x4) : ∀ (n : Nat) {σ : CS} {m : Nat} {x5 x7 : Int}, GG bd b σ → RR bd b σ (k + 2) (s + 10 + m) (o + m) z → oV b σ x3 N → oL σ x4 → pl σ m x5 → inR x5 → (m : Int) ≤ c_pv σ (b + 16) 3 → (-1 ≤ x7 ∧ x7 < (N : Int)) → x7 + 2 ≤ (n : Int) →
    (∀ {σ' : CS} {m' : Nat} {x3' x5' x6' : Int}, GG bd b σ' → RR bd b σ' (k + 2) (s + 10 + m') (o + m') z → oN σ' x3' → inR x3' → oL σ' x4 → pl σ' m' x5' → inR x5' → (m' : Int) ≤ c_pv σ' (b + 16) 3 → c_pv σ (b + 16) 3 + x7 + 1 ≤ c_pv σ' (b + 16) 3 → x6' = x6 + 1 → sf (k11 σ' ((b + 16 : Nat) : Int) x3' x4 x5' x6') (PO bd b σ' k s o z T)) → sf (pc_X4_head_36 (RC bd d) bd k11 n σ ((b + 16 : Nat) : Int) x3 x4 x5 x6 x7) (PO bd b σ k s o z T) := by
  intro n
  induction n with
  | zero =>
    intro σ m x5 x7 G R V t_x4 p_x5 rx5 hm h7 hn hk
    omega
  | succ n ih =>
    intro σ m x5 x7 G R V t_x4 p_x5 rx5 hm h7 hn hk
    have t_x3 := V.1
    have hN := V.2.1.2.2.2.1
    rw [V.2.2] at hN
    have t_x5 := p_x5.p
    unfold pc_X4_head_36
    refine sf_if (fun c1 => ?_) (fun c1 => ?_)
    · refine wg t_x3.tg (fun z2_2 hz2_2 => ?_)
      have rz2_2 : inR z2_2 := hz2_2 ▸ G.ir _ _
      have t_z2_2 : oN σ z2_2 := hz2_2 ▸ G.n6 t_x3.tg (by have := t_x3.2; omega)
      unfold pc_X4_head_331
      refine wck ⟨by omega, by omega⟩ (fun y hy => ?_)
      exact hk G R t_z2_2 (by first | assumption | exact ref_R G R t_z2_2.tg (by decide)) t_x4 p_x5 rx5 hm (by omega) hy
    · refine wtN (G.tg 16) ?_
      refine cl_O (s_spend (k := k + 1) (s := s + 4 + m) (o := o + 0 + m) (z := z) (by omega) G (R.le (by omega) (by omega) (by omega) (by omega)) ⟨by omega, by omega⟩) (Ext.refl (b := b) (σ := σ)) (by omega) (by omega) (by omega) (by omega) (fun s3 z5_4 rz5_4 Gs3 es3 Rs3 fz5_4 => ?_)
      obtain ⟨Qz5_4, L5, F5⟩ := fz5_4
      have E5 := (Ext.refl (b := b) (σ := σ)).trans es3
      have t_x3 := t_x3.up es3
      have t_x4 := t_x4.up es3
      have t_x5 := t_x5.up es3
      have V := V.up es3
      have p_x5 := p_x5.up es3
      refine sf_n (rr_room Gs3 (Qz5_4.le (k' := (k + 7) + 1) (s' := (s + 65 + m) + 5) (o' := (o + 40 + m)) (z' := z) (by omega) (by omega) (by omega) (by omega))) ?_
      refine wgn Gs3 t_x3.tg (by decide) (fun z8_6 hz8_6 => ?_)
      have rz8_6 : inR z8_6 := hz8_6 ▸ Gs3.ir _ _
      have t_z8_6 : oA b s3 z8_6 := hz8_6 ▸ Gs3.n8 t_x3.tg t_x3.2
      have l_8 : c_ln s3 (z8_6).toNat = N := by rw [← hz8_6]; exact V.2.2
      refine wrn Gs3 t_z8_6.tg (by decide) ⟨by omega, by omega⟩ (fun z9_7 hz9_7 => ?_)
      have rz9_7 : inR z9_7 := hz9_7 ▸ Gs3.ir _ _
      have t_z9_7 : oN s3 z9_7 := hz9_7 ▸ t_z8_6.2.2.2.2 _ (by omega)
      refine mk_part (k := k + 7) (s := s + 65 + m) (o := o + 40 + m) (z := z) (by omega) Gs3 (Qz5_4.le (by omega) (by omega) (by omega) (by omega)) ⟨⟨by decide, by decide⟩, (by first | assumption | exact ref_R Gs3 Qz5_4 t_z9_7.tg (by decide)), (by first | assumption | exact ref_R Gs3 Qz5_4 t_x4.tg (by decide)), (by first | assumption | exact ref_R Gs3 Qz5_4 t_x5.tg (by decide))⟩ (by omega) t_z9_7 t_x4 t_x5 (fun s8 Gs8 es8 Rs8 fs8 => ?_)
      obtain ⟨t_z7_s8, v_z7_s8, Fm⟩ := fs8
      have E9 := E5.trans es8
      have t_x3 := t_x3.up es8
      have t_x4 := t_x4.up es8
      have V := V.up es8
      have p_x5 := p_x5.up es8
      have p_7 : pl s8 (m + 1) ((c_hp s3 : Nat) : Int) := ⟨t_z7_s8, by rw [v_z7_s8]; exact p_x5⟩
      have l_7 := Fm (b + 16) 3 (by have := Gs3.hp; omega)
      have r_7 := hp_R Gs3 Qz5_4
      refine wck ⟨by omega, by omega⟩ (fun z13_10 hz13_10 => ?_)
      exact tr_O E9 (ih (m := m + 1) Gs8 (Rs8.le (by omega) (by omega) (by omega) (by omega)) V t_x4 p_7 r_7 (by omega) (by omega) (by omega) (fun a1 a2 a3 a4 a5 a6 a7 a8 a9 a10 => hk a1 a2 a3 a4 a5 a6 a7 a8 (by omega) a10))
/-- a head of m parts; one that binds -/
def oHm (σ : CS) (x : Int) (m : Nat) : Prop := oHd σ x ∧ pl σ m (c_pv σ x.toNat 3)
theorem oHm.upz {σ' : CS} {x : Int} {m : Nat} (h : oHm σ x m) (e : Ext0 b σ σ') : oHm σ' x m := ⟨h.1.upz e, by rw [e.hd h.1.2]; exact h.2.upz e⟩
theorem oHm.up {σ' : CS} {x : Int} {m : Nat} (h : oHm σ x m) (e : Ext b σ σ') : oHm σ' x m := h.upz e.z
def oHB (σ : CS) (x : Int) : Prop := oHd σ x ∧ oB σ (c_pv σ x.toNat 0)
theorem oHB.upz {σ' : CS} {x : Int} (h : oHB σ x) (e : Ext0 b σ σ') : oHB σ' x := ⟨h.1.upz e, by rw [e.hd h.1.2]; exact h.2.upz e⟩
theorem oHB.up {σ' : CS} {x : Int} (h : oHB σ x) (e : Ext b σ σ') : oHB σ' x := h.upz e.z
theorem s_head11 (hd : 9 ≤ d) : ∀ (n : Nat) {σ : CS} {m : Nat} {x3 x4 x5 x6 : Int}, GG bd b σ → RR bd b σ (k + 2) (s + 10 + m) (o + m) z → oN σ x3 → inR x3 → oL σ x4 → inR x4 → pl σ m x5 → inR x5 → (m : Int) ≤ c_pv σ (b + 16) 3 → (0 ≤ x6 ∧ x6 ≤ c_pv σ (b + 16) 3) → 60001 - c_pv σ (b + 16) 3 ≤ (n : Int) → sf (pc_X4_head_11 (RC bd d) bd n σ ((b + 16 : Nat) : Int) x3 x4 x5 x6) (PO bd b σ k s o z (fun σ' r => ∃ m, oHm σ' r m ∧ m ≤ 60000 ∧ RR bd b σ' (k + 1) (s + 6 + m) (o + m) z ∧ c_pv σ' (c_pv σ' r.toNat 0).toNat 0 ≤ 5)) := by
  intro n
  induction n with
  | zero =>
    intro σ m x3 x4 x5 x6 G R t_x3 rx3 t_x4 rx4 p_x5 rx5 hm h6 hn
    have := G.nu 16 3
    omega
  | succ n ih =>
    intro σ m x3 x4 x5 x6 G R t_x3 rx3 t_x4 rx4 p_x5 rx5 hm h6 hn
    have t_x5 := p_x5.p
    have n163 := G.nu 16 3
    unfold pc_X4_head_11
    refine sf_if (fun c1 => ?_) (fun c1 => ?_)
    · exfalso; omega
    · refine wg t_x3.tg (fun z8_2 hz8_2 => ?_)
      have rz8_2 : inR z8_2 := hz8_2 ▸ G.ir _ _
      have fz8_2 := G.kd t_x3.tg
      rw [hz8_2] at fz8_2
      refine sf_if (fun c3 => ?_) (fun c3 => ?_)
      · refine wg t_x3.tg (fun z10_4 hz10_4 => ?_)
        have rz10_4 : inR z10_4 := hz10_4 ▸ G.ir _ _
        have fz10_4 := G.kd t_x3.tg
        rw [hz10_4] at fz10_4
        refine sf_if (fun c5 => ?_) (fun c5 => ?_)
        · refine wg t_x3.tg (fun z12_6 hz12_6 => ?_)
          have rz12_6 : inR z12_6 := hz12_6 ▸ G.ir _ _
          have fz12_6 := G.kd t_x3.tg
          rw [hz12_6] at fz12_6
          refine sf_if (fun c7 => ?_) (fun c7 => ?_)
          · unfold pc_X4_head_182
            refine wg t_x3.tg (fun z1_8 hz1_8 => ?_)
            have rz1_8 : inR z1_8 := hz1_8 ▸ G.ir _ _
            have fz1_8 := G.kd t_x3.tg
            rw [hz1_8] at fz1_8
            refine sf_if (fun c9 => ?_) (fun c9 => ?_)
            · unfold pc_X4_head_227
              refine wg t_x3.tg (fun z1_10 hz1_10 => ?_)
              have rz1_10 : inR z1_10 := hz1_10 ▸ G.ir _ _
              have fz1_10 := G.kd t_x3.tg
              rw [hz1_10] at fz1_10
              refine sf_if (fun c11 => ?_) (fun c11 => ?_)
              · refine sf_n (rr_room G (R.le (k' := (k + 1) + 1) (s' := (s + 6 + m) + 4) (o' := (o + 0 + m)) (z' := z) (by omega) (by omega) (by omega) (by omega))) ?_
                refine wgn G t_x3.tg (by decide) (fun z5_12 hz5_12 => ?_)
                have rz5_12 : inR z5_12 := hz5_12 ▸ G.ir _ _
                have fz5_12 : oid z5_12 := hz5_12 ▸ G.ni t_x3.tg
                refine mk_head (k := k + 1) (s := s + 6 + m) (o := o + 0 + m) (z := z) (by omega) G (R.le (by omega) (by omega) (by omega) (by omega)) ⟨(by first | assumption | exact ref_R G R t_x3.tg (by decide)), (by first | assumption | exact inR_of _ | exact ⟨by omega, by omega⟩), (by first | assumption | exact ref_R G R t_x4.tg (by decide)), (by first | assumption | exact ref_R G R t_x5.tg (by decide))⟩ t_x3 (by first | assumption | exact ⟨by omega, by omega⟩) t_x4 t_x5 (fun s13 Gs13 es13 Rs13 fs13 => ?_)
                obtain ⟨t_h, v_h, Fm⟩ := fs13
                have E14 := (Ext.refl (b := b) (σ := σ)).trans es13
                have p_x5 := p_x5.up es13
                have Rs_h := Rs13
                have k5h : c_pv s13 (c_pv s13 ((c_hp σ : Nat) : Int).toNat 0).toNat 0 ≤ 5 := by
                  rw [v_h.1, Fm _ _ (by have := G.lt (a := x3.toNat) (by rw [t_x3.tg.2]; decide); omega)]
                  omega
                exact ret_O (by first | assumption | exact ref_R Gs13 Rs13 t_h.tg (by decide) | exact ⟨by omega, by omega⟩) Gs13 E14 (Rs13.le (by omega) (by omega) (by omega) (by omega)) (by first | trivial | assumption | omega | (dsimp only; omega) | exact ⟨m, ⟨t_h, by rw [v_h.2]; exact p_x5⟩, by omega, Rs_h.le (by omega) (by omega) (by omega) (by omega), k5h⟩)
              · refine wg t_x3.tg (fun z9_15 hz9_15 => ?_)
                have rz9_15 : inR z9_15 := hz9_15 ▸ G.ir _ _
                have fz9_15 : oid z9_15 := hz9_15 ▸ G.ni t_x3.tg
                refine cl_U (s_find (by omega) G R (by first | assumption | exact ref_R G R t_x4.tg (by decide)) t_x4) (fun z12_17 rz12_17 fz12_17 => ?_)
                have t_z12_17 := fz12_17
                refine sf_if (fun c18 => ?_) (fun c18 => ?_)
                · unfold pc_X4_head_259
                  refine sf_if (fun c19 => ?_) (fun c19 => ?_)
                  · have t_z12_17 := t_z12_17.pos (by omega)
                    refine wg t_z12_17.tg (fun z2_20 hz2_20 => ?_)
                    have rz2_20 : inR z2_20 := hz2_20 ▸ G.ir _ _
                    have fz2_20 : oid z2_20 := hz2_20 ▸ (G.lkf t_z12_17.tg).2.2.2.1
                    unfold pc_X4_head_276
                    refine sf_n (rr_room G (R.le (k' := (k + 1) + 1) (s' := (s + 6 + m) + 4) (o' := (o + 0 + m)) (z' := z) (by omega) (by omega) (by omega) (by omega))) ?_
                    refine mk_head (k := k + 1) (s := s + 6 + m) (o := o + 0 + m) (z := z) (by omega) G (R.le (by omega) (by omega) (by omega) (by omega)) ⟨(by first | assumption | exact ref_R G R t_x3.tg (by decide)), (by first | assumption | exact inR_of _ | exact ⟨by omega, by omega⟩), (by first | assumption | exact ref_R G R t_x4.tg (by decide)), (by first | assumption | exact ref_R G R t_x5.tg (by decide))⟩ t_x3 (by first | assumption | exact ⟨by omega, by omega⟩) t_x4 t_x5 (fun s21 Gs21 es21 Rs21 fs21 => ?_)
                    obtain ⟨t_h, v_h, Fm⟩ := fs21
                    have E22 := (Ext.refl (b := b) (σ := σ)).trans es21
                    have p_x5 := p_x5.up es21
                    have Rs_h := Rs21
                    have k5h : c_pv s21 (c_pv s21 ((c_hp σ : Nat) : Int).toNat 0).toNat 0 ≤ 5 := by
                      rw [v_h.1, Fm _ _ (by have := G.lt (a := x3.toNat) (by rw [t_x3.tg.2]; decide); omega)]
                      omega
                    exact ret_O (by first | assumption | exact ref_R Gs21 Rs21 t_h.tg (by decide) | exact ⟨by omega, by omega⟩) Gs21 E22 (Rs21.le (by omega) (by omega) (by omega) (by omega)) (by first | trivial | assumption | omega | (dsimp only; omega) | exact ⟨m, ⟨t_h, by rw [v_h.2]; exact p_x5⟩, by omega, Rs_h.le (by omega) (by omega) (by omega) (by omega), k5h⟩)
                  · refine wg t_x3.tg (fun z3_23 hz3_23 => ?_)
                    have rz3_23 : inR z3_23 := hz3_23 ▸ G.ir _ _
                    have fz3_23 : oid z3_23 := hz3_23 ▸ G.ni t_x3.tg
                    unfold pc_X4_head_276
                    refine sf_n (rr_room G (R.le (k' := (k + 1) + 1) (s' := (s + 6 + m) + 4) (o' := (o + 0 + m)) (z' := z) (by omega) (by omega) (by omega) (by omega))) ?_
                    refine mk_head (k := k + 1) (s := s + 6 + m) (o := o + 0 + m) (z := z) (by omega) G (R.le (by omega) (by omega) (by omega) (by omega)) ⟨(by first | assumption | exact ref_R G R t_x3.tg (by decide)), (by first | assumption | exact inR_of _ | exact ⟨by omega, by omega⟩), (by first | assumption | exact ref_R G R t_x4.tg (by decide)), (by first | assumption | exact ref_R G R t_x5.tg (by decide))⟩ t_x3 (by first | assumption | exact ⟨by omega, by omega⟩) t_x4 t_x5 (fun s24 Gs24 es24 Rs24 fs24 => ?_)
                    obtain ⟨t_h, v_h, Fm⟩ := fs24
                    have E25 := (Ext.refl (b := b) (σ := σ)).trans es24
                    have p_x5 := p_x5.up es24
                    have Rs_h := Rs24
                    have k5h : c_pv s24 (c_pv s24 ((c_hp σ : Nat) : Int).toNat 0).toNat 0 ≤ 5 := by
                      rw [v_h.1, Fm _ _ (by have := G.lt (a := x3.toNat) (by rw [t_x3.tg.2]; decide); omega)]
                      omega
                    exact ret_O (by first | assumption | exact ref_R Gs24 Rs24 t_h.tg (by decide) | exact ⟨by omega, by omega⟩) Gs24 E25 (Rs24.le (by omega) (by omega) (by omega) (by omega)) (by first | trivial | assumption | omega | (dsimp only; omega) | exact ⟨m, ⟨t_h, by rw [v_h.2]; exact p_x5⟩, by omega, Rs_h.le (by omega) (by omega) (by omega) (by omega), k5h⟩)
                · have t_z12_17 := t_z12_17.pos (by omega)
                  refine wg t_z12_17.tg (fun z14_26 hz14_26 => ?_)
                  have rz14_26 : inR z14_26 := hz14_26 ▸ G.ir _ _
                  have t_z14_26 : oNN σ z14_26 := hz14_26 ▸ (G.lkf t_z12_17.tg).2.1
                  refine sf_if (fun c27 => ?_) (fun c27 => ?_)
                  · have t_z14_26 := t_z14_26.pos (by omega)
                    have t_z12_17 : oLt σ z12_17 := ⟨t_z12_17, hz14_26 ▸ t_z14_26⟩
                    refine wtN (G.tg 16) ?_
                    refine cl_O (s_spend (k := k + 1) (s := s + 4 + m) (o := o + 0 + m) (z := z) (by omega) G (R.le (by omega) (by omega) (by omega) (by omega)) ⟨by omega, by omega⟩) (Ext.refl (b := b) (σ := σ)) (by omega) (by omega) (by omega) (by omega) (fun s28 z18_29 rz18_29 Gs28 es28 Rs28 fz18_29 => ?_)
                    obtain ⟨Qz18_29, L_s, F_s⟩ := fz18_29
                    have E30 := (Ext.refl (b := b) (σ := σ)).trans es28
                    have t_x5 := t_x5.up es28
                    have t_z12_17 := t_z12_17.up es28
                    have p_x5 := p_x5.up es28
                    refine wg t_z12_17.tg (fun z19_31 hz19_31 => ?_)
                    have rz19_31 : inR z19_31 := hz19_31 ▸ Gs28.ir _ _
                    have t_z19_31 : oN s28 z19_31 := hz19_31 ▸ t_z12_17.2
                    refine wg t_z12_17.tg (fun z20_32 hz20_32 => ?_)
                    have rz20_32 : inR z20_32 := hz20_32 ▸ Gs28.ir _ _
                    have t_z20_32 : oL s28 z20_32 := hz20_32 ▸ (Gs28.lkf t_z12_17.tg).2.2.1
                    unfold pc_X4_head_331
                    refine wck ⟨by omega, by omega⟩ (fun z1_33 hz1_33 => ?_)
                    first
                    | exact tr_O E30 (ih (m := m0) Gs28 (Qz18_29.le (by omega) (by omega) (by omega) (by omega)) t_z19_31 (by first | assumption | exact ref_R Gs28 Qz18_29 t_z19_31.tg (by decide)) t_z20_32 (by first | assumption | exact ref_R Gs28 Qz18_29 t_z20_32.tg (by decide)) p_26 (by first | assumption | exact ref_R Gs28 Qz18_29 t_x5.tg (by decide)) (by omega) (by omega) (by omega))
                    | exact tr_O E30 (ih (m := m0 + 1) Gs28 (Qz18_29.le (by omega) (by omega) (by omega) (by omega)) t_z19_31 (by first | assumption | exact ref_R Gs28 Qz18_29 t_z19_31.tg (by decide)) t_z20_32 (by first | assumption | exact ref_R Gs28 Qz18_29 t_z20_32.tg (by decide)) p_x5 (by first | assumption | exact ref_R Gs28 Qz18_29 t_x5.tg (by decide)) (by omega) (by omega) (by omega))
                    | exact tr_O E30 (ih (m := m) Gs28 (Qz18_29.le (by omega) (by omega) (by omega) (by omega)) t_z19_31 (by first | assumption | exact ref_R Gs28 Qz18_29 t_z19_31.tg (by decide)) t_z20_32 (by first | assumption | exact ref_R Gs28 Qz18_29 t_z20_32.tg (by decide)) p_x5 (by first | assumption | exact ref_R Gs28 Qz18_29 t_x5.tg (by decide)) (by omega) (by omega) (by omega))
                  · unfold pc_X4_head_259
                    refine sf_if (fun c34 => ?_) (fun c34 => ?_)
                    · refine wg t_z12_17.tg (fun z2_35 hz2_35 => ?_)
                      have rz2_35 : inR z2_35 := hz2_35 ▸ G.ir _ _
                      have fz2_35 : oid z2_35 := hz2_35 ▸ (G.lkf t_z12_17.tg).2.2.2.1
                      unfold pc_X4_head_276
                      refine sf_n (rr_room G (R.le (k' := (k + 1) + 1) (s' := (s + 6 + m) + 4) (o' := (o + 0 + m)) (z' := z) (by omega) (by omega) (by omega) (by omega))) ?_
                      refine mk_head (k := k + 1) (s := s + 6 + m) (o := o + 0 + m) (z := z) (by omega) G (R.le (by omega) (by omega) (by omega) (by omega)) ⟨(by first | assumption | exact ref_R G R t_x3.tg (by decide)), (by first | assumption | exact inR_of _ | exact ⟨by omega, by omega⟩), (by first | assumption | exact ref_R G R t_x4.tg (by decide)), (by first | assumption | exact ref_R G R t_x5.tg (by decide))⟩ t_x3 (by first | assumption | exact ⟨by omega, by omega⟩) t_x4 t_x5 (fun s36 Gs36 es36 Rs36 fs36 => ?_)
                      obtain ⟨t_h, v_h, Fm⟩ := fs36
                      have E37 := (Ext.refl (b := b) (σ := σ)).trans es36
                      have p_x5 := p_x5.up es36
                      have Rs_h := Rs36
                      have k5h : c_pv s36 (c_pv s36 ((c_hp σ : Nat) : Int).toNat 0).toNat 0 ≤ 5 := by
                        rw [v_h.1, Fm _ _ (by have := G.lt (a := x3.toNat) (by rw [t_x3.tg.2]; decide); omega)]
                        omega
                      exact ret_O (by first | assumption | exact ref_R Gs36 Rs36 t_h.tg (by decide) | exact ⟨by omega, by omega⟩) Gs36 E37 (Rs36.le (by omega) (by omega) (by omega) (by omega)) (by first | trivial | assumption | omega | (dsimp only; omega) | exact ⟨m, ⟨t_h, by rw [v_h.2]; exact p_x5⟩, by omega, Rs_h.le (by omega) (by omega) (by omega) (by omega), k5h⟩)
                    · refine wg t_x3.tg (fun z3_38 hz3_38 => ?_)
                      have rz3_38 : inR z3_38 := hz3_38 ▸ G.ir _ _
                      have fz3_38 : oid z3_38 := hz3_38 ▸ G.ni t_x3.tg
                      unfold pc_X4_head_276
                      refine sf_n (rr_room G (R.le (k' := (k + 1) + 1) (s' := (s + 6 + m) + 4) (o' := (o + 0 + m)) (z' := z) (by omega) (by omega) (by omega) (by omega))) ?_
                      refine mk_head (k := k + 1) (s := s + 6 + m) (o := o + 0 + m) (z := z) (by omega) G (R.le (by omega) (by omega) (by omega) (by omega)) ⟨(by first | assumption | exact ref_R G R t_x3.tg (by decide)), (by first | assumption | exact inR_of _ | exact ⟨by omega, by omega⟩), (by first | assumption | exact ref_R G R t_x4.tg (by decide)), (by first | assumption | exact ref_R G R t_x5.tg (by decide))⟩ t_x3 (by first | assumption | exact ⟨by omega, by omega⟩) t_x4 t_x5 (fun s39 Gs39 es39 Rs39 fs39 => ?_)
                      obtain ⟨t_h, v_h, Fm⟩ := fs39
                      have E40 := (Ext.refl (b := b) (σ := σ)).trans es39
                      have p_x5 := p_x5.up es39
                      have Rs_h := Rs39
                      have k5h : c_pv s39 (c_pv s39 ((c_hp σ : Nat) : Int).toNat 0).toNat 0 ≤ 5 := by
                        rw [v_h.1, Fm _ _ (by have := G.lt (a := x3.toNat) (by rw [t_x3.tg.2]; decide); omega)]
                        omega
                      exact ret_O (by first | assumption | exact ref_R Gs39 Rs39 t_h.tg (by decide) | exact ⟨by omega, by omega⟩) Gs39 E40 (Rs39.le (by omega) (by omega) (by omega) (by omega)) (by first | trivial | assumption | omega | (dsimp only; omega) | exact ⟨m, ⟨t_h, by rw [v_h.2]; exact p_x5⟩, by omega, Rs_h.le (by omega) (by omega) (by omega) (by omega), k5h⟩)
            · refine wgF (G.tg 16) (G.fi 18 (i := 16) (f := 0) (j := 3)) ?_
              refine wg t_x3.tg (fun z4_42 hz4_42 => ?_)
              have rz4_42 : inR z4_42 := hz4_42 ▸ G.ir _ _
              have fz4_42 : oid z4_42 := hz4_42 ▸ G.ni t_x3.tg
              refine wtN (G.tg 3) ?_
              refine cl_U (s_valueOf (by omega) G) (fun z7_44 rz7_44 fz7_44 => ?_)
              have t_z7_44 := fz7_44
              obtain ⟨t_z7_44, v1_7, v2_7⟩ := fz7_44
              have g7 := G
              have tx7 := t_x3.tg
              refine sf_if (fun c45 => ?_) (fun c45 => ?_)
              · unfold pc_X4_head_227
                refine wg t_x3.tg (fun z1_46 hz1_46 => ?_)
                have rz1_46 : inR z1_46 := hz1_46 ▸ G.ir _ _
                have fz1_46 := G.kd t_x3.tg
                rw [hz1_46] at fz1_46
                refine sf_if (fun c47 => ?_) (fun c47 => ?_)
                · refine sf_n (rr_room G (R.le (k' := (k + 1) + 1) (s' := (s + 6 + m) + 4) (o' := (o + 0 + m)) (z' := z) (by omega) (by omega) (by omega) (by omega))) ?_
                  refine wgn G t_x3.tg (by decide) (fun z5_48 hz5_48 => ?_)
                  have rz5_48 : inR z5_48 := hz5_48 ▸ G.ir _ _
                  have fz5_48 : oid z5_48 := hz5_48 ▸ G.ni t_x3.tg
                  refine mk_head (k := k + 1) (s := s + 6 + m) (o := o + 0 + m) (z := z) (by omega) G (R.le (by omega) (by omega) (by omega) (by omega)) ⟨(by first | assumption | exact ref_R G R t_x3.tg (by decide)), (by first | assumption | exact inR_of _ | exact ⟨by omega, by omega⟩), (by first | assumption | exact ref_R G R t_x4.tg (by decide)), (by first | assumption | exact ref_R G R t_x5.tg (by decide))⟩ t_x3 (by first | assumption | exact ⟨by omega, by omega⟩) t_x4 t_x5 (fun s49 Gs49 es49 Rs49 fs49 => ?_)
                  obtain ⟨t_h, v_h, Fm⟩ := fs49
                  have E50 := (Ext.refl (b := b) (σ := σ)).trans es49
                  have p_x5 := p_x5.up es49
                  have Rs_h := Rs49
                  have k5h : c_pv s49 (c_pv s49 ((c_hp σ : Nat) : Int).toNat 0).toNat 0 ≤ 5 := by
                    rw [v_h.1, Fm _ _ (by have := G.lt (a := x3.toNat) (by rw [t_x3.tg.2]; decide); omega)]
                    omega
                  exact ret_O (by first | assumption | exact ref_R Gs49 Rs49 t_h.tg (by decide) | exact ⟨by omega, by omega⟩) Gs49 E50 (Rs49.le (by omega) (by omega) (by omega) (by omega)) (by first | trivial | assumption | omega | (dsimp only; omega) | exact ⟨m, ⟨t_h, by rw [v_h.2]; exact p_x5⟩, by omega, Rs_h.le (by omega) (by omega) (by omega) (by omega), k5h⟩)
                · refine wg t_x3.tg (fun z9_51 hz9_51 => ?_)
                  have rz9_51 : inR z9_51 := hz9_51 ▸ G.ir _ _
                  have fz9_51 : oid z9_51 := hz9_51 ▸ G.ni t_x3.tg
                  refine cl_U (s_find (by omega) G R (by first | assumption | exact ref_R G R t_x4.tg (by decide)) t_x4) (fun z12_53 rz12_53 fz12_53 => ?_)
                  have t_z12_53 := fz12_53
                  refine sf_if (fun c54 => ?_) (fun c54 => ?_)
                  · unfold pc_X4_head_259
                    refine sf_if (fun c55 => ?_) (fun c55 => ?_)
                    · have t_z12_53 := t_z12_53.pos (by omega)
                      refine wg t_z12_53.tg (fun z2_56 hz2_56 => ?_)
                      have rz2_56 : inR z2_56 := hz2_56 ▸ G.ir _ _
                      have fz2_56 : oid z2_56 := hz2_56 ▸ (G.lkf t_z12_53.tg).2.2.2.1
                      unfold pc_X4_head_276
                      refine sf_n (rr_room G (R.le (k' := (k + 1) + 1) (s' := (s + 6 + m) + 4) (o' := (o + 0 + m)) (z' := z) (by omega) (by omega) (by omega) (by omega))) ?_
                      refine mk_head (k := k + 1) (s := s + 6 + m) (o := o + 0 + m) (z := z) (by omega) G (R.le (by omega) (by omega) (by omega) (by omega)) ⟨(by first | assumption | exact ref_R G R t_x3.tg (by decide)), (by first | assumption | exact inR_of _ | exact ⟨by omega, by omega⟩), (by first | assumption | exact ref_R G R t_x4.tg (by decide)), (by first | assumption | exact ref_R G R t_x5.tg (by decide))⟩ t_x3 (by first | assumption | exact ⟨by omega, by omega⟩) t_x4 t_x5 (fun s57 Gs57 es57 Rs57 fs57 => ?_)
                      obtain ⟨t_h, v_h, Fm⟩ := fs57
                      have E58 := (Ext.refl (b := b) (σ := σ)).trans es57
                      have p_x5 := p_x5.up es57
                      have Rs_h := Rs57
                      have k5h : c_pv s57 (c_pv s57 ((c_hp σ : Nat) : Int).toNat 0).toNat 0 ≤ 5 := by
                        rw [v_h.1, Fm _ _ (by have := G.lt (a := x3.toNat) (by rw [t_x3.tg.2]; decide); omega)]
                        omega
                      exact ret_O (by first | assumption | exact ref_R Gs57 Rs57 t_h.tg (by decide) | exact ⟨by omega, by omega⟩) Gs57 E58 (Rs57.le (by omega) (by omega) (by omega) (by omega)) (by first | trivial | assumption | omega | (dsimp only; omega) | exact ⟨m, ⟨t_h, by rw [v_h.2]; exact p_x5⟩, by omega, Rs_h.le (by omega) (by omega) (by omega) (by omega), k5h⟩)
                    · refine wg t_x3.tg (fun z3_59 hz3_59 => ?_)
                      have rz3_59 : inR z3_59 := hz3_59 ▸ G.ir _ _
                      have fz3_59 : oid z3_59 := hz3_59 ▸ G.ni t_x3.tg
                      unfold pc_X4_head_276
                      refine sf_n (rr_room G (R.le (k' := (k + 1) + 1) (s' := (s + 6 + m) + 4) (o' := (o + 0 + m)) (z' := z) (by omega) (by omega) (by omega) (by omega))) ?_
                      refine mk_head (k := k + 1) (s := s + 6 + m) (o := o + 0 + m) (z := z) (by omega) G (R.le (by omega) (by omega) (by omega) (by omega)) ⟨(by first | assumption | exact ref_R G R t_x3.tg (by decide)), (by first | assumption | exact inR_of _ | exact ⟨by omega, by omega⟩), (by first | assumption | exact ref_R G R t_x4.tg (by decide)), (by first | assumption | exact ref_R G R t_x5.tg (by decide))⟩ t_x3 (by first | assumption | exact ⟨by omega, by omega⟩) t_x4 t_x5 (fun s60 Gs60 es60 Rs60 fs60 => ?_)
                      obtain ⟨t_h, v_h, Fm⟩ := fs60
                      have E61 := (Ext.refl (b := b) (σ := σ)).trans es60
                      have p_x5 := p_x5.up es60
                      have Rs_h := Rs60
                      have k5h : c_pv s60 (c_pv s60 ((c_hp σ : Nat) : Int).toNat 0).toNat 0 ≤ 5 := by
                        rw [v_h.1, Fm _ _ (by have := G.lt (a := x3.toNat) (by rw [t_x3.tg.2]; decide); omega)]
                        omega
                      exact ret_O (by first | assumption | exact ref_R Gs60 Rs60 t_h.tg (by decide) | exact ⟨by omega, by omega⟩) Gs60 E61 (Rs60.le (by omega) (by omega) (by omega) (by omega)) (by first | trivial | assumption | omega | (dsimp only; omega) | exact ⟨m, ⟨t_h, by rw [v_h.2]; exact p_x5⟩, by omega, Rs_h.le (by omega) (by omega) (by omega) (by omega), k5h⟩)
                  · have t_z12_53 := t_z12_53.pos (by omega)
                    refine wg t_z12_53.tg (fun z14_62 hz14_62 => ?_)
                    have rz14_62 : inR z14_62 := hz14_62 ▸ G.ir _ _
                    have t_z14_62 : oNN σ z14_62 := hz14_62 ▸ (G.lkf t_z12_53.tg).2.1
                    refine sf_if (fun c63 => ?_) (fun c63 => ?_)
                    · have t_z14_62 := t_z14_62.pos (by omega)
                      have t_z12_53 : oLt σ z12_53 := ⟨t_z12_53, hz14_62 ▸ t_z14_62⟩
                      refine wtN (G.tg 16) ?_
                      refine cl_O (s_spend (k := k + 1) (s := s + 4 + m) (o := o + 0 + m) (z := z) (by omega) G (R.le (by omega) (by omega) (by omega) (by omega)) ⟨by omega, by omega⟩) (Ext.refl (b := b) (σ := σ)) (by omega) (by omega) (by omega) (by omega) (fun s64 z18_65 rz18_65 Gs64 es64 Rs64 fz18_65 => ?_)
                      obtain ⟨Qz18_65, L_s, F_s⟩ := fz18_65
                      have E66 := (Ext.refl (b := b) (σ := σ)).trans es64
                      have t_x5 := t_x5.up es64
                      have t_z12_53 := t_z12_53.up es64
                      have p_x5 := p_x5.up es64
                      refine wg t_z12_53.tg (fun z19_67 hz19_67 => ?_)
                      have rz19_67 : inR z19_67 := hz19_67 ▸ Gs64.ir _ _
                      have t_z19_67 : oN s64 z19_67 := hz19_67 ▸ t_z12_53.2
                      refine wg t_z12_53.tg (fun z20_68 hz20_68 => ?_)
                      have rz20_68 : inR z20_68 := hz20_68 ▸ Gs64.ir _ _
                      have t_z20_68 : oL s64 z20_68 := hz20_68 ▸ (Gs64.lkf t_z12_53.tg).2.2.1
                      unfold pc_X4_head_331
                      refine wck ⟨by omega, by omega⟩ (fun z1_69 hz1_69 => ?_)
                      first
                      | exact tr_O E66 (ih (m := m0) Gs64 (Qz18_65.le (by omega) (by omega) (by omega) (by omega)) t_z19_67 (by first | assumption | exact ref_R Gs64 Qz18_65 t_z19_67.tg (by decide)) t_z20_68 (by first | assumption | exact ref_R Gs64 Qz18_65 t_z20_68.tg (by decide)) p_26 (by first | assumption | exact ref_R Gs64 Qz18_65 t_x5.tg (by decide)) (by omega) (by omega) (by omega))
                      | exact tr_O E66 (ih (m := m0 + 1) Gs64 (Qz18_65.le (by omega) (by omega) (by omega) (by omega)) t_z19_67 (by first | assumption | exact ref_R Gs64 Qz18_65 t_z19_67.tg (by decide)) t_z20_68 (by first | assumption | exact ref_R Gs64 Qz18_65 t_z20_68.tg (by decide)) p_x5 (by first | assumption | exact ref_R Gs64 Qz18_65 t_x5.tg (by decide)) (by omega) (by omega) (by omega))
                      | exact tr_O E66 (ih (m := m) Gs64 (Qz18_65.le (by omega) (by omega) (by omega) (by omega)) t_z19_67 (by first | assumption | exact ref_R Gs64 Qz18_65 t_z19_67.tg (by decide)) t_z20_68 (by first | assumption | exact ref_R Gs64 Qz18_65 t_z20_68.tg (by decide)) p_x5 (by first | assumption | exact ref_R Gs64 Qz18_65 t_x5.tg (by decide)) (by omega) (by omega) (by omega))
                    · unfold pc_X4_head_259
                      refine sf_if (fun c70 => ?_) (fun c70 => ?_)
                      · refine wg t_z12_53.tg (fun z2_71 hz2_71 => ?_)
                        have rz2_71 : inR z2_71 := hz2_71 ▸ G.ir _ _
                        have fz2_71 : oid z2_71 := hz2_71 ▸ (G.lkf t_z12_53.tg).2.2.2.1
                        unfold pc_X4_head_276
                        refine sf_n (rr_room G (R.le (k' := (k + 1) + 1) (s' := (s + 6 + m) + 4) (o' := (o + 0 + m)) (z' := z) (by omega) (by omega) (by omega) (by omega))) ?_
                        refine mk_head (k := k + 1) (s := s + 6 + m) (o := o + 0 + m) (z := z) (by omega) G (R.le (by omega) (by omega) (by omega) (by omega)) ⟨(by first | assumption | exact ref_R G R t_x3.tg (by decide)), (by first | assumption | exact inR_of _ | exact ⟨by omega, by omega⟩), (by first | assumption | exact ref_R G R t_x4.tg (by decide)), (by first | assumption | exact ref_R G R t_x5.tg (by decide))⟩ t_x3 (by first | assumption | exact ⟨by omega, by omega⟩) t_x4 t_x5 (fun s72 Gs72 es72 Rs72 fs72 => ?_)
                        obtain ⟨t_h, v_h, Fm⟩ := fs72
                        have E73 := (Ext.refl (b := b) (σ := σ)).trans es72
                        have p_x5 := p_x5.up es72
                        have Rs_h := Rs72
                        have k5h : c_pv s72 (c_pv s72 ((c_hp σ : Nat) : Int).toNat 0).toNat 0 ≤ 5 := by
                          rw [v_h.1, Fm _ _ (by have := G.lt (a := x3.toNat) (by rw [t_x3.tg.2]; decide); omega)]
                          omega
                        exact ret_O (by first | assumption | exact ref_R Gs72 Rs72 t_h.tg (by decide) | exact ⟨by omega, by omega⟩) Gs72 E73 (Rs72.le (by omega) (by omega) (by omega) (by omega)) (by first | trivial | assumption | omega | (dsimp only; omega) | exact ⟨m, ⟨t_h, by rw [v_h.2]; exact p_x5⟩, by omega, Rs_h.le (by omega) (by omega) (by omega) (by omega), k5h⟩)
                      · refine wg t_x3.tg (fun z3_74 hz3_74 => ?_)
                        have rz3_74 : inR z3_74 := hz3_74 ▸ G.ir _ _
                        have fz3_74 : oid z3_74 := hz3_74 ▸ G.ni t_x3.tg
                        unfold pc_X4_head_276
                        refine sf_n (rr_room G (R.le (k' := (k + 1) + 1) (s' := (s + 6 + m) + 4) (o' := (o + 0 + m)) (z' := z) (by omega) (by omega) (by omega) (by omega))) ?_
                        refine mk_head (k := k + 1) (s := s + 6 + m) (o := o + 0 + m) (z := z) (by omega) G (R.le (by omega) (by omega) (by omega) (by omega)) ⟨(by first | assumption | exact ref_R G R t_x3.tg (by decide)), (by first | assumption | exact inR_of _ | exact ⟨by omega, by omega⟩), (by first | assumption | exact ref_R G R t_x4.tg (by decide)), (by first | assumption | exact ref_R G R t_x5.tg (by decide))⟩ t_x3 (by first | assumption | exact ⟨by omega, by omega⟩) t_x4 t_x5 (fun s75 Gs75 es75 Rs75 fs75 => ?_)
                        obtain ⟨t_h, v_h, Fm⟩ := fs75
                        have E76 := (Ext.refl (b := b) (σ := σ)).trans es75
                        have p_x5 := p_x5.up es75
                        have Rs_h := Rs75
                        have k5h : c_pv s75 (c_pv s75 ((c_hp σ : Nat) : Int).toNat 0).toNat 0 ≤ 5 := by
                          rw [v_h.1, Fm _ _ (by have := G.lt (a := x3.toNat) (by rw [t_x3.tg.2]; decide); omega)]
                          omega
                        exact ret_O (by first | assumption | exact ref_R Gs75 Rs75 t_h.tg (by decide) | exact ⟨by omega, by omega⟩) Gs75 E76 (Rs75.le (by omega) (by omega) (by omega) (by omega)) (by first | trivial | assumption | omega | (dsimp only; omega) | exact ⟨m, ⟨t_h, by rw [v_h.2]; exact p_x5⟩, by omega, Rs_h.le (by omega) (by omega) (by omega) (by omega), k5h⟩)
              · have t_z7_44 := t_z7_44.pos (by omega)
                refine wtN (G.tg 16) ?_
                refine cl_O (s_spend (k := k + 1) (s := s + 4 + m) (o := o + 0 + m) (z := z) (by omega) G (R.le (by omega) (by omega) (by omega) (by omega)) ⟨by omega, by omega⟩) (Ext.refl (b := b) (σ := σ)) (by omega) (by omega) (by omega) (by omega) (fun s77 z11_78 rz11_78 Gs77 es77 Rs77 fz11_78 => ?_)
                obtain ⟨Qz11_78, L_s, F_s⟩ := fz11_78
                have E79 := (Ext.refl (b := b) (σ := σ)).trans es77
                have t_x3 := t_x3.up es77
                have t_x5 := t_x5.up es77
                have p_x5 := p_x5.up es77
                refine wgF (Gs77.tg 16) (Gs77.fi 18 (i := 16) (f := 0) (j := 3)) ?_
                refine wg t_x3.tg (fun z13_81 hz13_81 => ?_)
                have rz13_81 : inR z13_81 := hz13_81 ▸ Gs77.ir _ _
                have fz13_81 : oid z13_81 := hz13_81 ▸ Gs77.ni t_x3.tg
                have i13 : z13_81 = z4_42 := by rw [← hz13_81, F_s _ _ (by have := g7.ne 16 (by decide) (a := x3.toNat) (by rw [tx7.2]; decide); omega) (by have := g7.ne 17 (by decide) (a := x3.toNat) (by rw [tx7.2]; decide); omega), hz4_42]
                refine wtN (Gs77.tg 3) ?_
                refine cl_U (s_valueOf (by omega) Gs77) (fun z16_83 rz16_83 fz16_83 => ?_)
                have t_z16_83 := fz16_83
                obtain ⟨t_z16_83, v1_8, v2_8⟩ := fz16_83
                have q1 := F_s (b + 9) 2 (by omega) (by omega)
                have q2 := F_s (b + 13) (z4_42).toNat (by omega) (by omega)
                have q3 : 0 ≤ z16_83 := by
                  by_cases c9 : 0 ≤ z4_42 ∧ z4_42 < c_pv σ (b + 9) 2
                  · have a1 := v1_7 c9
                    have a2 := v1_8 (by omega)
                    rw [i13, q2] at a2
                    omega
                  · have a1 := v2_7 c9
                    omega
                have t_z16_83 := t_z16_83.pos q3
                unfold pc_X4_head_331
                refine wck ⟨by omega, by omega⟩ (fun z1_84 hz1_84 => ?_)
                first
                | exact tr_O E79 (ih (m := m0) Gs77 (Qz11_78.le (by omega) (by omega) (by omega) (by omega)) t_z16_83 (by first | assumption | exact ref_R Gs77 Qz11_78 t_z16_83.tg (by decide)) (oL.nul (by decide)) ⟨by decide, by decide⟩ p_26 (by first | assumption | exact ref_R Gs77 Qz11_78 t_x5.tg (by decide)) (by omega) (by omega) (by omega))
                | exact tr_O E79 (ih (m := m0 + 1) Gs77 (Qz11_78.le (by omega) (by omega) (by omega) (by omega)) t_z16_83 (by first | assumption | exact ref_R Gs77 Qz11_78 t_z16_83.tg (by decide)) (oL.nul (by decide)) ⟨by decide, by decide⟩ p_x5 (by first | assumption | exact ref_R Gs77 Qz11_78 t_x5.tg (by decide)) (by omega) (by omega) (by omega))
                | exact tr_O E79 (ih (m := m) Gs77 (Qz11_78.le (by omega) (by omega) (by omega) (by omega)) t_z16_83 (by first | assumption | exact ref_R Gs77 Qz11_78 t_z16_83.tg (by decide)) (oL.nul (by decide)) ⟨by decide, by decide⟩ p_x5 (by first | assumption | exact ref_R Gs77 Qz11_78 t_x5.tg (by decide)) (by omega) (by omega) (by omega))
          · have t_x3 : oB σ x3 := ⟨t_x3, by omega, by omega⟩
            refine sf_if (fun c85 => ?_) (fun c85 => ?_)
            · unfold pc_X4_head_182
              refine wg t_x3.tg (fun z1_86 hz1_86 => ?_)
              have rz1_86 : inR z1_86 := hz1_86 ▸ G.ir _ _
              have fz1_86 := G.kd t_x3.tg
              rw [hz1_86] at fz1_86
              refine sf_if (fun c87 => ?_) (fun c87 => ?_)
              · unfold pc_X4_head_227
                refine wg t_x3.tg (fun z1_88 hz1_88 => ?_)
                have rz1_88 : inR z1_88 := hz1_88 ▸ G.ir _ _
                have fz1_88 := G.kd t_x3.tg
                rw [hz1_88] at fz1_88
                refine sf_if (fun c89 => ?_) (fun c89 => ?_)
                · refine sf_n (rr_room G (R.le (k' := (k + 1) + 1) (s' := (s + 6 + m) + 4) (o' := (o + 0 + m)) (z' := z) (by omega) (by omega) (by omega) (by omega))) ?_
                  refine wgn G t_x3.tg (by decide) (fun z5_90 hz5_90 => ?_)
                  have rz5_90 : inR z5_90 := hz5_90 ▸ G.ir _ _
                  have fz5_90 : oid z5_90 := hz5_90 ▸ G.ni t_x3.tg
                  refine mk_head (k := k + 1) (s := s + 6 + m) (o := o + 0 + m) (z := z) (by omega) G (R.le (by omega) (by omega) (by omega) (by omega)) ⟨(by first | assumption | exact ref_R G R t_x3.tg (by decide)), (by first | assumption | exact inR_of _ | exact ⟨by omega, by omega⟩), (by first | assumption | exact ref_R G R t_x4.tg (by decide)), (by first | assumption | exact ref_R G R t_x5.tg (by decide))⟩ t_x3.n (by first | assumption | exact ⟨by omega, by omega⟩) t_x4 t_x5 (fun s91 Gs91 es91 Rs91 fs91 => ?_)
                  obtain ⟨t_h, v_h, Fm⟩ := fs91
                  have E92 := (Ext.refl (b := b) (σ := σ)).trans es91
                  have p_x5 := p_x5.up es91
                  have Rs_h := Rs91
                  have k5h : c_pv s91 (c_pv s91 ((c_hp σ : Nat) : Int).toNat 0).toNat 0 ≤ 5 := by
                    rw [v_h.1, Fm _ _ (by have := G.lt (a := x3.toNat) (by rw [t_x3.tg.2]; decide); omega)]
                    omega
                  exact ret_O (by first | assumption | exact ref_R Gs91 Rs91 t_h.tg (by decide) | exact ⟨by omega, by omega⟩) Gs91 E92 (Rs91.le (by omega) (by omega) (by omega) (by omega)) (by first | trivial | assumption | omega | (dsimp only; omega) | exact ⟨m, ⟨t_h, by rw [v_h.2]; exact p_x5⟩, by omega, Rs_h.le (by omega) (by omega) (by omega) (by omega), k5h⟩)
                · refine wg t_x3.tg (fun z9_93 hz9_93 => ?_)
                  have rz9_93 : inR z9_93 := hz9_93 ▸ G.ir _ _
                  have fz9_93 : oid z9_93 := hz9_93 ▸ G.ni t_x3.tg
                  refine cl_U (s_find (by omega) G R (by first | assumption | exact ref_R G R t_x4.tg (by decide)) t_x4) (fun z12_95 rz12_95 fz12_95 => ?_)
                  have t_z12_95 := fz12_95
                  refine sf_if (fun c96 => ?_) (fun c96 => ?_)
                  · unfold pc_X4_head_259
                    refine sf_if (fun c97 => ?_) (fun c97 => ?_)
                    · have t_z12_95 := t_z12_95.pos (by omega)
                      refine wg t_z12_95.tg (fun z2_98 hz2_98 => ?_)
                      have rz2_98 : inR z2_98 := hz2_98 ▸ G.ir _ _
                      have fz2_98 : oid z2_98 := hz2_98 ▸ (G.lkf t_z12_95.tg).2.2.2.1
                      unfold pc_X4_head_276
                      refine sf_n (rr_room G (R.le (k' := (k + 1) + 1) (s' := (s + 6 + m) + 4) (o' := (o + 0 + m)) (z' := z) (by omega) (by omega) (by omega) (by omega))) ?_
                      refine mk_head (k := k + 1) (s := s + 6 + m) (o := o + 0 + m) (z := z) (by omega) G (R.le (by omega) (by omega) (by omega) (by omega)) ⟨(by first | assumption | exact ref_R G R t_x3.tg (by decide)), (by first | assumption | exact inR_of _ | exact ⟨by omega, by omega⟩), (by first | assumption | exact ref_R G R t_x4.tg (by decide)), (by first | assumption | exact ref_R G R t_x5.tg (by decide))⟩ t_x3.n (by first | assumption | exact ⟨by omega, by omega⟩) t_x4 t_x5 (fun s99 Gs99 es99 Rs99 fs99 => ?_)
                      obtain ⟨t_h, v_h, Fm⟩ := fs99
                      have E100 := (Ext.refl (b := b) (σ := σ)).trans es99
                      have p_x5 := p_x5.up es99
                      have Rs_h := Rs99
                      have k5h : c_pv s99 (c_pv s99 ((c_hp σ : Nat) : Int).toNat 0).toNat 0 ≤ 5 := by
                        rw [v_h.1, Fm _ _ (by have := G.lt (a := x3.toNat) (by rw [t_x3.tg.2]; decide); omega)]
                        omega
                      exact ret_O (by first | assumption | exact ref_R Gs99 Rs99 t_h.tg (by decide) | exact ⟨by omega, by omega⟩) Gs99 E100 (Rs99.le (by omega) (by omega) (by omega) (by omega)) (by first | trivial | assumption | omega | (dsimp only; omega) | exact ⟨m, ⟨t_h, by rw [v_h.2]; exact p_x5⟩, by omega, Rs_h.le (by omega) (by omega) (by omega) (by omega), k5h⟩)
                    · refine wg t_x3.tg (fun z3_101 hz3_101 => ?_)
                      have rz3_101 : inR z3_101 := hz3_101 ▸ G.ir _ _
                      have fz3_101 : oid z3_101 := hz3_101 ▸ G.ni t_x3.tg
                      unfold pc_X4_head_276
                      refine sf_n (rr_room G (R.le (k' := (k + 1) + 1) (s' := (s + 6 + m) + 4) (o' := (o + 0 + m)) (z' := z) (by omega) (by omega) (by omega) (by omega))) ?_
                      refine mk_head (k := k + 1) (s := s + 6 + m) (o := o + 0 + m) (z := z) (by omega) G (R.le (by omega) (by omega) (by omega) (by omega)) ⟨(by first | assumption | exact ref_R G R t_x3.tg (by decide)), (by first | assumption | exact inR_of _ | exact ⟨by omega, by omega⟩), (by first | assumption | exact ref_R G R t_x4.tg (by decide)), (by first | assumption | exact ref_R G R t_x5.tg (by decide))⟩ t_x3.n (by first | assumption | exact ⟨by omega, by omega⟩) t_x4 t_x5 (fun s102 Gs102 es102 Rs102 fs102 => ?_)
                      obtain ⟨t_h, v_h, Fm⟩ := fs102
                      have E103 := (Ext.refl (b := b) (σ := σ)).trans es102
                      have p_x5 := p_x5.up es102
                      have Rs_h := Rs102
                      have k5h : c_pv s102 (c_pv s102 ((c_hp σ : Nat) : Int).toNat 0).toNat 0 ≤ 5 := by
                        rw [v_h.1, Fm _ _ (by have := G.lt (a := x3.toNat) (by rw [t_x3.tg.2]; decide); omega)]
                        omega
                      exact ret_O (by first | assumption | exact ref_R Gs102 Rs102 t_h.tg (by decide) | exact ⟨by omega, by omega⟩) Gs102 E103 (Rs102.le (by omega) (by omega) (by omega) (by omega)) (by first | trivial | assumption | omega | (dsimp only; omega) | exact ⟨m, ⟨t_h, by rw [v_h.2]; exact p_x5⟩, by omega, Rs_h.le (by omega) (by omega) (by omega) (by omega), k5h⟩)
                  · have t_z12_95 := t_z12_95.pos (by omega)
                    refine wg t_z12_95.tg (fun z14_104 hz14_104 => ?_)
                    have rz14_104 : inR z14_104 := hz14_104 ▸ G.ir _ _
                    have t_z14_104 : oNN σ z14_104 := hz14_104 ▸ (G.lkf t_z12_95.tg).2.1
                    refine sf_if (fun c105 => ?_) (fun c105 => ?_)
                    · have t_z14_104 := t_z14_104.pos (by omega)
                      have t_z12_95 : oLt σ z12_95 := ⟨t_z12_95, hz14_104 ▸ t_z14_104⟩
                      refine wtN (G.tg 16) ?_
                      refine cl_O (s_spend (k := k + 1) (s := s + 4 + m) (o := o + 0 + m) (z := z) (by omega) G (R.le (by omega) (by omega) (by omega) (by omega)) ⟨by omega, by omega⟩) (Ext.refl (b := b) (σ := σ)) (by omega) (by omega) (by omega) (by omega) (fun s106 z18_107 rz18_107 Gs106 es106 Rs106 fz18_107 => ?_)
                      obtain ⟨Qz18_107, L_s, F_s⟩ := fz18_107
                      have E108 := (Ext.refl (b := b) (σ := σ)).trans es106
                      have t_x5 := t_x5.up es106
                      have t_z12_95 := t_z12_95.up es106
                      have p_x5 := p_x5.up es106
                      refine wg t_z12_95.tg (fun z19_109 hz19_109 => ?_)
                      have rz19_109 : inR z19_109 := hz19_109 ▸ Gs106.ir _ _
                      have t_z19_109 : oN s106 z19_109 := hz19_109 ▸ t_z12_95.2
                      refine wg t_z12_95.tg (fun z20_110 hz20_110 => ?_)
                      have rz20_110 : inR z20_110 := hz20_110 ▸ Gs106.ir _ _
                      have t_z20_110 : oL s106 z20_110 := hz20_110 ▸ (Gs106.lkf t_z12_95.tg).2.2.1
                      unfold pc_X4_head_331
                      refine wck ⟨by omega, by omega⟩ (fun z1_111 hz1_111 => ?_)
                      first
                      | exact tr_O E108 (ih (m := m0) Gs106 (Qz18_107.le (by omega) (by omega) (by omega) (by omega)) t_z19_109 (by first | assumption | exact ref_R Gs106 Qz18_107 t_z19_109.tg (by decide)) t_z20_110 (by first | assumption | exact ref_R Gs106 Qz18_107 t_z20_110.tg (by decide)) p_26 (by first | assumption | exact ref_R Gs106 Qz18_107 t_x5.tg (by decide)) (by omega) (by omega) (by omega))
                      | exact tr_O E108 (ih (m := m0 + 1) Gs106 (Qz18_107.le (by omega) (by omega) (by omega) (by omega)) t_z19_109 (by first | assumption | exact ref_R Gs106 Qz18_107 t_z19_109.tg (by decide)) t_z20_110 (by first | assumption | exact ref_R Gs106 Qz18_107 t_z20_110.tg (by decide)) p_x5 (by first | assumption | exact ref_R Gs106 Qz18_107 t_x5.tg (by decide)) (by omega) (by omega) (by omega))
                      | exact tr_O E108 (ih (m := m) Gs106 (Qz18_107.le (by omega) (by omega) (by omega) (by omega)) t_z19_109 (by first | assumption | exact ref_R Gs106 Qz18_107 t_z19_109.tg (by decide)) t_z20_110 (by first | assumption | exact ref_R Gs106 Qz18_107 t_z20_110.tg (by decide)) p_x5 (by first | assumption | exact ref_R Gs106 Qz18_107 t_x5.tg (by decide)) (by omega) (by omega) (by omega))
                    · unfold pc_X4_head_259
                      refine sf_if (fun c112 => ?_) (fun c112 => ?_)
                      · refine wg t_z12_95.tg (fun z2_113 hz2_113 => ?_)
                        have rz2_113 : inR z2_113 := hz2_113 ▸ G.ir _ _
                        have fz2_113 : oid z2_113 := hz2_113 ▸ (G.lkf t_z12_95.tg).2.2.2.1
                        unfold pc_X4_head_276
                        refine sf_n (rr_room G (R.le (k' := (k + 1) + 1) (s' := (s + 6 + m) + 4) (o' := (o + 0 + m)) (z' := z) (by omega) (by omega) (by omega) (by omega))) ?_
                        refine mk_head (k := k + 1) (s := s + 6 + m) (o := o + 0 + m) (z := z) (by omega) G (R.le (by omega) (by omega) (by omega) (by omega)) ⟨(by first | assumption | exact ref_R G R t_x3.tg (by decide)), (by first | assumption | exact inR_of _ | exact ⟨by omega, by omega⟩), (by first | assumption | exact ref_R G R t_x4.tg (by decide)), (by first | assumption | exact ref_R G R t_x5.tg (by decide))⟩ t_x3.n (by first | assumption | exact ⟨by omega, by omega⟩) t_x4 t_x5 (fun s114 Gs114 es114 Rs114 fs114 => ?_)
                        obtain ⟨t_h, v_h, Fm⟩ := fs114
                        have E115 := (Ext.refl (b := b) (σ := σ)).trans es114
                        have p_x5 := p_x5.up es114
                        have Rs_h := Rs114
                        have k5h : c_pv s114 (c_pv s114 ((c_hp σ : Nat) : Int).toNat 0).toNat 0 ≤ 5 := by
                          rw [v_h.1, Fm _ _ (by have := G.lt (a := x3.toNat) (by rw [t_x3.tg.2]; decide); omega)]
                          omega
                        exact ret_O (by first | assumption | exact ref_R Gs114 Rs114 t_h.tg (by decide) | exact ⟨by omega, by omega⟩) Gs114 E115 (Rs114.le (by omega) (by omega) (by omega) (by omega)) (by first | trivial | assumption | omega | (dsimp only; omega) | exact ⟨m, ⟨t_h, by rw [v_h.2]; exact p_x5⟩, by omega, Rs_h.le (by omega) (by omega) (by omega) (by omega), k5h⟩)
                      · refine wg t_x3.tg (fun z3_116 hz3_116 => ?_)
                        have rz3_116 : inR z3_116 := hz3_116 ▸ G.ir _ _
                        have fz3_116 : oid z3_116 := hz3_116 ▸ G.ni t_x3.tg
                        unfold pc_X4_head_276
                        refine sf_n (rr_room G (R.le (k' := (k + 1) + 1) (s' := (s + 6 + m) + 4) (o' := (o + 0 + m)) (z' := z) (by omega) (by omega) (by omega) (by omega))) ?_
                        refine mk_head (k := k + 1) (s := s + 6 + m) (o := o + 0 + m) (z := z) (by omega) G (R.le (by omega) (by omega) (by omega) (by omega)) ⟨(by first | assumption | exact ref_R G R t_x3.tg (by decide)), (by first | assumption | exact inR_of _ | exact ⟨by omega, by omega⟩), (by first | assumption | exact ref_R G R t_x4.tg (by decide)), (by first | assumption | exact ref_R G R t_x5.tg (by decide))⟩ t_x3.n (by first | assumption | exact ⟨by omega, by omega⟩) t_x4 t_x5 (fun s117 Gs117 es117 Rs117 fs117 => ?_)
                        obtain ⟨t_h, v_h, Fm⟩ := fs117
                        have E118 := (Ext.refl (b := b) (σ := σ)).trans es117
                        have p_x5 := p_x5.up es117
                        have Rs_h := Rs117
                        have k5h : c_pv s117 (c_pv s117 ((c_hp σ : Nat) : Int).toNat 0).toNat 0 ≤ 5 := by
                          rw [v_h.1, Fm _ _ (by have := G.lt (a := x3.toNat) (by rw [t_x3.tg.2]; decide); omega)]
                          omega
                        exact ret_O (by first | assumption | exact ref_R Gs117 Rs117 t_h.tg (by decide) | exact ⟨by omega, by omega⟩) Gs117 E118 (Rs117.le (by omega) (by omega) (by omega) (by omega)) (by first | trivial | assumption | omega | (dsimp only; omega) | exact ⟨m, ⟨t_h, by rw [v_h.2]; exact p_x5⟩, by omega, Rs_h.le (by omega) (by omega) (by omega) (by omega), k5h⟩)
              · refine wgF (G.tg 16) (G.fi 18 (i := 16) (f := 0) (j := 3)) ?_
                refine wg t_x3.tg (fun z4_120 hz4_120 => ?_)
                have rz4_120 : inR z4_120 := hz4_120 ▸ G.ir _ _
                have fz4_120 : oid z4_120 := hz4_120 ▸ G.ni t_x3.tg
                refine wtN (G.tg 3) ?_
                refine cl_U (s_valueOf (by omega) G) (fun z7_122 rz7_122 fz7_122 => ?_)
                have t_z7_122 := fz7_122
                obtain ⟨t_z7_122, v1_7, v2_7⟩ := fz7_122
                have g7 := G
                have tx7 := t_x3.tg
                refine sf_if (fun c123 => ?_) (fun c123 => ?_)
                · unfold pc_X4_head_227
                  refine wg t_x3.tg (fun z1_124 hz1_124 => ?_)
                  have rz1_124 : inR z1_124 := hz1_124 ▸ G.ir _ _
                  have fz1_124 := G.kd t_x3.tg
                  rw [hz1_124] at fz1_124
                  refine sf_if (fun c125 => ?_) (fun c125 => ?_)
                  · refine sf_n (rr_room G (R.le (k' := (k + 1) + 1) (s' := (s + 6 + m) + 4) (o' := (o + 0 + m)) (z' := z) (by omega) (by omega) (by omega) (by omega))) ?_
                    refine wgn G t_x3.tg (by decide) (fun z5_126 hz5_126 => ?_)
                    have rz5_126 : inR z5_126 := hz5_126 ▸ G.ir _ _
                    have fz5_126 : oid z5_126 := hz5_126 ▸ G.ni t_x3.tg
                    refine mk_head (k := k + 1) (s := s + 6 + m) (o := o + 0 + m) (z := z) (by omega) G (R.le (by omega) (by omega) (by omega) (by omega)) ⟨(by first | assumption | exact ref_R G R t_x3.tg (by decide)), (by first | assumption | exact inR_of _ | exact ⟨by omega, by omega⟩), (by first | assumption | exact ref_R G R t_x4.tg (by decide)), (by first | assumption | exact ref_R G R t_x5.tg (by decide))⟩ t_x3.n (by first | assumption | exact ⟨by omega, by omega⟩) t_x4 t_x5 (fun s127 Gs127 es127 Rs127 fs127 => ?_)
                    obtain ⟨t_h, v_h, Fm⟩ := fs127
                    have E128 := (Ext.refl (b := b) (σ := σ)).trans es127
                    have p_x5 := p_x5.up es127
                    have Rs_h := Rs127
                    have k5h : c_pv s127 (c_pv s127 ((c_hp σ : Nat) : Int).toNat 0).toNat 0 ≤ 5 := by
                      rw [v_h.1, Fm _ _ (by have := G.lt (a := x3.toNat) (by rw [t_x3.tg.2]; decide); omega)]
                      omega
                    exact ret_O (by first | assumption | exact ref_R Gs127 Rs127 t_h.tg (by decide) | exact ⟨by omega, by omega⟩) Gs127 E128 (Rs127.le (by omega) (by omega) (by omega) (by omega)) (by first | trivial | assumption | omega | (dsimp only; omega) | exact ⟨m, ⟨t_h, by rw [v_h.2]; exact p_x5⟩, by omega, Rs_h.le (by omega) (by omega) (by omega) (by omega), k5h⟩)
                  · refine wg t_x3.tg (fun z9_129 hz9_129 => ?_)
                    have rz9_129 : inR z9_129 := hz9_129 ▸ G.ir _ _
                    have fz9_129 : oid z9_129 := hz9_129 ▸ G.ni t_x3.tg
                    refine cl_U (s_find (by omega) G R (by first | assumption | exact ref_R G R t_x4.tg (by decide)) t_x4) (fun z12_131 rz12_131 fz12_131 => ?_)
                    have t_z12_131 := fz12_131
                    refine sf_if (fun c132 => ?_) (fun c132 => ?_)
                    · unfold pc_X4_head_259
                      refine sf_if (fun c133 => ?_) (fun c133 => ?_)
                      · have t_z12_131 := t_z12_131.pos (by omega)
                        refine wg t_z12_131.tg (fun z2_134 hz2_134 => ?_)
                        have rz2_134 : inR z2_134 := hz2_134 ▸ G.ir _ _
                        have fz2_134 : oid z2_134 := hz2_134 ▸ (G.lkf t_z12_131.tg).2.2.2.1
                        unfold pc_X4_head_276
                        refine sf_n (rr_room G (R.le (k' := (k + 1) + 1) (s' := (s + 6 + m) + 4) (o' := (o + 0 + m)) (z' := z) (by omega) (by omega) (by omega) (by omega))) ?_
                        refine mk_head (k := k + 1) (s := s + 6 + m) (o := o + 0 + m) (z := z) (by omega) G (R.le (by omega) (by omega) (by omega) (by omega)) ⟨(by first | assumption | exact ref_R G R t_x3.tg (by decide)), (by first | assumption | exact inR_of _ | exact ⟨by omega, by omega⟩), (by first | assumption | exact ref_R G R t_x4.tg (by decide)), (by first | assumption | exact ref_R G R t_x5.tg (by decide))⟩ t_x3.n (by first | assumption | exact ⟨by omega, by omega⟩) t_x4 t_x5 (fun s135 Gs135 es135 Rs135 fs135 => ?_)
                        obtain ⟨t_h, v_h, Fm⟩ := fs135
                        have E136 := (Ext.refl (b := b) (σ := σ)).trans es135
                        have p_x5 := p_x5.up es135
                        have Rs_h := Rs135
                        have k5h : c_pv s135 (c_pv s135 ((c_hp σ : Nat) : Int).toNat 0).toNat 0 ≤ 5 := by
                          rw [v_h.1, Fm _ _ (by have := G.lt (a := x3.toNat) (by rw [t_x3.tg.2]; decide); omega)]
                          omega
                        exact ret_O (by first | assumption | exact ref_R Gs135 Rs135 t_h.tg (by decide) | exact ⟨by omega, by omega⟩) Gs135 E136 (Rs135.le (by omega) (by omega) (by omega) (by omega)) (by first | trivial | assumption | omega | (dsimp only; omega) | exact ⟨m, ⟨t_h, by rw [v_h.2]; exact p_x5⟩, by omega, Rs_h.le (by omega) (by omega) (by omega) (by omega), k5h⟩)
                      · refine wg t_x3.tg (fun z3_137 hz3_137 => ?_)
                        have rz3_137 : inR z3_137 := hz3_137 ▸ G.ir _ _
                        have fz3_137 : oid z3_137 := hz3_137 ▸ G.ni t_x3.tg
                        unfold pc_X4_head_276
                        refine sf_n (rr_room G (R.le (k' := (k + 1) + 1) (s' := (s + 6 + m) + 4) (o' := (o + 0 + m)) (z' := z) (by omega) (by omega) (by omega) (by omega))) ?_
                        refine mk_head (k := k + 1) (s := s + 6 + m) (o := o + 0 + m) (z := z) (by omega) G (R.le (by omega) (by omega) (by omega) (by omega)) ⟨(by first | assumption | exact ref_R G R t_x3.tg (by decide)), (by first | assumption | exact inR_of _ | exact ⟨by omega, by omega⟩), (by first | assumption | exact ref_R G R t_x4.tg (by decide)), (by first | assumption | exact ref_R G R t_x5.tg (by decide))⟩ t_x3.n (by first | assumption | exact ⟨by omega, by omega⟩) t_x4 t_x5 (fun s138 Gs138 es138 Rs138 fs138 => ?_)
                        obtain ⟨t_h, v_h, Fm⟩ := fs138
                        have E139 := (Ext.refl (b := b) (σ := σ)).trans es138
                        have p_x5 := p_x5.up es138
                        have Rs_h := Rs138
                        have k5h : c_pv s138 (c_pv s138 ((c_hp σ : Nat) : Int).toNat 0).toNat 0 ≤ 5 := by
                          rw [v_h.1, Fm _ _ (by have := G.lt (a := x3.toNat) (by rw [t_x3.tg.2]; decide); omega)]
                          omega
                        exact ret_O (by first | assumption | exact ref_R Gs138 Rs138 t_h.tg (by decide) | exact ⟨by omega, by omega⟩) Gs138 E139 (Rs138.le (by omega) (by omega) (by omega) (by omega)) (by first | trivial | assumption | omega | (dsimp only; omega) | exact ⟨m, ⟨t_h, by rw [v_h.2]; exact p_x5⟩, by omega, Rs_h.le (by omega) (by omega) (by omega) (by omega), k5h⟩)
                    · have t_z12_131 := t_z12_131.pos (by omega)
                      refine wg t_z12_131.tg (fun z14_140 hz14_140 => ?_)
                      have rz14_140 : inR z14_140 := hz14_140 ▸ G.ir _ _
                      have t_z14_140 : oNN σ z14_140 := hz14_140 ▸ (G.lkf t_z12_131.tg).2.1
                      refine sf_if (fun c141 => ?_) (fun c141 => ?_)
                      · have t_z14_140 := t_z14_140.pos (by omega)
                        have t_z12_131 : oLt σ z12_131 := ⟨t_z12_131, hz14_140 ▸ t_z14_140⟩
                        refine wtN (G.tg 16) ?_
                        refine cl_O (s_spend (k := k + 1) (s := s + 4 + m) (o := o + 0 + m) (z := z) (by omega) G (R.le (by omega) (by omega) (by omega) (by omega)) ⟨by omega, by omega⟩) (Ext.refl (b := b) (σ := σ)) (by omega) (by omega) (by omega) (by omega) (fun s142 z18_143 rz18_143 Gs142 es142 Rs142 fz18_143 => ?_)
                        obtain ⟨Qz18_143, L_s, F_s⟩ := fz18_143
                        have E144 := (Ext.refl (b := b) (σ := σ)).trans es142
                        have t_x5 := t_x5.up es142
                        have t_z12_131 := t_z12_131.up es142
                        have p_x5 := p_x5.up es142
                        refine wg t_z12_131.tg (fun z19_145 hz19_145 => ?_)
                        have rz19_145 : inR z19_145 := hz19_145 ▸ Gs142.ir _ _
                        have t_z19_145 : oN s142 z19_145 := hz19_145 ▸ t_z12_131.2
                        refine wg t_z12_131.tg (fun z20_146 hz20_146 => ?_)
                        have rz20_146 : inR z20_146 := hz20_146 ▸ Gs142.ir _ _
                        have t_z20_146 : oL s142 z20_146 := hz20_146 ▸ (Gs142.lkf t_z12_131.tg).2.2.1
                        unfold pc_X4_head_331
                        refine wck ⟨by omega, by omega⟩ (fun z1_147 hz1_147 => ?_)
                        first
                        | exact tr_O E144 (ih (m := m0) Gs142 (Qz18_143.le (by omega) (by omega) (by omega) (by omega)) t_z19_145 (by first | assumption | exact ref_R Gs142 Qz18_143 t_z19_145.tg (by decide)) t_z20_146 (by first | assumption | exact ref_R Gs142 Qz18_143 t_z20_146.tg (by decide)) p_26 (by first | assumption | exact ref_R Gs142 Qz18_143 t_x5.tg (by decide)) (by omega) (by omega) (by omega))
                        | exact tr_O E144 (ih (m := m0 + 1) Gs142 (Qz18_143.le (by omega) (by omega) (by omega) (by omega)) t_z19_145 (by first | assumption | exact ref_R Gs142 Qz18_143 t_z19_145.tg (by decide)) t_z20_146 (by first | assumption | exact ref_R Gs142 Qz18_143 t_z20_146.tg (by decide)) p_x5 (by first | assumption | exact ref_R Gs142 Qz18_143 t_x5.tg (by decide)) (by omega) (by omega) (by omega))
                        | exact tr_O E144 (ih (m := m) Gs142 (Qz18_143.le (by omega) (by omega) (by omega) (by omega)) t_z19_145 (by first | assumption | exact ref_R Gs142 Qz18_143 t_z19_145.tg (by decide)) t_z20_146 (by first | assumption | exact ref_R Gs142 Qz18_143 t_z20_146.tg (by decide)) p_x5 (by first | assumption | exact ref_R Gs142 Qz18_143 t_x5.tg (by decide)) (by omega) (by omega) (by omega))
                      · unfold pc_X4_head_259
                        refine sf_if (fun c148 => ?_) (fun c148 => ?_)
                        · refine wg t_z12_131.tg (fun z2_149 hz2_149 => ?_)
                          have rz2_149 : inR z2_149 := hz2_149 ▸ G.ir _ _
                          have fz2_149 : oid z2_149 := hz2_149 ▸ (G.lkf t_z12_131.tg).2.2.2.1
                          unfold pc_X4_head_276
                          refine sf_n (rr_room G (R.le (k' := (k + 1) + 1) (s' := (s + 6 + m) + 4) (o' := (o + 0 + m)) (z' := z) (by omega) (by omega) (by omega) (by omega))) ?_
                          refine mk_head (k := k + 1) (s := s + 6 + m) (o := o + 0 + m) (z := z) (by omega) G (R.le (by omega) (by omega) (by omega) (by omega)) ⟨(by first | assumption | exact ref_R G R t_x3.tg (by decide)), (by first | assumption | exact inR_of _ | exact ⟨by omega, by omega⟩), (by first | assumption | exact ref_R G R t_x4.tg (by decide)), (by first | assumption | exact ref_R G R t_x5.tg (by decide))⟩ t_x3.n (by first | assumption | exact ⟨by omega, by omega⟩) t_x4 t_x5 (fun s150 Gs150 es150 Rs150 fs150 => ?_)
                          obtain ⟨t_h, v_h, Fm⟩ := fs150
                          have E151 := (Ext.refl (b := b) (σ := σ)).trans es150
                          have p_x5 := p_x5.up es150
                          have Rs_h := Rs150
                          have k5h : c_pv s150 (c_pv s150 ((c_hp σ : Nat) : Int).toNat 0).toNat 0 ≤ 5 := by
                            rw [v_h.1, Fm _ _ (by have := G.lt (a := x3.toNat) (by rw [t_x3.tg.2]; decide); omega)]
                            omega
                          exact ret_O (by first | assumption | exact ref_R Gs150 Rs150 t_h.tg (by decide) | exact ⟨by omega, by omega⟩) Gs150 E151 (Rs150.le (by omega) (by omega) (by omega) (by omega)) (by first | trivial | assumption | omega | (dsimp only; omega) | exact ⟨m, ⟨t_h, by rw [v_h.2]; exact p_x5⟩, by omega, Rs_h.le (by omega) (by omega) (by omega) (by omega), k5h⟩)
                        · refine wg t_x3.tg (fun z3_152 hz3_152 => ?_)
                          have rz3_152 : inR z3_152 := hz3_152 ▸ G.ir _ _
                          have fz3_152 : oid z3_152 := hz3_152 ▸ G.ni t_x3.tg
                          unfold pc_X4_head_276
                          refine sf_n (rr_room G (R.le (k' := (k + 1) + 1) (s' := (s + 6 + m) + 4) (o' := (o + 0 + m)) (z' := z) (by omega) (by omega) (by omega) (by omega))) ?_
                          refine mk_head (k := k + 1) (s := s + 6 + m) (o := o + 0 + m) (z := z) (by omega) G (R.le (by omega) (by omega) (by omega) (by omega)) ⟨(by first | assumption | exact ref_R G R t_x3.tg (by decide)), (by first | assumption | exact inR_of _ | exact ⟨by omega, by omega⟩), (by first | assumption | exact ref_R G R t_x4.tg (by decide)), (by first | assumption | exact ref_R G R t_x5.tg (by decide))⟩ t_x3.n (by first | assumption | exact ⟨by omega, by omega⟩) t_x4 t_x5 (fun s153 Gs153 es153 Rs153 fs153 => ?_)
                          obtain ⟨t_h, v_h, Fm⟩ := fs153
                          have E154 := (Ext.refl (b := b) (σ := σ)).trans es153
                          have p_x5 := p_x5.up es153
                          have Rs_h := Rs153
                          have k5h : c_pv s153 (c_pv s153 ((c_hp σ : Nat) : Int).toNat 0).toNat 0 ≤ 5 := by
                            rw [v_h.1, Fm _ _ (by have := G.lt (a := x3.toNat) (by rw [t_x3.tg.2]; decide); omega)]
                            omega
                          exact ret_O (by first | assumption | exact ref_R Gs153 Rs153 t_h.tg (by decide) | exact ⟨by omega, by omega⟩) Gs153 E154 (Rs153.le (by omega) (by omega) (by omega) (by omega)) (by first | trivial | assumption | omega | (dsimp only; omega) | exact ⟨m, ⟨t_h, by rw [v_h.2]; exact p_x5⟩, by omega, Rs_h.le (by omega) (by omega) (by omega) (by omega), k5h⟩)
                · have t_z7_122 := t_z7_122.pos (by omega)
                  refine wtN (G.tg 16) ?_
                  refine cl_O (s_spend (k := k + 1) (s := s + 4 + m) (o := o + 0 + m) (z := z) (by omega) G (R.le (by omega) (by omega) (by omega) (by omega)) ⟨by omega, by omega⟩) (Ext.refl (b := b) (σ := σ)) (by omega) (by omega) (by omega) (by omega) (fun s155 z11_156 rz11_156 Gs155 es155 Rs155 fz11_156 => ?_)
                  obtain ⟨Qz11_156, L_s, F_s⟩ := fz11_156
                  have E157 := (Ext.refl (b := b) (σ := σ)).trans es155
                  have t_x3 := t_x3.up es155
                  have t_x5 := t_x5.up es155
                  have p_x5 := p_x5.up es155
                  refine wgF (Gs155.tg 16) (Gs155.fi 18 (i := 16) (f := 0) (j := 3)) ?_
                  refine wg t_x3.tg (fun z13_159 hz13_159 => ?_)
                  have rz13_159 : inR z13_159 := hz13_159 ▸ Gs155.ir _ _
                  have fz13_159 : oid z13_159 := hz13_159 ▸ Gs155.ni t_x3.tg
                  have i13 : z13_159 = z4_120 := by rw [← hz13_159, F_s _ _ (by have := g7.ne 16 (by decide) (a := x3.toNat) (by rw [tx7.2]; decide); omega) (by have := g7.ne 17 (by decide) (a := x3.toNat) (by rw [tx7.2]; decide); omega), hz4_120]
                  refine wtN (Gs155.tg 3) ?_
                  refine cl_U (s_valueOf (by omega) Gs155) (fun z16_161 rz16_161 fz16_161 => ?_)
                  have t_z16_161 := fz16_161
                  obtain ⟨t_z16_161, v1_8, v2_8⟩ := fz16_161
                  have q1 := F_s (b + 9) 2 (by omega) (by omega)
                  have q2 := F_s (b + 13) (z4_120).toNat (by omega) (by omega)
                  have q3 : 0 ≤ z16_161 := by
                    by_cases c9 : 0 ≤ z4_120 ∧ z4_120 < c_pv σ (b + 9) 2
                    · have a1 := v1_7 c9
                      have a2 := v1_8 (by omega)
                      rw [i13, q2] at a2
                      omega
                    · have a1 := v2_7 c9
                      omega
                  have t_z16_161 := t_z16_161.pos q3
                  unfold pc_X4_head_331
                  refine wck ⟨by omega, by omega⟩ (fun z1_162 hz1_162 => ?_)
                  first
                  | exact tr_O E157 (ih (m := m0) Gs155 (Qz11_156.le (by omega) (by omega) (by omega) (by omega)) t_z16_161 (by first | assumption | exact ref_R Gs155 Qz11_156 t_z16_161.tg (by decide)) (oL.nul (by decide)) ⟨by decide, by decide⟩ p_26 (by first | assumption | exact ref_R Gs155 Qz11_156 t_x5.tg (by decide)) (by omega) (by omega) (by omega))
                  | exact tr_O E157 (ih (m := m0 + 1) Gs155 (Qz11_156.le (by omega) (by omega) (by omega) (by omega)) t_z16_161 (by first | assumption | exact ref_R Gs155 Qz11_156 t_z16_161.tg (by decide)) (oL.nul (by decide)) ⟨by decide, by decide⟩ p_x5 (by first | assumption | exact ref_R Gs155 Qz11_156 t_x5.tg (by decide)) (by omega) (by omega) (by omega))
                  | exact tr_O E157 (ih (m := m) Gs155 (Qz11_156.le (by omega) (by omega) (by omega) (by omega)) t_z16_161 (by first | assumption | exact ref_R Gs155 Qz11_156 t_z16_161.tg (by decide)) (oL.nul (by decide)) ⟨by decide, by decide⟩ p_x5 (by first | assumption | exact ref_R Gs155 Qz11_156 t_x5.tg (by decide)) (by omega) (by omega) (by omega))
            · have t_x5 := t_x5.pos (by omega)
              obtain ⟨m0, rfl⟩ := p_x5.succ (by omega)
              refine wtN (G.tg 16) ?_
              refine cl_O (s_spend (k := k + 1) (s := s + 4 + (m0 + 1)) (o := o + 0 + (m0 + 1)) (z := z) (by omega) G (R.le (by omega) (by omega) (by omega) (by omega)) ⟨by omega, by omega⟩) (Ext.refl (b := b) (σ := σ)) (by omega) (by omega) (by omega) (by omega) (fun s163 z17_164 rz17_164 Gs163 es163 Rs163 fz17_164 => ?_)
              obtain ⟨Qz17_164, L_s, F_s⟩ := fz17_164
              have E165 := (Ext.refl (b := b) (σ := σ)).trans es163
              have t_x3 := t_x3.up es163
              have t_x4 := t_x4.up es163
              have t_x5 := t_x5.up es163
              have p_x5 := p_x5.up es163
              refine sf_n (rr_room Gs163 (Qz17_164.le (k' := (k + 7) + 1) (s' := (s + 65 + (m0 + 1)) + 5) (o' := (o + 40 + (m0 + 1))) (z' := z) (by omega) (by omega) (by omega) (by omega))) ?_
              refine wgn Gs163 t_x3.tg (by decide) (fun z20_166 hz20_166 => ?_)
              have rz20_166 : inR z20_166 := hz20_166 ▸ Gs163.ir _ _
              have fz20_166 : oid z20_166 := hz20_166 ▸ Gs163.ni t_x3.tg
              have n20 : z20_166 ≠ 0 := hz20_166 ▸ Gs163.n1 t_x3.tg t_x3.2.1 t_x3.2.2
              refine wgn Gs163 t_x5.tg (by decide) (fun z21_167 hz21_167 => ?_)
              have rz21_167 : inR z21_167 := hz21_167 ▸ Gs163.ir _ _
              have t_z21_167 : oN s163 z21_167 := hz21_167 ▸ ((Gs163.lkf t_x5.tg).2.2.2.2.2.2 t_x5.2.2).1
              refine wgn Gs163 t_x5.tg (by decide) (fun z22_168 hz22_168 => ?_)
              have rz22_168 : inR z22_168 := hz22_168 ▸ Gs163.ir _ _
              have t_z22_168 : oL s163 z22_168 := hz22_168 ▸ (Gs163.lkf t_x5.tg).2.2.1
              refine mk_link (k := k + 7) (s := s + 65 + (m0 + 1)) (o := o + 40 + (m0 + 1)) (z := z) (by omega) Gs163 (Qz17_164.le (by omega) (by omega) (by omega) (by omega)) ⟨(by first | assumption | exact inR_of _ | exact ⟨by omega, by omega⟩), (by first | assumption | exact ref_R Gs163 Qz17_164 t_z21_167.tg (by decide)), (by first | assumption | exact ref_R Gs163 Qz17_164 t_z22_168.tg (by decide)), (by first | assumption | exact ref_R Gs163 Qz17_164 t_x4.tg (by decide))⟩ (by first | assumption | exact ⟨by omega, by omega⟩) (by omega) t_z21_167.nn t_z22_168 t_x4 (fun s169 Gs169 es169 Rs169 fs169 => ?_)
              obtain ⟨t_z19_s169, v_z19_s169, Fm⟩ := fs169
              have E170 := E165.trans es169
              have t_x3 := t_x3.up es169
              have t_x5 := t_x5.up es169
              have p_x5 := p_x5.up es169
              have l_m := Fm (b + 16) 3 (by have := Gs163.hp; omega)
              have r_m := hp_R Gs163 Qz17_164
              refine wg t_x5.tg (fun z26_171 hz26_171 => ?_)
              have rz26_171 : inR z26_171 := hz26_171 ▸ Gs169.ir _ _
              have fz26_171 : z26_171 < ((x5).toNat : Int) := hz26_171 ▸ (Gs169.lkf t_x5.tg).2.2.2.2.2.1
              have t_z26_171 : oP s169 z26_171 := hz26_171 ▸ ((Gs169.lkf t_x5.tg).2.2.2.2.2.2 t_x5.2.2).2
              have p_26 : pl s169 m0 z26_171 := hz26_171 ▸ p_x5.2
              refine wg t_x3.tg (fun z27_172 hz27_172 => ?_)
              have rz27_172 : inR z27_172 := hz27_172 ▸ Gs169.ir _ _
              have t_z27_172 : oN s169 z27_172 := hz27_172 ▸ Gs169.n7 t_x3.tg t_x3.2.1 t_x3.2.2
              unfold pc_X4_head_331
              refine wck ⟨by omega, by omega⟩ (fun z1_173 hz1_173 => ?_)
              first
              | exact tr_O E170 (ih (m := m0) Gs169 (Rs169.le (by omega) (by omega) (by omega) (by omega)) t_z27_172 (by first | assumption | exact ref_R Gs169 Rs169 t_z27_172.tg (by decide)) t_z19_s169.l (by first | assumption | exact ref_R Gs169 Rs169 t_z19_s169.tg (by decide)) p_26 (by first | assumption | exact ref_R Gs169 Rs169 t_z26_171.tg (by decide)) (by omega) (by omega) (by omega))
              | exact tr_O E170 (ih (m := m0 + 1) Gs169 (Rs169.le (by omega) (by omega) (by omega) (by omega)) t_z27_172 (by first | assumption | exact ref_R Gs169 Rs169 t_z27_172.tg (by decide)) t_z19_s169.l (by first | assumption | exact ref_R Gs169 Rs169 t_z19_s169.tg (by decide)) p_x5 (by first | assumption | exact ref_R Gs169 Rs169 t_z26_171.tg (by decide)) (by omega) (by omega) (by omega))
              | exact tr_O E170 (ih (m := m) Gs169 (Rs169.le (by omega) (by omega) (by omega) (by omega)) t_z27_172 (by first | assumption | exact ref_R Gs169 Rs169 t_z27_172.tg (by decide)) t_z19_s169.l (by first | assumption | exact ref_R Gs169 Rs169 t_z19_s169.tg (by decide)) p_x5 (by first | assumption | exact ref_R Gs169 Rs169 t_z26_171.tg (by decide)) (by omega) (by omega) (by omega))
        · have t_x3 : oB σ x3 := ⟨t_x3, by omega, by omega⟩
          refine wtN (G.tg 16) ?_
          refine cl_O (s_spend (k := k + 1) (s := s + 4 + m) (o := o + 0 + m) (z := z) (by omega) G (R.le (by omega) (by omega) (by omega) (by omega)) ⟨by omega, by omega⟩) (Ext.refl (b := b) (σ := σ)) (by omega) (by omega) (by omega) (by omega) (fun s174 z30_175 rz30_175 Gs174 es174 Rs174 fz30_175 => ?_)
          obtain ⟨Qz30_175, L_s, F_s⟩ := fz30_175
          have E176 := (Ext.refl (b := b) (σ := σ)).trans es174
          have t_x3 := t_x3.up es174
          have t_x4 := t_x4.up es174
          have t_x5 := t_x5.up es174
          have p_x5 := p_x5.up es174
          refine sf_n (rr_room Gs174 (Qz30_175.le (k' := (k + 7) + 1) (s' := (s + 65 + m) + 5) (o' := (o + 40 + m)) (z' := z) (by omega) (by omega) (by omega) (by omega))) ?_
          refine wgn Gs174 t_x3.tg (by decide) (fun z33_177 hz33_177 => ?_)
          have rz33_177 : inR z33_177 := hz33_177 ▸ Gs174.ir _ _
          have fz33_177 : oid z33_177 := hz33_177 ▸ Gs174.ni t_x3.tg
          have n20 : z33_177 ≠ 0 := hz33_177 ▸ Gs174.n1 t_x3.tg t_x3.2.1 t_x3.2.2
          refine wgn Gs174 t_x3.tg (by decide) (fun z34_178 hz34_178 => ?_)
          have rz34_178 : inR z34_178 := hz34_178 ▸ Gs174.ir _ _
          have t_z34_178 : oN s174 z34_178 := hz34_178 ▸ Gs174.n6 t_x3.tg t_x3.2.1
          refine mk_link (k := k + 7) (s := s + 65 + m) (o := o + 40 + m) (z := z) (by omega) Gs174 (Qz30_175.le (by omega) (by omega) (by omega) (by omega)) ⟨(by first | assumption | exact inR_of _ | exact ⟨by omega, by omega⟩), (by first | assumption | exact ref_R Gs174 Qz30_175 t_z34_178.tg (by decide)), (by first | assumption | exact ref_R Gs174 Qz30_175 t_x4.tg (by decide)), (by first | assumption | exact ref_R Gs174 Qz30_175 t_x4.tg (by decide))⟩ (by first | assumption | exact ⟨by omega, by omega⟩) (by omega) t_z34_178.nn t_x4 t_x4 (fun s179 Gs179 es179 Rs179 fs179 => ?_)
          obtain ⟨t_z32_s179, v_z32_s179, Fm⟩ := fs179
          have E180 := E176.trans es179
          have t_x3 := t_x3.up es179
          have t_x5 := t_x5.up es179
          have p_x5 := p_x5.up es179
          have l_m := Fm (b + 16) 3 (by have := Gs174.hp; omega)
          have r_m := hp_R Gs174 Qz30_175
          refine wg t_x3.tg (fun z38_181 hz38_181 => ?_)
          have rz38_181 : inR z38_181 := hz38_181 ▸ Gs179.ir _ _
          have t_z38_181 : oN s179 z38_181 := hz38_181 ▸ Gs179.n7 t_x3.tg t_x3.2.1 t_x3.2.2
          unfold pc_X4_head_331
          refine wck ⟨by omega, by omega⟩ (fun z1_182 hz1_182 => ?_)
          first
          | exact tr_O E180 (ih (m := m0) Gs179 (Rs179.le (by omega) (by omega) (by omega) (by omega)) t_z38_181 (by first | assumption | exact ref_R Gs179 Rs179 t_z38_181.tg (by decide)) t_z32_s179.l (by first | assumption | exact ref_R Gs179 Rs179 t_z32_s179.tg (by decide)) p_26 (by first | assumption | exact ref_R Gs179 Rs179 t_x5.tg (by decide)) (by omega) (by omega) (by omega))
          | exact tr_O E180 (ih (m := m0 + 1) Gs179 (Rs179.le (by omega) (by omega) (by omega) (by omega)) t_z38_181 (by first | assumption | exact ref_R Gs179 Rs179 t_z38_181.tg (by decide)) t_z32_s179.l (by first | assumption | exact ref_R Gs179 Rs179 t_z32_s179.tg (by decide)) p_x5 (by first | assumption | exact ref_R Gs179 Rs179 t_x5.tg (by decide)) (by omega) (by omega) (by omega))
          | exact tr_O E180 (ih (m := m) Gs179 (Rs179.le (by omega) (by omega) (by omega) (by omega)) t_z38_181 (by first | assumption | exact ref_R Gs179 Rs179 t_z38_181.tg (by decide)) t_z32_s179.l (by first | assumption | exact ref_R Gs179 Rs179 t_z32_s179.tg (by decide)) p_x5 (by first | assumption | exact ref_R Gs179 Rs179 t_x5.tg (by decide)) (by omega) (by omega) (by omega))
      · have t_x3 : oU σ x3 := ⟨t_x3, by omega⟩
        refine wg t_x3.tg (fun z39_183 hz39_183 => ?_)
        have rz39_183 : inR z39_183 := hz39_183 ▸ G.ir _ _
        have t_z39_183 : oA b σ z39_183 := hz39_183 ▸ G.n8 t_x3.tg t_x3.2
        have V : oV b σ x3 (c_ln σ (z39_183).toNat) := ⟨t_x3, hz39_183 ▸ t_z39_183, by rw [hz39_183]⟩
        have v1 := t_z39_183.2.2.1
        have v2 := t_z39_183.2.2.2.1
        refine wl t_z39_183.tg (by have := t_z39_183.2.2.2.1; omega) (fun z40_184 hz40_184 => ?_)
        refine wck ⟨by omega, by omega⟩ (fun z41_185 hz41_185 => ?_)
        exact s_head36 (by omega) ⟨by omega, by omega⟩ rx3 rx4 _ G R V t_x4 p_x5 rx5 hm (by omega) (by omega) (fun a1 a2 a3 a4 a5 a6 a7 a8 a9 a10 => ih a1 a2 a3 a4 a5 rx4 a6 a7 a8 (by omega) (by omega))
theorem s_head (hd : 10 ≤ d) (G : GG bd b σ) (R : RR bd b σ (k + 2) (s + 10) (o) (z)) {x y : Int} (t_x : oN σ x) (rx : inR x) (t_y : oL σ y) (ry : inR y) : sf (RC bd d 83 σ [((b + 16 : Nat) : Int), x, y]) (PO bd b σ k s o z (fun σ' r => ∃ m, oHm σ' r m ∧ m ≤ 60000 ∧ RR bd b σ' (k + 1) (s + 6 + m) (o + m) z ∧ c_pv σ' (c_pv σ' r.toNat 0).toNat 0 ≤ 5)) := by
  obtain ⟨d, rfl⟩ : ∃ d0, d = d0 + 1 := ⟨d - 1, by omega⟩
  rw [rc_X4_head (by omega)]
  refine fin_O ?_
  unfold pc_X4_head_0
  have n163 := G.nu 16 3
  exact s_head11 (m := 0) (by omega) _ G R t_x rx t_y ry (by show (-1 : Int) < 0; decide) ⟨by decide, by decide⟩ (by omega) ⟨by decide, by omega⟩ (by omega)
end CHD
