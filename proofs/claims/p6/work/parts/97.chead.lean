section CHD
variable {bd : cBd} {b d : Nat} {σ σ1 σ2 σ3 : CS} {Q : CS → Nat → Int → Prop} {k s o z : Nat}
theorem s_spendW (h : GG bd b σ) (hr : RR bd b σ (k + 1) (s + 6) o z) {x : Int} (hx : 1 ≤ x ∧ x ≤ 6) (c2 : c_pv σ (b + 16) 3 < 60000) : sf (cc_g σ 5 2 ((b + 16 : Nat) : Int) (fun z4 => cc_r σ 21 z4 0 (fun z5 => cc_ck (z5 + 1) (fun z6 => cc_w σ 21 z4 0 z6 (fun σ7 => cc_g σ7 5 2 ((b + 16 : Nat) : Int) (fun z8 => cc_r σ7 21 z8 x (fun z9 => cc_ck (z9 + 1) (fun z10 => cc_w σ7 21 z8 x z10 (fun σ11 => cc_g σ11 5 3 ((b + 16 : Nat) : Int) (fun z12 => cc_ck (z12 + 1) (fun z13 => cc_p σ11 5 3 ((b + 16 : Nat) : Int) z13 (fun σ14 => some (σ14, 0, 0))))))))))))) (PO bd b σ k s o z (fun σ' _ => RR bd b σ' (k + 7) (s + 66) (o + 40) z ∧ c_pv σ' (b + 16) 3 = c_pv σ (b + 16) 3 + 1 ∧ ∀ a f, a ≠ b + 16 → a ≠ b + 17 → c_pv σ' a f = c_pv σ a f)) := by
  refine wgF (h.tg 16) (h.fi 20 (i := 16) (f := 2) (j := 17)) ?_
  refine wrN (h.tg 17) (h.ln 17 (n := 7)) ⟨by decide, by decide⟩ (fun y hy => ?_)
  subst hy
  have hn0 := h.nu 16 3
  have hd0 := h.nu 17 (0 : Int).toNat (lo := 0) (hi := 60000)
  have hdl := h.dn (0 : Int).toNat
  refine sf_ck ⟨by omega, by omega⟩ ?_
  refine wwN (h.tg 17) (h.ln 17 (n := 7)) ⟨by decide, by decide⟩ (fun σ1 w1 => ?_)
  subst w1
  -- the life's work first, for the proof: the counts never pass it
  have g0 := gg_put h 16 3 (y := c_pv σ (b + 16) 3 + 1) ⟨by omega, by omega⟩ (by decide) (by decide) (fun lo hi q => by cases q; exact ⟨by omega, by omega⟩) (Or.inr (Or.inr ⟨rfl, rfl, by omega⟩)) (hw_put h (by decide))
  have r0 := rr_life (b := b) hr
  have e17 : ∀ j, c_pv (cs_p σ (b + 16) 3 (c_pv σ (b + 16) 3 + 1)) (b + 17) j = c_pv σ (b + 17) j := fun j => cs_p_na (by omega)
  have e16 : c_pv (cs_p σ (b + 16) 3 (c_pv σ (b + 16) 3 + 1)) (b + 16) 3 = c_pv σ (b + 16) 3 + 1 := cs_p_eq
  have g1 := gg_put g0 17 (0 : Int).toNat (y := c_pv σ (b + 17) (0 : Int).toNat + 1) ⟨by omega, by omega⟩ (by decide) (by decide) (fun lo hi q => by cases q; exact ⟨by omega, by omega⟩) (Or.inr (Or.inl ⟨rfl, by rw [e16]; omega⟩)) (hw_put g0 (by decide))
  have r1 := rr_put r0 17 (0 : Int).toNat (y := c_pv σ (b + 17) (0 : Int).toNat + 1) (by decide)
  have t1 : c_tg (cs_p σ (b + 17) (0 : Int).toNat (c_pv σ (b + 17) (0 : Int).toNat + 1)) (b + 16) = 5 := h.tg 16
  have t2 : c_tg (cs_p σ (b + 17) (0 : Int).toNat (c_pv σ (b + 17) (0 : Int).toNat + 1)) (b + 17) = 21 := h.tg 17
  refine wgF (v := ((b + 17 : Nat) : Int)) t1 (by rw [cs_p_na (q := b + 16) (by omega)]; exact h.fi 20 (i := 16) (f := 2) (j := 17)) ?_
  refine wrN t2 (h.ln 17 (n := 7)) ⟨by omega, by omega⟩ (fun y hy => ?_)
  rw [cs_p_nf (by omega)] at hy
  subst hy
  have hx1 := h.nu 17 x.toNat (lo := 0) (hi := 60000)
  have hx2 := h.dn x.toNat
  refine sf_ck ⟨by omega, by omega⟩ ?_
  refine wwN t2 (h.ln 17 (n := 7)) ⟨by omega, by omega⟩ (fun σ2 w2 => ?_)
  subst w2
  refine wgN (h.tg 16) (fun y hy => ?_)
  rw [cs_p_na (q := b + 16) (by omega), cs_p_na (q := b + 16) (by omega)] at hy
  subst hy
  refine sf_ck ⟨by omega, by omega⟩ ?_
  refine wpN (h.tg 16) (fun σ3 w3 => ?_)
  have hF : gF.all (fun q => !(q.1 == 17 && q.2.1 == x.toNat)) = true := by
    have := gpr_c (i := 1) (f := 0) (by decide)
    refine List.all_eq_true.mpr (fun q hq => ?_)
    have h1 := List.all_eq_true.mp (by decide : gF.all (fun q => !(q.1 == 17)) = true) q hq
    simp at h1
    simp [h1]
  have g2 := gg_put g1 17 x.toNat (y := c_pv σ (b + 17) x.toNat + 1) ⟨by omega, by omega⟩ (by decide) hF (fun lo hi q => by cases q; exact ⟨by omega, by omega⟩) (Or.inr (Or.inl ⟨rfl, by rw [cs_p_na (q := b + 16) (by omega), e16]; omega⟩)) (hw_put g1 ⟨by decide, by decide, by decide, Or.inl (by decide)⟩)
  have r2 := rr_put r1 17 x.toNat (y := c_pv σ (b + 17) x.toNat + 1) ⟨Or.inl (by decide), Or.inl (by decide), Or.inl (by decide)⟩
  have ee : cs_p (cs_p (cs_p σ (b + 16) 3 (c_pv σ (b + 16) 3 + 1)) (b + 17) (0 : Int).toNat (c_pv σ (b + 17) (0 : Int).toNat + 1)) (b + 17) x.toNat (c_pv σ (b + 17) x.toNat + 1) = σ3 := by
    rw [w3]
    refine Prod.ext rfl (Prod.ext ?_ rfl)
    funext a f
    show c_pv (cs_p (cs_p (cs_p σ (b + 16) 3 _) (b + 17) _ _) (b + 17) x.toNat _) a f = c_pv (cs_p (cs_p (cs_p σ (b + 17) _ _) (b + 17) x.toNat _) (b + 16) 3 _) a f
    by_cases h16 : a = b + 16
    · simp [cs_p_pv, h16]
    · simp [cs_p_pv, h16]
  have x0 : Ext b σ (cs_p σ (b + 16) 3 (c_pv σ (b + 16) 3 + 1)) := ext_p (fz_g h (by decide) (by decide) (by decide) (by decide))
  have x1 := x0.trans (ext_p (y := c_pv σ (b + 17) (0 : Int).toNat + 1) (fz_g g0 (i := 17) (f := (0 : Int).toNat) (by decide) (by decide) (by decide) (by decide)))
  have x2 := x1.trans (ext_p (y := c_pv σ (b + 17) x.toNat + 1) (fz_g g1 (i := 17) (f := x.toNat) (by decide) (Or.inl (by decide)) (Or.inl (by decide)) (Or.inl (by decide))))
  rw [ee] at g2 r2 x2
  refine ret_O ⟨by decide, by decide⟩ g2 x2 (r2.le (by omega) (by omega) (by omega) (by omega)) ⟨r2.le (by omega) (by omega) (by omega) (by omega), by rw [w3]; exact cs_p_eq, fun a f h16 h17 => ?_⟩
  rw [w3, cs_p_na h16, cs_p_na h17, cs_p_na h17]
theorem s_spend (hd : 6 ≤ d) (G : GG bd b σ) (R : RR bd b σ (k + 1) (s + 6) (o) (z)) {x : Int} (hx : 1 ≤ x ∧ x ≤ 6) : sf (RC bd d 93 σ [((b + 16 : Nat) : Int), x]) (PO bd b σ k s o z (fun σ' _ => RR bd b σ' (k + 7) (s + 66) (o + 40) z ∧ c_pv σ' (b + 16) 3 = c_pv σ (b + 16) 3 + 1 ∧ ∀ a f, a ≠ b + 16 → a ≠ b + 17 → c_pv σ' a f = c_pv σ a f)) := by
  obtain ⟨d, rfl⟩ : ∃ d0, d = d0 + 1 := ⟨d - 1, by omega⟩
  rw [rc_X4_spend (by omega)]
  refine fin_O ?_
  unfold pc_X4_spend_0
  refine wgF (G.tg 16) (G.fi 20 (i := 16) (f := 2) (j := 17)) ?_
  refine wrN (G.tg 17) (G.ln 17 (n := 7)) ⟨by omega, by omega⟩ (fun z2_2 hz2_2 => ?_)
  have fz2_2 := G.nu 17 (0 : Int).toNat (lo := 0) (hi := 60000)
  have rz2_2 : inR z2_2 := hz2_2 ▸ G.ir _ _
  refine wgN (G.tg 16) (fun z3_3 hz3_3 => ?_)
  have fz3_3 := G.nu 16 4
  have rz3_3 : inR z3_3 := hz3_3 ▸ G.ir _ _
  refine sf_if (fun c4 => ?_) (fun c4 => ?_)
  · unfold pc_X4_spend_18
    refine sf_if (fun c5 => ?_) (fun c5 => ?_)
    · unfold pc_X4_spend_32
      refine wgF (G.tg 16) (G.fi 19 (i := 16) (f := 1) (j := 2)) ?_
      refine sf_if (fun c7 => ?_) (fun c7 => ?_)
      · unfold pc_X4_spend_47
        refine wpN (G.tg 2) (fun s8 ws8 => ?_)
        obtain ⟨Gs8, es8, Rs8, Fs8, Vs8⟩ := P0 G R ws8 (by decide) ⟨by decide, by decide⟩ (by intro lo hi q; cases q <;> omega)
        have E9 := (Ext.refl (b := b) (σ := σ)).trans es8
        refine wgF (Gs8.tg 16) (Gs8.fi 19 (i := 16) (f := 1) (j := 2)) ?_
        refine wgN (Gs8.tg 16) (fun z3_11 hz3_11 => ?_)
        have rz3_11 : inR z3_11 := hz3_11 ▸ Gs8.ir _ _
        refine wpN (Gs8.tg 2) (fun s12 ws12 => ?_)
        obtain ⟨Gs12, es12, Rs12, Fs12, Vs12⟩ := P0 Gs8 Rs8 ws12 (by decide) (by first | assumption | exact inR_of _ | exact ⟨by omega, by omega⟩) (by intro lo hi q; cases q <;> omega)
        have E13 := E9.trans es12
        exact thr_O Gs12 E13 (Rs12.le (by omega) (by omega) (by omega) (by omega))
      · unfold pc_X4_spend_47
        refine wpN (G.tg 2) (fun s14 ws14 => ?_)
        obtain ⟨Gs14, es14, Rs14, Fs14, Vs14⟩ := P0 G R ws14 (by decide) ⟨by decide, by decide⟩ (by intro lo hi q; cases q <;> omega)
        have E15 := (Ext.refl (b := b) (σ := σ)).trans es14
        refine wgF (Gs14.tg 16) (Gs14.fi 19 (i := 16) (f := 1) (j := 2)) ?_
        refine wgN (Gs14.tg 16) (fun z3_17 hz3_17 => ?_)
        have rz3_17 : inR z3_17 := hz3_17 ▸ Gs14.ir _ _
        refine wpN (Gs14.tg 2) (fun s18 ws18 => ?_)
        obtain ⟨Gs18, es18, Rs18, Fs18, Vs18⟩ := P0 Gs14 Rs14 ws18 (by decide) (by first | assumption | exact inR_of _ | exact ⟨by omega, by omega⟩) (by intro lo hi q; cases q <;> omega)
        have E19 := E15.trans es18
        exact thr_O Gs18 E19 (Rs18.le (by omega) (by omega) (by omega) (by omega))
    · refine wgN (G.tg 16) (fun z2_20 hz2_20 => ?_)
      have fz2_20 := G.nu 16 3
      have rz2_20 : inR z2_20 := hz2_20 ▸ G.ir _ _
      refine sf_if (fun c21 => ?_) (fun c21 => ?_)
      · exact s_spendW G R hx (by omega)
      · unfold pc_X4_spend_32
        refine wgF (G.tg 16) (G.fi 19 (i := 16) (f := 1) (j := 2)) ?_
        refine sf_if (fun c23 => ?_) (fun c23 => ?_)
        · unfold pc_X4_spend_47
          refine wpN (G.tg 2) (fun s24 ws24 => ?_)
          obtain ⟨Gs24, es24, Rs24, Fs24, Vs24⟩ := P0 G R ws24 (by decide) ⟨by decide, by decide⟩ (by intro lo hi q; cases q <;> omega)
          have E25 := (Ext.refl (b := b) (σ := σ)).trans es24
          refine wgF (Gs24.tg 16) (Gs24.fi 19 (i := 16) (f := 1) (j := 2)) ?_
          refine wgN (Gs24.tg 16) (fun z3_27 hz3_27 => ?_)
          have rz3_27 : inR z3_27 := hz3_27 ▸ Gs24.ir _ _
          refine wpN (Gs24.tg 2) (fun s28 ws28 => ?_)
          obtain ⟨Gs28, es28, Rs28, Fs28, Vs28⟩ := P0 Gs24 Rs24 ws28 (by decide) (by first | assumption | exact inR_of _ | exact ⟨by omega, by omega⟩) (by intro lo hi q; cases q <;> omega)
          have E29 := E25.trans es28
          exact thr_O Gs28 E29 (Rs28.le (by omega) (by omega) (by omega) (by omega))
        · unfold pc_X4_spend_47
          refine wpN (G.tg 2) (fun s30 ws30 => ?_)
          obtain ⟨Gs30, es30, Rs30, Fs30, Vs30⟩ := P0 G R ws30 (by decide) ⟨by decide, by decide⟩ (by intro lo hi q; cases q <;> omega)
          have E31 := (Ext.refl (b := b) (σ := σ)).trans es30
          refine wgF (Gs30.tg 16) (Gs30.fi 19 (i := 16) (f := 1) (j := 2)) ?_
          refine wgN (Gs30.tg 16) (fun z3_33 hz3_33 => ?_)
          have rz3_33 : inR z3_33 := hz3_33 ▸ Gs30.ir _ _
          refine wpN (Gs30.tg 2) (fun s34 ws34 => ?_)
          obtain ⟨Gs34, es34, Rs34, Fs34, Vs34⟩ := P0 Gs30 Rs30 ws34 (by decide) (by first | assumption | exact inR_of _ | exact ⟨by omega, by omega⟩) (by intro lo hi q; cases q <;> omega)
          have E35 := E31.trans es34
          exact thr_O Gs34 E35 (Rs34.le (by omega) (by omega) (by omega) (by omega))
  · unfold pc_X4_spend_18
    refine sf_if (fun c36 => ?_) (fun c36 => ?_)
    · unfold pc_X4_spend_32
      refine wgF (G.tg 16) (G.fi 19 (i := 16) (f := 1) (j := 2)) ?_
      refine sf_if (fun c38 => ?_) (fun c38 => ?_)
      · unfold pc_X4_spend_47
        refine wpN (G.tg 2) (fun s39 ws39 => ?_)
        obtain ⟨Gs39, es39, Rs39, Fs39, Vs39⟩ := P0 G R ws39 (by decide) ⟨by decide, by decide⟩ (by intro lo hi q; cases q <;> omega)
        have E40 := (Ext.refl (b := b) (σ := σ)).trans es39
        refine wgF (Gs39.tg 16) (Gs39.fi 19 (i := 16) (f := 1) (j := 2)) ?_
        refine wgN (Gs39.tg 16) (fun z3_42 hz3_42 => ?_)
        have rz3_42 : inR z3_42 := hz3_42 ▸ Gs39.ir _ _
        refine wpN (Gs39.tg 2) (fun s43 ws43 => ?_)
        obtain ⟨Gs43, es43, Rs43, Fs43, Vs43⟩ := P0 Gs39 Rs39 ws43 (by decide) (by first | assumption | exact inR_of _ | exact ⟨by omega, by omega⟩) (by intro lo hi q; cases q <;> omega)
        have E44 := E40.trans es43
        exact thr_O Gs43 E44 (Rs43.le (by omega) (by omega) (by omega) (by omega))
      · unfold pc_X4_spend_47
        refine wpN (G.tg 2) (fun s45 ws45 => ?_)
        obtain ⟨Gs45, es45, Rs45, Fs45, Vs45⟩ := P0 G R ws45 (by decide) ⟨by decide, by decide⟩ (by intro lo hi q; cases q <;> omega)
        have E46 := (Ext.refl (b := b) (σ := σ)).trans es45
        refine wgF (Gs45.tg 16) (Gs45.fi 19 (i := 16) (f := 1) (j := 2)) ?_
        refine wgN (Gs45.tg 16) (fun z3_48 hz3_48 => ?_)
        have rz3_48 : inR z3_48 := hz3_48 ▸ Gs45.ir _ _
        refine wpN (Gs45.tg 2) (fun s49 ws49 => ?_)
        obtain ⟨Gs49, es49, Rs49, Fs49, Vs49⟩ := P0 Gs45 Rs45 ws49 (by decide) (by first | assumption | exact inR_of _ | exact ⟨by omega, by omega⟩) (by intro lo hi q; cases q <;> omega)
        have E50 := E46.trans es49
        exact thr_O Gs49 E50 (Rs49.le (by omega) (by omega) (by omega) (by omega))
    · refine wgN (G.tg 16) (fun z2_51 hz2_51 => ?_)
      have fz2_51 := G.nu 16 3
      have rz2_51 : inR z2_51 := hz2_51 ▸ G.ir _ _
      refine sf_if (fun c52 => ?_) (fun c52 => ?_)
      · exact s_spendW G R hx (by omega)
      · unfold pc_X4_spend_32
        refine wgF (G.tg 16) (G.fi 19 (i := 16) (f := 1) (j := 2)) ?_
        refine sf_if (fun c54 => ?_) (fun c54 => ?_)
        · unfold pc_X4_spend_47
          refine wpN (G.tg 2) (fun s55 ws55 => ?_)
          obtain ⟨Gs55, es55, Rs55, Fs55, Vs55⟩ := P0 G R ws55 (by decide) ⟨by decide, by decide⟩ (by intro lo hi q; cases q <;> omega)
          have E56 := (Ext.refl (b := b) (σ := σ)).trans es55
          refine wgF (Gs55.tg 16) (Gs55.fi 19 (i := 16) (f := 1) (j := 2)) ?_
          refine wgN (Gs55.tg 16) (fun z3_58 hz3_58 => ?_)
          have rz3_58 : inR z3_58 := hz3_58 ▸ Gs55.ir _ _
          refine wpN (Gs55.tg 2) (fun s59 ws59 => ?_)
          obtain ⟨Gs59, es59, Rs59, Fs59, Vs59⟩ := P0 Gs55 Rs55 ws59 (by decide) (by first | assumption | exact inR_of _ | exact ⟨by omega, by omega⟩) (by intro lo hi q; cases q <;> omega)
          have E60 := E56.trans es59
          exact thr_O Gs59 E60 (Rs59.le (by omega) (by omega) (by omega) (by omega))
        · unfold pc_X4_spend_47
          refine wpN (G.tg 2) (fun s61 ws61 => ?_)
          obtain ⟨Gs61, es61, Rs61, Fs61, Vs61⟩ := P0 G R ws61 (by decide) ⟨by decide, by decide⟩ (by intro lo hi q; cases q <;> omega)
          have E62 := (Ext.refl (b := b) (σ := σ)).trans es61
          refine wgF (Gs61.tg 16) (Gs61.fi 19 (i := 16) (f := 1) (j := 2)) ?_
          refine wgN (Gs61.tg 16) (fun z3_64 hz3_64 => ?_)
          have rz3_64 : inR z3_64 := hz3_64 ▸ Gs61.ir _ _
          refine wpN (Gs61.tg 2) (fun s65 ws65 => ?_)
          obtain ⟨Gs65, es65, Rs65, Fs65, Vs65⟩ := P0 Gs61 Rs61 ws65 (by decide) (by first | assumption | exact inR_of _ | exact ⟨by omega, by omega⟩) (by intro lo hi q; cases q <;> omega)
          have E66 := E62.trans es65
          exact thr_O Gs65 E66 (Rs65.le (by omega) (by omega) (by omega) (by omega))
theorem s_look (hd : 7 ≤ d) (G : GG bd b σ) (R : RR bd b σ (k + 1) (s + 6) (o) (z)) {x : Int} : sf (RC bd d 85 σ [((b + 16 : Nat) : Int), x]) (PO bd b σ k s o z (fun σ' _ => RR bd b σ' (k + 7) (s + 66) (o + 40) z ∧ x < 100)) := by
  obtain ⟨d, rfl⟩ : ∃ d0, d = d0 + 1 := ⟨d - 1, by omega⟩
  rw [rc_X4_look (by omega)]
  refine fin_O ?_
  unfold pc_X4_look_0
  refine sf_if (fun c1 => ?_) (fun c1 => ?_)
  · unfold pc_X4_look_11
    refine sf_if (fun c2 => ?_) (fun c2 => ?_)
    · unfold pc_X4_look_38
      refine wtN (G.tg 16) ?_
      refine cl_O (s_spend (k := k) (s := s) (o := o) (z := z) (by omega) G (R.le (by omega) (by omega) (by omega) (by omega)) ⟨by omega, by omega⟩) (Ext.refl (b := b) (σ := σ)) (by omega) (by omega) (by omega) (by omega) (fun s3 z3_4 rz3_4 Gs3 es3 Rs3 fz3_4 => ?_)
      obtain ⟨Qz3_4, Lz3_4, Fz3_4⟩ := fz3_4
      have E5 := (Ext.refl (b := b) (σ := σ)).trans es3
      unfold pc_X4_look_44
      refine sf_if (fun c6 => ?_) (fun c6 => ?_)
      · exact ret_O ⟨by decide, by decide⟩ Gs3 E5 (Qz3_4.le (by omega) (by omega) (by omega) (by omega)) (by first | trivial | assumption | omega | (dsimp only; omega))
      · refine wgF (Gs3.tg 16) (Gs3.fi 19 (i := 16) (f := 1) (j := 2)) ?_
        refine wgN (Gs3.tg 16) (fun z3_8 hz3_8 => ?_)
        have rz3_8 : inR z3_8 := hz3_8 ▸ Gs3.ir _ _
        refine wtN (Gs3.tg 2) ?_
        refine cl_Z (s_set (k := k + 7) (s := s + 66) (o := o + 40) (z := z) (by omega) Gs3 (Qz3_4.le (by omega) (by omega) (by omega) (by omega)) ⟨by omega, by omega⟩ (by first | assumption | exact inR_of _ | exact ⟨by omega, by omega⟩)) (fun s9 z6_10 rz6_10 Gs9 es9 Rs9 fz6_10 => ?_)
        have E11 := E5.trans es9
        exact thr_O Gs9 E11 (Rs9.le (by omega) (by omega) (by omega) (by omega))
    · refine wgF (G.tg 16) (G.fi 20 (i := 16) (f := 2) (j := 17)) ?_
      refine wrN (G.tg 17) (G.ln 17 (n := 7)) ⟨by omega, by omega⟩ (fun z3_13 hz3_13 => ?_)
      have fz3_13 := G.nu 17 (0 : Int).toNat (lo := 0) (hi := 60000)
      have rz3_13 : inR z3_13 := hz3_13 ▸ G.ir _ _
      refine wgN (G.tg 16) (fun z4_14 hz4_14 => ?_)
      have fz4_14 := G.nu 16 4
      have rz4_14 : inR z4_14 := hz4_14 ▸ G.ir _ _
      refine sf_if (fun c15 => ?_) (fun c15 => ?_)
      · unfold pc_X4_look_44
        refine sf_if (fun c16 => ?_) (fun c16 => ?_)
        · exact ret_O ⟨by decide, by decide⟩ G (Ext.refl (b := b) (σ := σ)) (R.le (by omega) (by omega) (by omega) (by omega)) (by first | trivial | assumption | omega | (dsimp only; omega))
        · refine wgF (G.tg 16) (G.fi 19 (i := 16) (f := 1) (j := 2)) ?_
          refine wgN (G.tg 16) (fun z3_18 hz3_18 => ?_)
          have rz3_18 : inR z3_18 := hz3_18 ▸ G.ir _ _
          refine wtN (G.tg 2) ?_
          refine cl_Z (s_set (k := k + 1) (s := s + 6) (o := o) (z := z) (by omega) G (R.le (by omega) (by omega) (by omega) (by omega)) ⟨by omega, by omega⟩ (by first | assumption | exact inR_of _ | exact ⟨by omega, by omega⟩)) (fun s19 z6_20 rz6_20 Gs19 es19 Rs19 fz6_20 => ?_)
          have E21 := (Ext.refl (b := b) (σ := σ)).trans es19
          exact thr_O Gs19 E21 (Rs19.le (by omega) (by omega) (by omega) (by omega))
      · refine wgN (G.tg 16) (fun z6_22 hz6_22 => ?_)
        have fz6_22 := G.nu 16 3
        have rz6_22 : inR z6_22 := hz6_22 ▸ G.ir _ _
        refine sf_if (fun c23 => ?_) (fun c23 => ?_)
        · unfold pc_X4_look_44
          refine sf_if (fun c24 => ?_) (fun c24 => ?_)
          · exact ret_O ⟨by decide, by decide⟩ G (Ext.refl (b := b) (σ := σ)) (R.le (by omega) (by omega) (by omega) (by omega)) (by first | trivial | assumption | omega | (dsimp only; omega))
          · refine wgF (G.tg 16) (G.fi 19 (i := 16) (f := 1) (j := 2)) ?_
            refine wgN (G.tg 16) (fun z3_26 hz3_26 => ?_)
            have rz3_26 : inR z3_26 := hz3_26 ▸ G.ir _ _
            refine wtN (G.tg 2) ?_
            refine cl_Z (s_set (k := k + 1) (s := s + 6) (o := o) (z := z) (by omega) G (R.le (by omega) (by omega) (by omega) (by omega)) ⟨by omega, by omega⟩ (by first | assumption | exact inR_of _ | exact ⟨by omega, by omega⟩)) (fun s27 z6_28 rz6_28 Gs27 es27 Rs27 fz6_28 => ?_)
            have E29 := (Ext.refl (b := b) (σ := σ)).trans es27
            exact thr_O Gs27 E29 (Rs27.le (by omega) (by omega) (by omega) (by omega))
        · unfold pc_X4_look_38
          refine wtN (G.tg 16) ?_
          refine cl_O (s_spend (k := k) (s := s) (o := o) (z := z) (by omega) G (R.le (by omega) (by omega) (by omega) (by omega)) ⟨by omega, by omega⟩) (Ext.refl (b := b) (σ := σ)) (by omega) (by omega) (by omega) (by omega) (fun s30 z3_31 rz3_31 Gs30 es30 Rs30 fz3_31 => ?_)
          obtain ⟨Qz3_31, Lz3_31, Fz3_31⟩ := fz3_31
          have E32 := (Ext.refl (b := b) (σ := σ)).trans es30
          unfold pc_X4_look_44
          refine sf_if (fun c33 => ?_) (fun c33 => ?_)
          · exact ret_O ⟨by decide, by decide⟩ Gs30 E32 (Qz3_31.le (by omega) (by omega) (by omega) (by omega)) (by first | trivial | assumption | omega | (dsimp only; omega))
          · refine wgF (Gs30.tg 16) (Gs30.fi 19 (i := 16) (f := 1) (j := 2)) ?_
            refine wgN (Gs30.tg 16) (fun z3_35 hz3_35 => ?_)
            have rz3_35 : inR z3_35 := hz3_35 ▸ Gs30.ir _ _
            refine wtN (Gs30.tg 2) ?_
            refine cl_Z (s_set (k := k + 7) (s := s + 66) (o := o + 40) (z := z) (by omega) Gs30 (Qz3_31.le (by omega) (by omega) (by omega) (by omega)) ⟨by omega, by omega⟩ (by first | assumption | exact inR_of _ | exact ⟨by omega, by omega⟩)) (fun s36 z6_37 rz6_37 Gs36 es36 Rs36 fz6_37 => ?_)
            have E38 := E32.trans es36
            exact thr_O Gs36 E38 (Rs36.le (by omega) (by omega) (by omega) (by omega))
  · unfold pc_X4_look_11
    refine sf_if (fun c39 => ?_) (fun c39 => ?_)
    · unfold pc_X4_look_38
      refine wtN (G.tg 16) ?_
      refine cl_O (s_spend (k := k) (s := s) (o := o) (z := z) (by omega) G (R.le (by omega) (by omega) (by omega) (by omega)) ⟨by omega, by omega⟩) (Ext.refl (b := b) (σ := σ)) (by omega) (by omega) (by omega) (by omega) (fun s40 z3_41 rz3_41 Gs40 es40 Rs40 fz3_41 => ?_)
      obtain ⟨Qz3_41, Lz3_41, Fz3_41⟩ := fz3_41
      have E42 := (Ext.refl (b := b) (σ := σ)).trans es40
      unfold pc_X4_look_44
      refine sf_if (fun c43 => ?_) (fun c43 => ?_)
      · exact ret_O ⟨by decide, by decide⟩ Gs40 E42 (Qz3_41.le (by omega) (by omega) (by omega) (by omega)) (by first | trivial | assumption | omega | (dsimp only; omega))
      · refine wgF (Gs40.tg 16) (Gs40.fi 19 (i := 16) (f := 1) (j := 2)) ?_
        refine wgN (Gs40.tg 16) (fun z3_45 hz3_45 => ?_)
        have rz3_45 : inR z3_45 := hz3_45 ▸ Gs40.ir _ _
        refine wtN (Gs40.tg 2) ?_
        refine cl_Z (s_set (k := k + 7) (s := s + 66) (o := o + 40) (z := z) (by omega) Gs40 (Qz3_41.le (by omega) (by omega) (by omega) (by omega)) ⟨by omega, by omega⟩ (by first | assumption | exact inR_of _ | exact ⟨by omega, by omega⟩)) (fun s46 z6_47 rz6_47 Gs46 es46 Rs46 fz6_47 => ?_)
        have E48 := E42.trans es46
        exact thr_O Gs46 E48 (Rs46.le (by omega) (by omega) (by omega) (by omega))
    · refine wgF (G.tg 16) (G.fi 20 (i := 16) (f := 2) (j := 17)) ?_
      refine wrN (G.tg 17) (G.ln 17 (n := 7)) ⟨by omega, by omega⟩ (fun z3_50 hz3_50 => ?_)
      have fz3_50 := G.nu 17 (0 : Int).toNat (lo := 0) (hi := 60000)
      have rz3_50 : inR z3_50 := hz3_50 ▸ G.ir _ _
      refine wgN (G.tg 16) (fun z4_51 hz4_51 => ?_)
      have fz4_51 := G.nu 16 4
      have rz4_51 : inR z4_51 := hz4_51 ▸ G.ir _ _
      refine sf_if (fun c52 => ?_) (fun c52 => ?_)
      · unfold pc_X4_look_44
        refine sf_if (fun c53 => ?_) (fun c53 => ?_)
        · exact ret_O ⟨by decide, by decide⟩ G (Ext.refl (b := b) (σ := σ)) (R.le (by omega) (by omega) (by omega) (by omega)) (by first | trivial | assumption | omega | (dsimp only; omega))
        · refine wgF (G.tg 16) (G.fi 19 (i := 16) (f := 1) (j := 2)) ?_
          refine wgN (G.tg 16) (fun z3_55 hz3_55 => ?_)
          have rz3_55 : inR z3_55 := hz3_55 ▸ G.ir _ _
          refine wtN (G.tg 2) ?_
          refine cl_Z (s_set (k := k + 1) (s := s + 6) (o := o) (z := z) (by omega) G (R.le (by omega) (by omega) (by omega) (by omega)) ⟨by omega, by omega⟩ (by first | assumption | exact inR_of _ | exact ⟨by omega, by omega⟩)) (fun s56 z6_57 rz6_57 Gs56 es56 Rs56 fz6_57 => ?_)
          have E58 := (Ext.refl (b := b) (σ := σ)).trans es56
          exact thr_O Gs56 E58 (Rs56.le (by omega) (by omega) (by omega) (by omega))
      · refine wgN (G.tg 16) (fun z6_59 hz6_59 => ?_)
        have fz6_59 := G.nu 16 3
        have rz6_59 : inR z6_59 := hz6_59 ▸ G.ir _ _
        refine sf_if (fun c60 => ?_) (fun c60 => ?_)
        · unfold pc_X4_look_44
          refine sf_if (fun c61 => ?_) (fun c61 => ?_)
          · exact ret_O ⟨by decide, by decide⟩ G (Ext.refl (b := b) (σ := σ)) (R.le (by omega) (by omega) (by omega) (by omega)) (by first | trivial | assumption | omega | (dsimp only; omega))
          · refine wgF (G.tg 16) (G.fi 19 (i := 16) (f := 1) (j := 2)) ?_
            refine wgN (G.tg 16) (fun z3_63 hz3_63 => ?_)
            have rz3_63 : inR z3_63 := hz3_63 ▸ G.ir _ _
            refine wtN (G.tg 2) ?_
            refine cl_Z (s_set (k := k + 1) (s := s + 6) (o := o) (z := z) (by omega) G (R.le (by omega) (by omega) (by omega) (by omega)) ⟨by omega, by omega⟩ (by first | assumption | exact inR_of _ | exact ⟨by omega, by omega⟩)) (fun s64 z6_65 rz6_65 Gs64 es64 Rs64 fz6_65 => ?_)
            have E66 := (Ext.refl (b := b) (σ := σ)).trans es64
            exact thr_O Gs64 E66 (Rs64.le (by omega) (by omega) (by omega) (by omega))
        · unfold pc_X4_look_38
          refine wtN (G.tg 16) ?_
          refine cl_O (s_spend (k := k) (s := s) (o := o) (z := z) (by omega) G (R.le (by omega) (by omega) (by omega) (by omega)) ⟨by omega, by omega⟩) (Ext.refl (b := b) (σ := σ)) (by omega) (by omega) (by omega) (by omega) (fun s67 z3_68 rz3_68 Gs67 es67 Rs67 fz3_68 => ?_)
          obtain ⟨Qz3_68, Lz3_68, Fz3_68⟩ := fz3_68
          have E69 := (Ext.refl (b := b) (σ := σ)).trans es67
          unfold pc_X4_look_44
          refine sf_if (fun c70 => ?_) (fun c70 => ?_)
          · exact ret_O ⟨by decide, by decide⟩ Gs67 E69 (Qz3_68.le (by omega) (by omega) (by omega) (by omega)) (by first | trivial | assumption | omega | (dsimp only; omega))
          · refine wgF (Gs67.tg 16) (Gs67.fi 19 (i := 16) (f := 1) (j := 2)) ?_
            refine wgN (Gs67.tg 16) (fun z3_72 hz3_72 => ?_)
            have rz3_72 : inR z3_72 := hz3_72 ▸ Gs67.ir _ _
            refine wtN (Gs67.tg 2) ?_
            refine cl_Z (s_set (k := k + 7) (s := s + 66) (o := o + 40) (z := z) (by omega) Gs67 (Qz3_68.le (by omega) (by omega) (by omega) (by omega)) ⟨by omega, by omega⟩ (by first | assumption | exact inR_of _ | exact ⟨by omega, by omega⟩)) (fun s73 z6_74 rz6_74 Gs73 es73 Rs73 fz6_74 => ?_)
            have E75 := E69.trans es73
            exact thr_O Gs73 E75 (Rs73.le (by omega) (by omega) (by omega) (by omega))
/-- a link with a term -/
def oLt (σ : CS) (x : Int) : Prop := oLn σ x ∧ oN σ (c_pv σ x.toNat 1)
theorem oLt.tg {x : Int} (h : oLt σ x) : 0 ≤ x ∧ c_tg σ x.toNat = 4 := h.1
theorem oLt.ln {x : Int} (h : oLt σ x) : oLn σ x := h.1
theorem oLt.upz {σ' : CS} {x : Int} (h : oLt σ x) (e : Ext0 b σ σ') : oLt σ' x := ⟨h.1.upz e, by rw [e.lk h.1.2]; exact h.2.upz e⟩
theorem oLt.up {σ' : CS} {x : Int} (h : oLt σ x) (e : Ext b σ σ') : oLt σ' x := h.upz e.z
/-- a use of n parts -/
def oV (b : Nat) (σ : CS) (x : Int) (n : Nat) : Prop := oU σ x ∧ oA b σ (c_pv σ x.toNat 8) ∧ c_ln σ (c_pv σ x.toNat 8).toNat = n
theorem oV.upz {σ' : CS} {x : Int} {n : Nat} (h : oV b σ x n) (e : Ext0 b σ σ') : oV b σ' x n := by
  have e8 := e.nd h.1.1.2 8 (by omega)
  refine ⟨h.1.upz e, by rw [e8]; exact h.2.1.upz e, ?_⟩
  rw [e8, e.ln h.2.1.1.2 (by decide)]
  exact h.2.2
theorem oV.up {σ' : CS} {x : Int} {n : Nat} (h : oV b σ x n) (e : Ext b σ σ') : oV b σ' x n := h.upz e.z
theorem pl.succ {m : Nat} {x : Int} (h : pl σ m x) (hx : 0 ≤ x) : ∃ m0, m = m0 + 1 := by
  cases m with
  | zero => exact absurd h (by show ¬ x < 0; omega)
  | succ m => exact ⟨m, rfl⟩
theorem s_head36 {T : CS → Int → Prop} (hd : 7 ≤ d) {k11 : CS → Int → Int → Int → Int → Int → CO} {x3 x4 x6 : Int} {N : Nat} (h6 : 0 ≤ x6 ∧ x6 ≤ 1000000) (rx3 : inR x3) (rx4 : inR x4) : ∀ (n : Nat) {σ : CS} {m : Nat} {x5 x7 : Int}, GG bd b σ → RR bd b σ (k + 2) (s + 10 + m) (o + m) z → oV b σ x3 N → oL σ x4 → pl σ m x5 → inR x5 → (m : Int) ≤ c_pv σ (b + 16) 3 → (-1 ≤ x7 ∧ x7 < (N : Int)) → x7 + 2 ≤ (n : Int) →
    (∀ {σ' : CS} {m' : Nat} {x3' x5' x6' : Int}, GG bd b σ' → RR bd b σ' (k + 2) (s + 10 + m') (o + m') z → oN σ' x3' → inR x3' → oL σ' x4 → pl σ' m' x5' → inR x5' → (m' : Int) ≤ c_pv σ' (b + 16) 3 → c_pv σ (b + 16) 3 + x7 + 1 ≤ c_pv σ' (b + 16) 3 → x6' = x6 + 1 → sf (k11 σ' ((b + 16 : Nat) : Int) x3' x4 x5' x6') (PO bd b σ' k s o z T)) → sf (pc_X4_head_36 (RC bd d) bd k11 n σ ((b + 16 : Nat) : Int) x3 x4 x5 x6 x7) (PO bd b σ k s o z T) := by
  intro n
  induction n with
  | zero =>
    intro σ m x5 x7 G R V t_x4 p_x5 rx5 hm h7 hn hk
    omega
  | succ n ih =>
    intro σ m x5 x7 G R V t_x4 p_x5 rx5 hm h7 hn hk
    have t_x3 := V.1
    have hN := V.2.1.2.2.2.1
    rw [V.2.2] at hN
    have t_x5 := p_x5.p
    unfold pc_X4_head_36
    refine sf_if (fun c1 => ?_) (fun c1 => ?_)
    · refine wg t_x3.tg (fun z2_2 hz2_2 => ?_)
      have rz2_2 : inR z2_2 := hz2_2 ▸ G.ir _ _
      have t_z2_2 : oN σ z2_2 := hz2_2 ▸ G.n6 t_x3.tg (by have := t_x3.2; omega)
      unfold pc_X4_head_331
      refine wck ⟨by omega, by omega⟩ (fun y hy => ?_)
      exact hk G R t_z2_2 (by first | assumption | exact ref_R G R t_z2_2.tg (by decide)) t_x4 p_x5 rx5 hm (by omega) hy
    · refine wtN (G.tg 16) ?_
      refine cl_O (s_spend (k := k + 1) (s := s + 4 + m) (o := o + 0 + m) (z := z) (by omega) G (R.le (by omega) (by omega) (by omega) (by omega)) ⟨by omega, by omega⟩) (Ext.refl (b := b) (σ := σ)) (by omega) (by omega) (by omega) (by omega) (fun s3 z5_4 rz5_4 Gs3 es3 Rs3 fz5_4 => ?_)
      obtain ⟨Qz5_4, L5, F5⟩ := fz5_4
      have E5 := (Ext.refl (b := b) (σ := σ)).trans es3
      have t_x3 := t_x3.up es3
      have t_x4 := t_x4.up es3
      have t_x5 := t_x5.up es3
      have V := V.up es3
      have p_x5 := p_x5.up es3
      refine sf_n (rr_room Gs3 (Qz5_4.le (k' := (k + 7) + 1) (s' := (s + 65 + m) + 5) (o' := (o + 40 + m)) (z' := z) (by omega) (by omega) (by omega) (by omega))) ?_
      refine wgn Gs3 t_x3.tg (by decide) (fun z8_6 hz8_6 => ?_)
      have rz8_6 : inR z8_6 := hz8_6 ▸ Gs3.ir _ _
      have t_z8_6 : oA b s3 z8_6 := hz8_6 ▸ Gs3.n8 t_x3.tg t_x3.2
      have l_8 : c_ln s3 (z8_6).toNat = N := by rw [← hz8_6]; exact V.2.2
      refine wrn Gs3 t_z8_6.tg (by decide) ⟨by omega, by omega⟩ (fun z9_7 hz9_7 => ?_)
      have rz9_7 : inR z9_7 := hz9_7 ▸ Gs3.ir _ _
      have t_z9_7 : oN s3 z9_7 := hz9_7 ▸ t_z8_6.2.2.2.2 _ (by omega)
      refine mk_part (k := k + 7) (s := s + 65 + m) (o := o + 40 + m) (z := z) (by omega) Gs3 (Qz5_4.le (by omega) (by omega) (by omega) (by omega)) ⟨⟨by decide, by decide⟩, (by first | assumption | exact ref_R Gs3 Qz5_4 t_z9_7.tg (by decide)), (by first | assumption | exact ref_R Gs3 Qz5_4 t_x4.tg (by decide)), (by first | assumption | exact ref_R Gs3 Qz5_4 t_x5.tg (by decide))⟩ (by omega) t_z9_7 t_x4 t_x5 (fun s8 Gs8 es8 Rs8 fs8 => ?_)
      obtain ⟨t_z7_s8, v_z7_s8, Fm⟩ := fs8
      have E9 := E5.trans es8
      have t_x3 := t_x3.up es8
      have t_x4 := t_x4.up es8
      have V := V.up es8
      have p_x5 := p_x5.up es8
      have p_7 : pl s8 (m + 1) ((c_hp s3 : Nat) : Int) := ⟨t_z7_s8, by rw [v_z7_s8]; exact p_x5⟩
      have l_7 := Fm (b + 16) 3 (by have := Gs3.hp; omega)
      have r_7 := hp_R Gs3 Qz5_4
      refine wck ⟨by omega, by omega⟩ (fun z13_10 hz13_10 => ?_)
      exact tr_O E9 (ih (m := m + 1) Gs8 (Rs8.le (by omega) (by omega) (by omega) (by omega)) V t_x4 p_7 r_7 (by omega) (by omega) (by omega) (fun a1 a2 a3 a4 a5 a6 a7 a8 a9 a10 => hk a1 a2 a3 a4 a5 a6 a7 a8 (by omega) a10))
/-- a head of m parts; one that binds -/
def oHm (σ : CS) (x : Int) (m : Nat) : Prop := oHd σ x ∧ pl σ m (c_pv σ x.toNat 3)
theorem oHm.upz {σ' : CS} {x : Int} {m : Nat} (h : oHm σ x m) (e : Ext0 b σ σ') : oHm σ' x m := ⟨h.1.upz e, by rw [e.hd h.1.2]; exact h.2.upz e⟩
theorem oHm.up {σ' : CS} {x : Int} {m : Nat} (h : oHm σ x m) (e : Ext b σ σ') : oHm σ' x m := h.upz e.z
def oHB (σ : CS) (x : Int) : Prop := oHd σ x ∧ oB σ (c_pv σ x.toNat 0)
theorem oHB.upz {σ' : CS} {x : Int} (h : oHB σ x) (e : Ext0 b σ σ') : oHB σ' x := ⟨h.1.upz e, by rw [e.hd h.1.2]; exact h.2.upz e⟩
theorem oHB.up {σ' : CS} {x : Int} (h : oHB σ x) (e : Ext b σ σ') : oHB σ' x := h.upz e.z
theorem s_head11 (hd : 9 ≤ d) : ∀ (n : Nat) {σ : CS} {m : Nat} {x3 x4 x5 x6 : Int}, GG bd b σ → RR bd b σ (k + 2) (s + 10 + m) (o + m) z → oN σ x3 → inR x3 → oL σ x4 → inR x4 → pl σ m x5 → inR x5 → (m : Int) ≤ c_pv σ (b + 16) 3 → (0 ≤ x6 ∧ x6 ≤ 1000000) → 60001 - c_pv σ (b + 16) 3 ≤ (n : Int) → sf (pc_X4_head_11 (RC bd d) bd n σ ((b + 16 : Nat) : Int) x3 x4 x5 x6) (PO bd b σ k s o z (fun σ' r => ∃ m, oHm σ' r m ∧ m ≤ 60000 ∧ RR bd b σ' (k + 1) (s + 6 + m) (o + m) z)) := by
  intro n
  induction n with
  | zero =>
    intro σ m x3 x4 x5 x6 G R t_x3 rx3 t_x4 rx4 p_x5 rx5 hm h6 hn
    have := G.nu 16 3
    omega
  | succ n ih =>
    intro σ m x3 x4 x5 x6 G R t_x3 rx3 t_x4 rx4 p_x5 rx5 hm h6 hn
    have t_x5 := p_x5.p
    have n163 := G.nu 16 3
    unfold pc_X4_head_11
    refine sf_if (fun c1 => ?_) (fun c1 => ?_)
    · refine sf_n (rr_room G (R.le (k' := (k + 1) + 1) (s' := (s + 6 + m) + 4) (o' := (o + 0 + m)) (z' := z) (by omega) (by omega) (by omega) (by omega))) ?_
      refine wgn G t_x3.tg (by decide) (fun z4_2 hz4_2 => ?_)
      have rz4_2 : inR z4_2 := hz4_2 ▸ G.ir _ _
      have fz4_2 : oid z4_2 := hz4_2 ▸ G.ni t_x3.tg
      refine mk_head (k := k + 1) (s := s + 6 + m) (o := o + 0 + m) (z := z) (by omega) G (R.le (by omega) (by omega) (by omega) (by omega)) ⟨(by first | assumption | exact ref_R G R t_x3.tg (by decide)), (by first | assumption | exact inR_of _ | exact ⟨by omega, by omega⟩), (by first | assumption | exact ref_R G R t_x4.tg (by decide)), (by first | assumption | exact ref_R G R t_x5.tg (by decide))⟩ t_x3 (by first | assumption | exact ⟨by omega, by omega⟩) t_x4 t_x5 (fun s3 Gs3 es3 Rs3 fs3 => ?_)
      obtain ⟨t_h, v_h, Fm⟩ := fs3
      have E4 := (Ext.refl (b := b) (σ := σ)).trans es3
      have p_x5 := p_x5.up es3
      have Rs_h := Rs3
      exact ret_O (by first | assumption | exact ref_R Gs3 Rs3 t_h.tg (by decide) | exact ⟨by omega, by omega⟩) Gs3 E4 (Rs3.le (by omega) (by omega) (by omega) (by omega)) (by first | trivial | assumption | omega | (dsimp only; omega) | exact ⟨m, ⟨t_h, by rw [v_h.2]; exact p_x5⟩, by omega, Rs_h.le (by omega) (by omega) (by omega) (by omega)⟩)
    · refine wg t_x3.tg (fun z8_5 hz8_5 => ?_)
      have rz8_5 : inR z8_5 := hz8_5 ▸ G.ir _ _
      have fz8_5 := G.kd t_x3.tg
      rw [hz8_5] at fz8_5
      refine sf_if (fun c6 => ?_) (fun c6 => ?_)
      · refine wg t_x3.tg (fun z10_7 hz10_7 => ?_)
        have rz10_7 : inR z10_7 := hz10_7 ▸ G.ir _ _
        have fz10_7 := G.kd t_x3.tg
        rw [hz10_7] at fz10_7
        refine sf_if (fun c8 => ?_) (fun c8 => ?_)
        · refine wg t_x3.tg (fun z12_9 hz12_9 => ?_)
          have rz12_9 : inR z12_9 := hz12_9 ▸ G.ir _ _
          have fz12_9 := G.kd t_x3.tg
          rw [hz12_9] at fz12_9
          refine sf_if (fun c10 => ?_) (fun c10 => ?_)
          · unfold pc_X4_head_182
            refine wg t_x3.tg (fun z1_11 hz1_11 => ?_)
            have rz1_11 : inR z1_11 := hz1_11 ▸ G.ir _ _
            have fz1_11 := G.kd t_x3.tg
            rw [hz1_11] at fz1_11
            refine sf_if (fun c12 => ?_) (fun c12 => ?_)
            · unfold pc_X4_head_227
              refine wg t_x3.tg (fun z1_13 hz1_13 => ?_)
              have rz1_13 : inR z1_13 := hz1_13 ▸ G.ir _ _
              have fz1_13 := G.kd t_x3.tg
              rw [hz1_13] at fz1_13
              refine sf_if (fun c14 => ?_) (fun c14 => ?_)
              · refine sf_n (rr_room G (R.le (k' := (k + 1) + 1) (s' := (s + 6 + m) + 4) (o' := (o + 0 + m)) (z' := z) (by omega) (by omega) (by omega) (by omega))) ?_
                refine wgn G t_x3.tg (by decide) (fun z5_15 hz5_15 => ?_)
                have rz5_15 : inR z5_15 := hz5_15 ▸ G.ir _ _
                have fz5_15 : oid z5_15 := hz5_15 ▸ G.ni t_x3.tg
                refine mk_head (k := k + 1) (s := s + 6 + m) (o := o + 0 + m) (z := z) (by omega) G (R.le (by omega) (by omega) (by omega) (by omega)) ⟨(by first | assumption | exact ref_R G R t_x3.tg (by decide)), (by first | assumption | exact inR_of _ | exact ⟨by omega, by omega⟩), (by first | assumption | exact ref_R G R t_x4.tg (by decide)), (by first | assumption | exact ref_R G R t_x5.tg (by decide))⟩ t_x3 (by first | assumption | exact ⟨by omega, by omega⟩) t_x4 t_x5 (fun s16 Gs16 es16 Rs16 fs16 => ?_)
                obtain ⟨t_h, v_h, Fm⟩ := fs16
                have E17 := (Ext.refl (b := b) (σ := σ)).trans es16
                have p_x5 := p_x5.up es16
                have Rs_h := Rs16
                exact ret_O (by first | assumption | exact ref_R Gs16 Rs16 t_h.tg (by decide) | exact ⟨by omega, by omega⟩) Gs16 E17 (Rs16.le (by omega) (by omega) (by omega) (by omega)) (by first | trivial | assumption | omega | (dsimp only; omega) | exact ⟨m, ⟨t_h, by rw [v_h.2]; exact p_x5⟩, by omega, Rs_h.le (by omega) (by omega) (by omega) (by omega)⟩)
              · refine wg t_x3.tg (fun z9_18 hz9_18 => ?_)
                have rz9_18 : inR z9_18 := hz9_18 ▸ G.ir _ _
                have fz9_18 : oid z9_18 := hz9_18 ▸ G.ni t_x3.tg
                refine cl_U (s_find (by omega) G R (by first | assumption | exact ref_R G R t_x4.tg (by decide)) t_x4) (fun z12_20 rz12_20 fz12_20 => ?_)
                have t_z12_20 := fz12_20
                refine sf_if (fun c21 => ?_) (fun c21 => ?_)
                · unfold pc_X4_head_259
                  refine sf_if (fun c22 => ?_) (fun c22 => ?_)
                  · have t_z12_20 := t_z12_20.pos (by omega)
                    refine wg t_z12_20.tg (fun z2_23 hz2_23 => ?_)
                    have rz2_23 : inR z2_23 := hz2_23 ▸ G.ir _ _
                    have fz2_23 : oid z2_23 := hz2_23 ▸ (G.lkf t_z12_20.tg).2.2.2.1
                    unfold pc_X4_head_276
                    refine sf_n (rr_room G (R.le (k' := (k + 1) + 1) (s' := (s + 6 + m) + 4) (o' := (o + 0 + m)) (z' := z) (by omega) (by omega) (by omega) (by omega))) ?_
                    refine mk_head (k := k + 1) (s := s + 6 + m) (o := o + 0 + m) (z := z) (by omega) G (R.le (by omega) (by omega) (by omega) (by omega)) ⟨(by first | assumption | exact ref_R G R t_x3.tg (by decide)), (by first | assumption | exact inR_of _ | exact ⟨by omega, by omega⟩), (by first | assumption | exact ref_R G R t_x4.tg (by decide)), (by first | assumption | exact ref_R G R t_x5.tg (by decide))⟩ t_x3 (by first | assumption | exact ⟨by omega, by omega⟩) t_x4 t_x5 (fun s24 Gs24 es24 Rs24 fs24 => ?_)
                    obtain ⟨t_h, v_h, Fm⟩ := fs24
                    have E25 := (Ext.refl (b := b) (σ := σ)).trans es24
                    have p_x5 := p_x5.up es24
                    have Rs_h := Rs24
                    exact ret_O (by first | assumption | exact ref_R Gs24 Rs24 t_h.tg (by decide) | exact ⟨by omega, by omega⟩) Gs24 E25 (Rs24.le (by omega) (by omega) (by omega) (by omega)) (by first | trivial | assumption | omega | (dsimp only; omega) | exact ⟨m, ⟨t_h, by rw [v_h.2]; exact p_x5⟩, by omega, Rs_h.le (by omega) (by omega) (by omega) (by omega)⟩)
                  · refine wg t_x3.tg (fun z3_26 hz3_26 => ?_)
                    have rz3_26 : inR z3_26 := hz3_26 ▸ G.ir _ _
                    have fz3_26 : oid z3_26 := hz3_26 ▸ G.ni t_x3.tg
                    unfold pc_X4_head_276
                    refine sf_n (rr_room G (R.le (k' := (k + 1) + 1) (s' := (s + 6 + m) + 4) (o' := (o + 0 + m)) (z' := z) (by omega) (by omega) (by omega) (by omega))) ?_
                    refine mk_head (k := k + 1) (s := s + 6 + m) (o := o + 0 + m) (z := z) (by omega) G (R.le (by omega) (by omega) (by omega) (by omega)) ⟨(by first | assumption | exact ref_R G R t_x3.tg (by decide)), (by first | assumption | exact inR_of _ | exact ⟨by omega, by omega⟩), (by first | assumption | exact ref_R G R t_x4.tg (by decide)), (by first | assumption | exact ref_R G R t_x5.tg (by decide))⟩ t_x3 (by first | assumption | exact ⟨by omega, by omega⟩) t_x4 t_x5 (fun s27 Gs27 es27 Rs27 fs27 => ?_)
                    obtain ⟨t_h, v_h, Fm⟩ := fs27
                    have E28 := (Ext.refl (b := b) (σ := σ)).trans es27
                    have p_x5 := p_x5.up es27
                    have Rs_h := Rs27
                    exact ret_O (by first | assumption | exact ref_R Gs27 Rs27 t_h.tg (by decide) | exact ⟨by omega, by omega⟩) Gs27 E28 (Rs27.le (by omega) (by omega) (by omega) (by omega)) (by first | trivial | assumption | omega | (dsimp only; omega) | exact ⟨m, ⟨t_h, by rw [v_h.2]; exact p_x5⟩, by omega, Rs_h.le (by omega) (by omega) (by omega) (by omega)⟩)
                · have t_z12_20 := t_z12_20.pos (by omega)
                  refine wg t_z12_20.tg (fun z14_29 hz14_29 => ?_)
                  have rz14_29 : inR z14_29 := hz14_29 ▸ G.ir _ _
                  have t_z14_29 : oNN σ z14_29 := hz14_29 ▸ (G.lkf t_z12_20.tg).2.1
                  refine sf_if (fun c30 => ?_) (fun c30 => ?_)
                  · have t_z14_29 := t_z14_29.pos (by omega)
                    have t_z12_20 : oLt σ z12_20 := ⟨t_z12_20, hz14_29 ▸ t_z14_29⟩
                    refine wtN (G.tg 16) ?_
                    refine cl_O (s_spend (k := k + 1) (s := s + 4 + m) (o := o + 0 + m) (z := z) (by omega) G (R.le (by omega) (by omega) (by omega) (by omega)) ⟨by omega, by omega⟩) (Ext.refl (b := b) (σ := σ)) (by omega) (by omega) (by omega) (by omega) (fun s31 z18_32 rz18_32 Gs31 es31 Rs31 fz18_32 => ?_)
                    obtain ⟨Qz18_32, L_s, F_s⟩ := fz18_32
                    have E33 := (Ext.refl (b := b) (σ := σ)).trans es31
                    have t_x5 := t_x5.up es31
                    have t_z12_20 := t_z12_20.up es31
                    have p_x5 := p_x5.up es31
                    refine wg t_z12_20.tg (fun z19_34 hz19_34 => ?_)
                    have rz19_34 : inR z19_34 := hz19_34 ▸ Gs31.ir _ _
                    have t_z19_34 : oN s31 z19_34 := hz19_34 ▸ t_z12_20.2
                    refine wg t_z12_20.tg (fun z20_35 hz20_35 => ?_)
                    have rz20_35 : inR z20_35 := hz20_35 ▸ Gs31.ir _ _
                    have t_z20_35 : oL s31 z20_35 := hz20_35 ▸ (Gs31.lkf t_z12_20.tg).2.2.1
                    unfold pc_X4_head_331
                    refine wck ⟨by omega, by omega⟩ (fun z1_36 hz1_36 => ?_)
                    first
                    | exact tr_O E33 (ih (m := m0) Gs31 (Qz18_32.le (by omega) (by omega) (by omega) (by omega)) t_z19_34 (by first | assumption | exact ref_R Gs31 Qz18_32 t_z19_34.tg (by decide)) t_z20_35 (by first | assumption | exact ref_R Gs31 Qz18_32 t_z20_35.tg (by decide)) p_26 (by first | assumption | exact ref_R Gs31 Qz18_32 t_x5.tg (by decide)) (by omega) (by omega) (by omega))
                    | exact tr_O E33 (ih (m := m0 + 1) Gs31 (Qz18_32.le (by omega) (by omega) (by omega) (by omega)) t_z19_34 (by first | assumption | exact ref_R Gs31 Qz18_32 t_z19_34.tg (by decide)) t_z20_35 (by first | assumption | exact ref_R Gs31 Qz18_32 t_z20_35.tg (by decide)) p_x5 (by first | assumption | exact ref_R Gs31 Qz18_32 t_x5.tg (by decide)) (by omega) (by omega) (by omega))
                    | exact tr_O E33 (ih (m := m) Gs31 (Qz18_32.le (by omega) (by omega) (by omega) (by omega)) t_z19_34 (by first | assumption | exact ref_R Gs31 Qz18_32 t_z19_34.tg (by decide)) t_z20_35 (by first | assumption | exact ref_R Gs31 Qz18_32 t_z20_35.tg (by decide)) p_x5 (by first | assumption | exact ref_R Gs31 Qz18_32 t_x5.tg (by decide)) (by omega) (by omega) (by omega))
                  · unfold pc_X4_head_259
                    refine sf_if (fun c37 => ?_) (fun c37 => ?_)
                    · refine wg t_z12_20.tg (fun z2_38 hz2_38 => ?_)
                      have rz2_38 : inR z2_38 := hz2_38 ▸ G.ir _ _
                      have fz2_38 : oid z2_38 := hz2_38 ▸ (G.lkf t_z12_20.tg).2.2.2.1
                      unfold pc_X4_head_276
                      refine sf_n (rr_room G (R.le (k' := (k + 1) + 1) (s' := (s + 6 + m) + 4) (o' := (o + 0 + m)) (z' := z) (by omega) (by omega) (by omega) (by omega))) ?_
                      refine mk_head (k := k + 1) (s := s + 6 + m) (o := o + 0 + m) (z := z) (by omega) G (R.le (by omega) (by omega) (by omega) (by omega)) ⟨(by first | assumption | exact ref_R G R t_x3.tg (by decide)), (by first | assumption | exact inR_of _ | exact ⟨by omega, by omega⟩), (by first | assumption | exact ref_R G R t_x4.tg (by decide)), (by first | assumption | exact ref_R G R t_x5.tg (by decide))⟩ t_x3 (by first | assumption | exact ⟨by omega, by omega⟩) t_x4 t_x5 (fun s39 Gs39 es39 Rs39 fs39 => ?_)
                      obtain ⟨t_h, v_h, Fm⟩ := fs39
                      have E40 := (Ext.refl (b := b) (σ := σ)).trans es39
                      have p_x5 := p_x5.up es39
                      have Rs_h := Rs39
                      exact ret_O (by first | assumption | exact ref_R Gs39 Rs39 t_h.tg (by decide) | exact ⟨by omega, by omega⟩) Gs39 E40 (Rs39.le (by omega) (by omega) (by omega) (by omega)) (by first | trivial | assumption | omega | (dsimp only; omega) | exact ⟨m, ⟨t_h, by rw [v_h.2]; exact p_x5⟩, by omega, Rs_h.le (by omega) (by omega) (by omega) (by omega)⟩)
                    · refine wg t_x3.tg (fun z3_41 hz3_41 => ?_)
                      have rz3_41 : inR z3_41 := hz3_41 ▸ G.ir _ _
                      have fz3_41 : oid z3_41 := hz3_41 ▸ G.ni t_x3.tg
                      unfold pc_X4_head_276
                      refine sf_n (rr_room G (R.le (k' := (k + 1) + 1) (s' := (s + 6 + m) + 4) (o' := (o + 0 + m)) (z' := z) (by omega) (by omega) (by omega) (by omega))) ?_
                      refine mk_head (k := k + 1) (s := s + 6 + m) (o := o + 0 + m) (z := z) (by omega) G (R.le (by omega) (by omega) (by omega) (by omega)) ⟨(by first | assumption | exact ref_R G R t_x3.tg (by decide)), (by first | assumption | exact inR_of _ | exact ⟨by omega, by omega⟩), (by first | assumption | exact ref_R G R t_x4.tg (by decide)), (by first | assumption | exact ref_R G R t_x5.tg (by decide))⟩ t_x3 (by first | assumption | exact ⟨by omega, by omega⟩) t_x4 t_x5 (fun s42 Gs42 es42 Rs42 fs42 => ?_)
                      obtain ⟨t_h, v_h, Fm⟩ := fs42
                      have E43 := (Ext.refl (b := b) (σ := σ)).trans es42
                      have p_x5 := p_x5.up es42
                      have Rs_h := Rs42
                      exact ret_O (by first | assumption | exact ref_R Gs42 Rs42 t_h.tg (by decide) | exact ⟨by omega, by omega⟩) Gs42 E43 (Rs42.le (by omega) (by omega) (by omega) (by omega)) (by first | trivial | assumption | omega | (dsimp only; omega) | exact ⟨m, ⟨t_h, by rw [v_h.2]; exact p_x5⟩, by omega, Rs_h.le (by omega) (by omega) (by omega) (by omega)⟩)
            · refine wgF (G.tg 16) (G.fi 18 (i := 16) (f := 0) (j := 3)) ?_
              refine wg t_x3.tg (fun z4_45 hz4_45 => ?_)
              have rz4_45 : inR z4_45 := hz4_45 ▸ G.ir _ _
              have fz4_45 : oid z4_45 := hz4_45 ▸ G.ni t_x3.tg
              refine wtN (G.tg 3) ?_
              refine cl_U (s_valueOf (by omega) G) (fun z7_47 rz7_47 fz7_47 => ?_)
              have t_z7_47 := fz7_47
              obtain ⟨t_z7_47, v1_7, v2_7⟩ := fz7_47
              have g7 := G
              have tx7 := t_x3.tg
              refine sf_if (fun c48 => ?_) (fun c48 => ?_)
              · unfold pc_X4_head_227
                refine wg t_x3.tg (fun z1_49 hz1_49 => ?_)
                have rz1_49 : inR z1_49 := hz1_49 ▸ G.ir _ _
                have fz1_49 := G.kd t_x3.tg
                rw [hz1_49] at fz1_49
                refine sf_if (fun c50 => ?_) (fun c50 => ?_)
                · refine sf_n (rr_room G (R.le (k' := (k + 1) + 1) (s' := (s + 6 + m) + 4) (o' := (o + 0 + m)) (z' := z) (by omega) (by omega) (by omega) (by omega))) ?_
                  refine wgn G t_x3.tg (by decide) (fun z5_51 hz5_51 => ?_)
                  have rz5_51 : inR z5_51 := hz5_51 ▸ G.ir _ _
                  have fz5_51 : oid z5_51 := hz5_51 ▸ G.ni t_x3.tg
                  refine mk_head (k := k + 1) (s := s + 6 + m) (o := o + 0 + m) (z := z) (by omega) G (R.le (by omega) (by omega) (by omega) (by omega)) ⟨(by first | assumption | exact ref_R G R t_x3.tg (by decide)), (by first | assumption | exact inR_of _ | exact ⟨by omega, by omega⟩), (by first | assumption | exact ref_R G R t_x4.tg (by decide)), (by first | assumption | exact ref_R G R t_x5.tg (by decide))⟩ t_x3 (by first | assumption | exact ⟨by omega, by omega⟩) t_x4 t_x5 (fun s52 Gs52 es52 Rs52 fs52 => ?_)
                  obtain ⟨t_h, v_h, Fm⟩ := fs52
                  have E53 := (Ext.refl (b := b) (σ := σ)).trans es52
                  have p_x5 := p_x5.up es52
                  have Rs_h := Rs52
                  exact ret_O (by first | assumption | exact ref_R Gs52 Rs52 t_h.tg (by decide) | exact ⟨by omega, by omega⟩) Gs52 E53 (Rs52.le (by omega) (by omega) (by omega) (by omega)) (by first | trivial | assumption | omega | (dsimp only; omega) | exact ⟨m, ⟨t_h, by rw [v_h.2]; exact p_x5⟩, by omega, Rs_h.le (by omega) (by omega) (by omega) (by omega)⟩)
                · refine wg t_x3.tg (fun z9_54 hz9_54 => ?_)
                  have rz9_54 : inR z9_54 := hz9_54 ▸ G.ir _ _
                  have fz9_54 : oid z9_54 := hz9_54 ▸ G.ni t_x3.tg
                  refine cl_U (s_find (by omega) G R (by first | assumption | exact ref_R G R t_x4.tg (by decide)) t_x4) (fun z12_56 rz12_56 fz12_56 => ?_)
                  have t_z12_56 := fz12_56
                  refine sf_if (fun c57 => ?_) (fun c57 => ?_)
                  · unfold pc_X4_head_259
                    refine sf_if (fun c58 => ?_) (fun c58 => ?_)
                    · have t_z12_56 := t_z12_56.pos (by omega)
                      refine wg t_z12_56.tg (fun z2_59 hz2_59 => ?_)
                      have rz2_59 : inR z2_59 := hz2_59 ▸ G.ir _ _
                      have fz2_59 : oid z2_59 := hz2_59 ▸ (G.lkf t_z12_56.tg).2.2.2.1
                      unfold pc_X4_head_276
                      refine sf_n (rr_room G (R.le (k' := (k + 1) + 1) (s' := (s + 6 + m) + 4) (o' := (o + 0 + m)) (z' := z) (by omega) (by omega) (by omega) (by omega))) ?_
                      refine mk_head (k := k + 1) (s := s + 6 + m) (o := o + 0 + m) (z := z) (by omega) G (R.le (by omega) (by omega) (by omega) (by omega)) ⟨(by first | assumption | exact ref_R G R t_x3.tg (by decide)), (by first | assumption | exact inR_of _ | exact ⟨by omega, by omega⟩), (by first | assumption | exact ref_R G R t_x4.tg (by decide)), (by first | assumption | exact ref_R G R t_x5.tg (by decide))⟩ t_x3 (by first | assumption | exact ⟨by omega, by omega⟩) t_x4 t_x5 (fun s60 Gs60 es60 Rs60 fs60 => ?_)
                      obtain ⟨t_h, v_h, Fm⟩ := fs60
                      have E61 := (Ext.refl (b := b) (σ := σ)).trans es60
                      have p_x5 := p_x5.up es60
                      have Rs_h := Rs60
                      exact ret_O (by first | assumption | exact ref_R Gs60 Rs60 t_h.tg (by decide) | exact ⟨by omega, by omega⟩) Gs60 E61 (Rs60.le (by omega) (by omega) (by omega) (by omega)) (by first | trivial | assumption | omega | (dsimp only; omega) | exact ⟨m, ⟨t_h, by rw [v_h.2]; exact p_x5⟩, by omega, Rs_h.le (by omega) (by omega) (by omega) (by omega)⟩)
                    · refine wg t_x3.tg (fun z3_62 hz3_62 => ?_)
                      have rz3_62 : inR z3_62 := hz3_62 ▸ G.ir _ _
                      have fz3_62 : oid z3_62 := hz3_62 ▸ G.ni t_x3.tg
                      unfold pc_X4_head_276
                      refine sf_n (rr_room G (R.le (k' := (k + 1) + 1) (s' := (s + 6 + m) + 4) (o' := (o + 0 + m)) (z' := z) (by omega) (by omega) (by omega) (by omega))) ?_
                      refine mk_head (k := k + 1) (s := s + 6 + m) (o := o + 0 + m) (z := z) (by omega) G (R.le (by omega) (by omega) (by omega) (by omega)) ⟨(by first | assumption | exact ref_R G R t_x3.tg (by decide)), (by first | assumption | exact inR_of _ | exact ⟨by omega, by omega⟩), (by first | assumption | exact ref_R G R t_x4.tg (by decide)), (by first | assumption | exact ref_R G R t_x5.tg (by decide))⟩ t_x3 (by first | assumption | exact ⟨by omega, by omega⟩) t_x4 t_x5 (fun s63 Gs63 es63 Rs63 fs63 => ?_)
                      obtain ⟨t_h, v_h, Fm⟩ := fs63
                      have E64 := (Ext.refl (b := b) (σ := σ)).trans es63
                      have p_x5 := p_x5.up es63
                      have Rs_h := Rs63
                      exact ret_O (by first | assumption | exact ref_R Gs63 Rs63 t_h.tg (by decide) | exact ⟨by omega, by omega⟩) Gs63 E64 (Rs63.le (by omega) (by omega) (by omega) (by omega)) (by first | trivial | assumption | omega | (dsimp only; omega) | exact ⟨m, ⟨t_h, by rw [v_h.2]; exact p_x5⟩, by omega, Rs_h.le (by omega) (by omega) (by omega) (by omega)⟩)
                  · have t_z12_56 := t_z12_56.pos (by omega)
                    refine wg t_z12_56.tg (fun z14_65 hz14_65 => ?_)
                    have rz14_65 : inR z14_65 := hz14_65 ▸ G.ir _ _
                    have t_z14_65 : oNN σ z14_65 := hz14_65 ▸ (G.lkf t_z12_56.tg).2.1
                    refine sf_if (fun c66 => ?_) (fun c66 => ?_)
                    · have t_z14_65 := t_z14_65.pos (by omega)
                      have t_z12_56 : oLt σ z12_56 := ⟨t_z12_56, hz14_65 ▸ t_z14_65⟩
                      refine wtN (G.tg 16) ?_
                      refine cl_O (s_spend (k := k + 1) (s := s + 4 + m) (o := o + 0 + m) (z := z) (by omega) G (R.le (by omega) (by omega) (by omega) (by omega)) ⟨by omega, by omega⟩) (Ext.refl (b := b) (σ := σ)) (by omega) (by omega) (by omega) (by omega) (fun s67 z18_68 rz18_68 Gs67 es67 Rs67 fz18_68 => ?_)
                      obtain ⟨Qz18_68, L_s, F_s⟩ := fz18_68
                      have E69 := (Ext.refl (b := b) (σ := σ)).trans es67
                      have t_x5 := t_x5.up es67
                      have t_z12_56 := t_z12_56.up es67
                      have p_x5 := p_x5.up es67
                      refine wg t_z12_56.tg (fun z19_70 hz19_70 => ?_)
                      have rz19_70 : inR z19_70 := hz19_70 ▸ Gs67.ir _ _
                      have t_z19_70 : oN s67 z19_70 := hz19_70 ▸ t_z12_56.2
                      refine wg t_z12_56.tg (fun z20_71 hz20_71 => ?_)
                      have rz20_71 : inR z20_71 := hz20_71 ▸ Gs67.ir _ _
                      have t_z20_71 : oL s67 z20_71 := hz20_71 ▸ (Gs67.lkf t_z12_56.tg).2.2.1
                      unfold pc_X4_head_331
                      refine wck ⟨by omega, by omega⟩ (fun z1_72 hz1_72 => ?_)
                      first
                      | exact tr_O E69 (ih (m := m0) Gs67 (Qz18_68.le (by omega) (by omega) (by omega) (by omega)) t_z19_70 (by first | assumption | exact ref_R Gs67 Qz18_68 t_z19_70.tg (by decide)) t_z20_71 (by first | assumption | exact ref_R Gs67 Qz18_68 t_z20_71.tg (by decide)) p_26 (by first | assumption | exact ref_R Gs67 Qz18_68 t_x5.tg (by decide)) (by omega) (by omega) (by omega))
                      | exact tr_O E69 (ih (m := m0 + 1) Gs67 (Qz18_68.le (by omega) (by omega) (by omega) (by omega)) t_z19_70 (by first | assumption | exact ref_R Gs67 Qz18_68 t_z19_70.tg (by decide)) t_z20_71 (by first | assumption | exact ref_R Gs67 Qz18_68 t_z20_71.tg (by decide)) p_x5 (by first | assumption | exact ref_R Gs67 Qz18_68 t_x5.tg (by decide)) (by omega) (by omega) (by omega))
                      | exact tr_O E69 (ih (m := m) Gs67 (Qz18_68.le (by omega) (by omega) (by omega) (by omega)) t_z19_70 (by first | assumption | exact ref_R Gs67 Qz18_68 t_z19_70.tg (by decide)) t_z20_71 (by first | assumption | exact ref_R Gs67 Qz18_68 t_z20_71.tg (by decide)) p_x5 (by first | assumption | exact ref_R Gs67 Qz18_68 t_x5.tg (by decide)) (by omega) (by omega) (by omega))
                    · unfold pc_X4_head_259
                      refine sf_if (fun c73 => ?_) (fun c73 => ?_)
                      · refine wg t_z12_56.tg (fun z2_74 hz2_74 => ?_)
                        have rz2_74 : inR z2_74 := hz2_74 ▸ G.ir _ _
                        have fz2_74 : oid z2_74 := hz2_74 ▸ (G.lkf t_z12_56.tg).2.2.2.1
                        unfold pc_X4_head_276
                        refine sf_n (rr_room G (R.le (k' := (k + 1) + 1) (s' := (s + 6 + m) + 4) (o' := (o + 0 + m)) (z' := z) (by omega) (by omega) (by omega) (by omega))) ?_
                        refine mk_head (k := k + 1) (s := s + 6 + m) (o := o + 0 + m) (z := z) (by omega) G (R.le (by omega) (by omega) (by omega) (by omega)) ⟨(by first | assumption | exact ref_R G R t_x3.tg (by decide)), (by first | assumption | exact inR_of _ | exact ⟨by omega, by omega⟩), (by first | assumption | exact ref_R G R t_x4.tg (by decide)), (by first | assumption | exact ref_R G R t_x5.tg (by decide))⟩ t_x3 (by first | assumption | exact ⟨by omega, by omega⟩) t_x4 t_x5 (fun s75 Gs75 es75 Rs75 fs75 => ?_)
                        obtain ⟨t_h, v_h, Fm⟩ := fs75
                        have E76 := (Ext.refl (b := b) (σ := σ)).trans es75
                        have p_x5 := p_x5.up es75
                        have Rs_h := Rs75
                        exact ret_O (by first | assumption | exact ref_R Gs75 Rs75 t_h.tg (by decide) | exact ⟨by omega, by omega⟩) Gs75 E76 (Rs75.le (by omega) (by omega) (by omega) (by omega)) (by first | trivial | assumption | omega | (dsimp only; omega) | exact ⟨m, ⟨t_h, by rw [v_h.2]; exact p_x5⟩, by omega, Rs_h.le (by omega) (by omega) (by omega) (by omega)⟩)
                      · refine wg t_x3.tg (fun z3_77 hz3_77 => ?_)
                        have rz3_77 : inR z3_77 := hz3_77 ▸ G.ir _ _
                        have fz3_77 : oid z3_77 := hz3_77 ▸ G.ni t_x3.tg
                        unfold pc_X4_head_276
                        refine sf_n (rr_room G (R.le (k' := (k + 1) + 1) (s' := (s + 6 + m) + 4) (o' := (o + 0 + m)) (z' := z) (by omega) (by omega) (by omega) (by omega))) ?_
                        refine mk_head (k := k + 1) (s := s + 6 + m) (o := o + 0 + m) (z := z) (by omega) G (R.le (by omega) (by omega) (by omega) (by omega)) ⟨(by first | assumption | exact ref_R G R t_x3.tg (by decide)), (by first | assumption | exact inR_of _ | exact ⟨by omega, by omega⟩), (by first | assumption | exact ref_R G R t_x4.tg (by decide)), (by first | assumption | exact ref_R G R t_x5.tg (by decide))⟩ t_x3 (by first | assumption | exact ⟨by omega, by omega⟩) t_x4 t_x5 (fun s78 Gs78 es78 Rs78 fs78 => ?_)
                        obtain ⟨t_h, v_h, Fm⟩ := fs78
                        have E79 := (Ext.refl (b := b) (σ := σ)).trans es78
                        have p_x5 := p_x5.up es78
                        have Rs_h := Rs78
                        exact ret_O (by first | assumption | exact ref_R Gs78 Rs78 t_h.tg (by decide) | exact ⟨by omega, by omega⟩) Gs78 E79 (Rs78.le (by omega) (by omega) (by omega) (by omega)) (by first | trivial | assumption | omega | (dsimp only; omega) | exact ⟨m, ⟨t_h, by rw [v_h.2]; exact p_x5⟩, by omega, Rs_h.le (by omega) (by omega) (by omega) (by omega)⟩)
              · have t_z7_47 := t_z7_47.pos (by omega)
                refine wtN (G.tg 16) ?_
                refine cl_O (s_spend (k := k + 1) (s := s + 4 + m) (o := o + 0 + m) (z := z) (by omega) G (R.le (by omega) (by omega) (by omega) (by omega)) ⟨by omega, by omega⟩) (Ext.refl (b := b) (σ := σ)) (by omega) (by omega) (by omega) (by omega) (fun s80 z11_81 rz11_81 Gs80 es80 Rs80 fz11_81 => ?_)
                obtain ⟨Qz11_81, L_s, F_s⟩ := fz11_81
                have E82 := (Ext.refl (b := b) (σ := σ)).trans es80
                have t_x3 := t_x3.up es80
                have t_x5 := t_x5.up es80
                have p_x5 := p_x5.up es80
                refine wgF (Gs80.tg 16) (Gs80.fi 18 (i := 16) (f := 0) (j := 3)) ?_
                refine wg t_x3.tg (fun z13_84 hz13_84 => ?_)
                have rz13_84 : inR z13_84 := hz13_84 ▸ Gs80.ir _ _
                have fz13_84 : oid z13_84 := hz13_84 ▸ Gs80.ni t_x3.tg
                have i13 : z13_84 = z4_45 := by rw [← hz13_84, F_s _ _ (by have := g7.ne 16 (by decide) (a := x3.toNat) (by rw [tx7.2]; decide); omega) (by have := g7.ne 17 (by decide) (a := x3.toNat) (by rw [tx7.2]; decide); omega), hz4_45]
                refine wtN (Gs80.tg 3) ?_
                refine cl_U (s_valueOf (by omega) Gs80) (fun z16_86 rz16_86 fz16_86 => ?_)
                have t_z16_86 := fz16_86
                obtain ⟨t_z16_86, v1_8, v2_8⟩ := fz16_86
                have q1 := F_s (b + 9) 2 (by omega) (by omega)
                have q2 := F_s (b + 13) (z4_45).toNat (by omega) (by omega)
                have q3 : 0 ≤ z16_86 := by
                  by_cases c9 : 0 ≤ z4_45 ∧ z4_45 < c_pv σ (b + 9) 2
                  · have a1 := v1_7 c9
                    have a2 := v1_8 (by omega)
                    rw [i13, q2] at a2
                    omega
                  · have a1 := v2_7 c9
                    omega
                have t_z16_86 := t_z16_86.pos q3
                unfold pc_X4_head_331
                refine wck ⟨by omega, by omega⟩ (fun z1_87 hz1_87 => ?_)
                first
                | exact tr_O E82 (ih (m := m0) Gs80 (Qz11_81.le (by omega) (by omega) (by omega) (by omega)) t_z16_86 (by first | assumption | exact ref_R Gs80 Qz11_81 t_z16_86.tg (by decide)) (oL.nul (by decide)) ⟨by decide, by decide⟩ p_26 (by first | assumption | exact ref_R Gs80 Qz11_81 t_x5.tg (by decide)) (by omega) (by omega) (by omega))
                | exact tr_O E82 (ih (m := m0 + 1) Gs80 (Qz11_81.le (by omega) (by omega) (by omega) (by omega)) t_z16_86 (by first | assumption | exact ref_R Gs80 Qz11_81 t_z16_86.tg (by decide)) (oL.nul (by decide)) ⟨by decide, by decide⟩ p_x5 (by first | assumption | exact ref_R Gs80 Qz11_81 t_x5.tg (by decide)) (by omega) (by omega) (by omega))
                | exact tr_O E82 (ih (m := m) Gs80 (Qz11_81.le (by omega) (by omega) (by omega) (by omega)) t_z16_86 (by first | assumption | exact ref_R Gs80 Qz11_81 t_z16_86.tg (by decide)) (oL.nul (by decide)) ⟨by decide, by decide⟩ p_x5 (by first | assumption | exact ref_R Gs80 Qz11_81 t_x5.tg (by decide)) (by omega) (by omega) (by omega))
          · have t_x3 : oB σ x3 := ⟨t_x3, by omega, by omega⟩
            refine sf_if (fun c88 => ?_) (fun c88 => ?_)
            · unfold pc_X4_head_182
              refine wg t_x3.tg (fun z1_89 hz1_89 => ?_)
              have rz1_89 : inR z1_89 := hz1_89 ▸ G.ir _ _
              have fz1_89 := G.kd t_x3.tg
              rw [hz1_89] at fz1_89
              refine sf_if (fun c90 => ?_) (fun c90 => ?_)
              · unfold pc_X4_head_227
                refine wg t_x3.tg (fun z1_91 hz1_91 => ?_)
                have rz1_91 : inR z1_91 := hz1_91 ▸ G.ir _ _
                have fz1_91 := G.kd t_x3.tg
                rw [hz1_91] at fz1_91
                refine sf_if (fun c92 => ?_) (fun c92 => ?_)
                · refine sf_n (rr_room G (R.le (k' := (k + 1) + 1) (s' := (s + 6 + m) + 4) (o' := (o + 0 + m)) (z' := z) (by omega) (by omega) (by omega) (by omega))) ?_
                  refine wgn G t_x3.tg (by decide) (fun z5_93 hz5_93 => ?_)
                  have rz5_93 : inR z5_93 := hz5_93 ▸ G.ir _ _
                  have fz5_93 : oid z5_93 := hz5_93 ▸ G.ni t_x3.tg
                  refine mk_head (k := k + 1) (s := s + 6 + m) (o := o + 0 + m) (z := z) (by omega) G (R.le (by omega) (by omega) (by omega) (by omega)) ⟨(by first | assumption | exact ref_R G R t_x3.tg (by decide)), (by first | assumption | exact inR_of _ | exact ⟨by omega, by omega⟩), (by first | assumption | exact ref_R G R t_x4.tg (by decide)), (by first | assumption | exact ref_R G R t_x5.tg (by decide))⟩ t_x3.n (by first | assumption | exact ⟨by omega, by omega⟩) t_x4 t_x5 (fun s94 Gs94 es94 Rs94 fs94 => ?_)
                  obtain ⟨t_h, v_h, Fm⟩ := fs94
                  have E95 := (Ext.refl (b := b) (σ := σ)).trans es94
                  have p_x5 := p_x5.up es94
                  have Rs_h := Rs94
                  exact ret_O (by first | assumption | exact ref_R Gs94 Rs94 t_h.tg (by decide) | exact ⟨by omega, by omega⟩) Gs94 E95 (Rs94.le (by omega) (by omega) (by omega) (by omega)) (by first | trivial | assumption | omega | (dsimp only; omega) | exact ⟨m, ⟨t_h, by rw [v_h.2]; exact p_x5⟩, by omega, Rs_h.le (by omega) (by omega) (by omega) (by omega)⟩)
                · refine wg t_x3.tg (fun z9_96 hz9_96 => ?_)
                  have rz9_96 : inR z9_96 := hz9_96 ▸ G.ir _ _
                  have fz9_96 : oid z9_96 := hz9_96 ▸ G.ni t_x3.tg
                  refine cl_U (s_find (by omega) G R (by first | assumption | exact ref_R G R t_x4.tg (by decide)) t_x4) (fun z12_98 rz12_98 fz12_98 => ?_)
                  have t_z12_98 := fz12_98
                  refine sf_if (fun c99 => ?_) (fun c99 => ?_)
                  · unfold pc_X4_head_259
                    refine sf_if (fun c100 => ?_) (fun c100 => ?_)
                    · have t_z12_98 := t_z12_98.pos (by omega)
                      refine wg t_z12_98.tg (fun z2_101 hz2_101 => ?_)
                      have rz2_101 : inR z2_101 := hz2_101 ▸ G.ir _ _
                      have fz2_101 : oid z2_101 := hz2_101 ▸ (G.lkf t_z12_98.tg).2.2.2.1
                      unfold pc_X4_head_276
                      refine sf_n (rr_room G (R.le (k' := (k + 1) + 1) (s' := (s + 6 + m) + 4) (o' := (o + 0 + m)) (z' := z) (by omega) (by omega) (by omega) (by omega))) ?_
                      refine mk_head (k := k + 1) (s := s + 6 + m) (o := o + 0 + m) (z := z) (by omega) G (R.le (by omega) (by omega) (by omega) (by omega)) ⟨(by first | assumption | exact ref_R G R t_x3.tg (by decide)), (by first | assumption | exact inR_of _ | exact ⟨by omega, by omega⟩), (by first | assumption | exact ref_R G R t_x4.tg (by decide)), (by first | assumption | exact ref_R G R t_x5.tg (by decide))⟩ t_x3.n (by first | assumption | exact ⟨by omega, by omega⟩) t_x4 t_x5 (fun s102 Gs102 es102 Rs102 fs102 => ?_)
                      obtain ⟨t_h, v_h, Fm⟩ := fs102
                      have E103 := (Ext.refl (b := b) (σ := σ)).trans es102
                      have p_x5 := p_x5.up es102
                      have Rs_h := Rs102
                      exact ret_O (by first | assumption | exact ref_R Gs102 Rs102 t_h.tg (by decide) | exact ⟨by omega, by omega⟩) Gs102 E103 (Rs102.le (by omega) (by omega) (by omega) (by omega)) (by first | trivial | assumption | omega | (dsimp only; omega) | exact ⟨m, ⟨t_h, by rw [v_h.2]; exact p_x5⟩, by omega, Rs_h.le (by omega) (by omega) (by omega) (by omega)⟩)
                    · refine wg t_x3.tg (fun z3_104 hz3_104 => ?_)
                      have rz3_104 : inR z3_104 := hz3_104 ▸ G.ir _ _
                      have fz3_104 : oid z3_104 := hz3_104 ▸ G.ni t_x3.tg
                      unfold pc_X4_head_276
                      refine sf_n (rr_room G (R.le (k' := (k + 1) + 1) (s' := (s + 6 + m) + 4) (o' := (o + 0 + m)) (z' := z) (by omega) (by omega) (by omega) (by omega))) ?_
                      refine mk_head (k := k + 1) (s := s + 6 + m) (o := o + 0 + m) (z := z) (by omega) G (R.le (by omega) (by omega) (by omega) (by omega)) ⟨(by first | assumption | exact ref_R G R t_x3.tg (by decide)), (by first | assumption | exact inR_of _ | exact ⟨by omega, by omega⟩), (by first | assumption | exact ref_R G R t_x4.tg (by decide)), (by first | assumption | exact ref_R G R t_x5.tg (by decide))⟩ t_x3.n (by first | assumption | exact ⟨by omega, by omega⟩) t_x4 t_x5 (fun s105 Gs105 es105 Rs105 fs105 => ?_)
                      obtain ⟨t_h, v_h, Fm⟩ := fs105
                      have E106 := (Ext.refl (b := b) (σ := σ)).trans es105
                      have p_x5 := p_x5.up es105
                      have Rs_h := Rs105
                      exact ret_O (by first | assumption | exact ref_R Gs105 Rs105 t_h.tg (by decide) | exact ⟨by omega, by omega⟩) Gs105 E106 (Rs105.le (by omega) (by omega) (by omega) (by omega)) (by first | trivial | assumption | omega | (dsimp only; omega) | exact ⟨m, ⟨t_h, by rw [v_h.2]; exact p_x5⟩, by omega, Rs_h.le (by omega) (by omega) (by omega) (by omega)⟩)
                  · have t_z12_98 := t_z12_98.pos (by omega)
                    refine wg t_z12_98.tg (fun z14_107 hz14_107 => ?_)
                    have rz14_107 : inR z14_107 := hz14_107 ▸ G.ir _ _
                    have t_z14_107 : oNN σ z14_107 := hz14_107 ▸ (G.lkf t_z12_98.tg).2.1
                    refine sf_if (fun c108 => ?_) (fun c108 => ?_)
                    · have t_z14_107 := t_z14_107.pos (by omega)
                      have t_z12_98 : oLt σ z12_98 := ⟨t_z12_98, hz14_107 ▸ t_z14_107⟩
                      refine wtN (G.tg 16) ?_
                      refine cl_O (s_spend (k := k + 1) (s := s + 4 + m) (o := o + 0 + m) (z := z) (by omega) G (R.le (by omega) (by omega) (by omega) (by omega)) ⟨by omega, by omega⟩) (Ext.refl (b := b) (σ := σ)) (by omega) (by omega) (by omega) (by omega) (fun s109 z18_110 rz18_110 Gs109 es109 Rs109 fz18_110 => ?_)
                      obtain ⟨Qz18_110, L_s, F_s⟩ := fz18_110
                      have E111 := (Ext.refl (b := b) (σ := σ)).trans es109
                      have t_x5 := t_x5.up es109
                      have t_z12_98 := t_z12_98.up es109
                      have p_x5 := p_x5.up es109
                      refine wg t_z12_98.tg (fun z19_112 hz19_112 => ?_)
                      have rz19_112 : inR z19_112 := hz19_112 ▸ Gs109.ir _ _
                      have t_z19_112 : oN s109 z19_112 := hz19_112 ▸ t_z12_98.2
                      refine wg t_z12_98.tg (fun z20_113 hz20_113 => ?_)
                      have rz20_113 : inR z20_113 := hz20_113 ▸ Gs109.ir _ _
                      have t_z20_113 : oL s109 z20_113 := hz20_113 ▸ (Gs109.lkf t_z12_98.tg).2.2.1
                      unfold pc_X4_head_331
                      refine wck ⟨by omega, by omega⟩ (fun z1_114 hz1_114 => ?_)
                      first
                      | exact tr_O E111 (ih (m := m0) Gs109 (Qz18_110.le (by omega) (by omega) (by omega) (by omega)) t_z19_112 (by first | assumption | exact ref_R Gs109 Qz18_110 t_z19_112.tg (by decide)) t_z20_113 (by first | assumption | exact ref_R Gs109 Qz18_110 t_z20_113.tg (by decide)) p_26 (by first | assumption | exact ref_R Gs109 Qz18_110 t_x5.tg (by decide)) (by omega) (by omega) (by omega))
                      | exact tr_O E111 (ih (m := m0 + 1) Gs109 (Qz18_110.le (by omega) (by omega) (by omega) (by omega)) t_z19_112 (by first | assumption | exact ref_R Gs109 Qz18_110 t_z19_112.tg (by decide)) t_z20_113 (by first | assumption | exact ref_R Gs109 Qz18_110 t_z20_113.tg (by decide)) p_x5 (by first | assumption | exact ref_R Gs109 Qz18_110 t_x5.tg (by decide)) (by omega) (by omega) (by omega))
                      | exact tr_O E111 (ih (m := m) Gs109 (Qz18_110.le (by omega) (by omega) (by omega) (by omega)) t_z19_112 (by first | assumption | exact ref_R Gs109 Qz18_110 t_z19_112.tg (by decide)) t_z20_113 (by first | assumption | exact ref_R Gs109 Qz18_110 t_z20_113.tg (by decide)) p_x5 (by first | assumption | exact ref_R Gs109 Qz18_110 t_x5.tg (by decide)) (by omega) (by omega) (by omega))
                    · unfold pc_X4_head_259
                      refine sf_if (fun c115 => ?_) (fun c115 => ?_)
                      · refine wg t_z12_98.tg (fun z2_116 hz2_116 => ?_)
                        have rz2_116 : inR z2_116 := hz2_116 ▸ G.ir _ _
                        have fz2_116 : oid z2_116 := hz2_116 ▸ (G.lkf t_z12_98.tg).2.2.2.1
                        unfold pc_X4_head_276
                        refine sf_n (rr_room G (R.le (k' := (k + 1) + 1) (s' := (s + 6 + m) + 4) (o' := (o + 0 + m)) (z' := z) (by omega) (by omega) (by omega) (by omega))) ?_
                        refine mk_head (k := k + 1) (s := s + 6 + m) (o := o + 0 + m) (z := z) (by omega) G (R.le (by omega) (by omega) (by omega) (by omega)) ⟨(by first | assumption | exact ref_R G R t_x3.tg (by decide)), (by first | assumption | exact inR_of _ | exact ⟨by omega, by omega⟩), (by first | assumption | exact ref_R G R t_x4.tg (by decide)), (by first | assumption | exact ref_R G R t_x5.tg (by decide))⟩ t_x3.n (by first | assumption | exact ⟨by omega, by omega⟩) t_x4 t_x5 (fun s117 Gs117 es117 Rs117 fs117 => ?_)
                        obtain ⟨t_h, v_h, Fm⟩ := fs117
                        have E118 := (Ext.refl (b := b) (σ := σ)).trans es117
                        have p_x5 := p_x5.up es117
                        have Rs_h := Rs117
                        exact ret_O (by first | assumption | exact ref_R Gs117 Rs117 t_h.tg (by decide) | exact ⟨by omega, by omega⟩) Gs117 E118 (Rs117.le (by omega) (by omega) (by omega) (by omega)) (by first | trivial | assumption | omega | (dsimp only; omega) | exact ⟨m, ⟨t_h, by rw [v_h.2]; exact p_x5⟩, by omega, Rs_h.le (by omega) (by omega) (by omega) (by omega)⟩)
                      · refine wg t_x3.tg (fun z3_119 hz3_119 => ?_)
                        have rz3_119 : inR z3_119 := hz3_119 ▸ G.ir _ _
                        have fz3_119 : oid z3_119 := hz3_119 ▸ G.ni t_x3.tg
                        unfold pc_X4_head_276
                        refine sf_n (rr_room G (R.le (k' := (k + 1) + 1) (s' := (s + 6 + m) + 4) (o' := (o + 0 + m)) (z' := z) (by omega) (by omega) (by omega) (by omega))) ?_
                        refine mk_head (k := k + 1) (s := s + 6 + m) (o := o + 0 + m) (z := z) (by omega) G (R.le (by omega) (by omega) (by omega) (by omega)) ⟨(by first | assumption | exact ref_R G R t_x3.tg (by decide)), (by first | assumption | exact inR_of _ | exact ⟨by omega, by omega⟩), (by first | assumption | exact ref_R G R t_x4.tg (by decide)), (by first | assumption | exact ref_R G R t_x5.tg (by decide))⟩ t_x3.n (by first | assumption | exact ⟨by omega, by omega⟩) t_x4 t_x5 (fun s120 Gs120 es120 Rs120 fs120 => ?_)
                        obtain ⟨t_h, v_h, Fm⟩ := fs120
                        have E121 := (Ext.refl (b := b) (σ := σ)).trans es120
                        have p_x5 := p_x5.up es120
                        have Rs_h := Rs120
                        exact ret_O (by first | assumption | exact ref_R Gs120 Rs120 t_h.tg (by decide) | exact ⟨by omega, by omega⟩) Gs120 E121 (Rs120.le (by omega) (by omega) (by omega) (by omega)) (by first | trivial | assumption | omega | (dsimp only; omega) | exact ⟨m, ⟨t_h, by rw [v_h.2]; exact p_x5⟩, by omega, Rs_h.le (by omega) (by omega) (by omega) (by omega)⟩)
              · refine wgF (G.tg 16) (G.fi 18 (i := 16) (f := 0) (j := 3)) ?_
                refine wg t_x3.tg (fun z4_123 hz4_123 => ?_)
                have rz4_123 : inR z4_123 := hz4_123 ▸ G.ir _ _
                have fz4_123 : oid z4_123 := hz4_123 ▸ G.ni t_x3.tg
                refine wtN (G.tg 3) ?_
                refine cl_U (s_valueOf (by omega) G) (fun z7_125 rz7_125 fz7_125 => ?_)
                have t_z7_125 := fz7_125
                obtain ⟨t_z7_125, v1_7, v2_7⟩ := fz7_125
                have g7 := G
                have tx7 := t_x3.tg
                refine sf_if (fun c126 => ?_) (fun c126 => ?_)
                · unfold pc_X4_head_227
                  refine wg t_x3.tg (fun z1_127 hz1_127 => ?_)
                  have rz1_127 : inR z1_127 := hz1_127 ▸ G.ir _ _
                  have fz1_127 := G.kd t_x3.tg
                  rw [hz1_127] at fz1_127
                  refine sf_if (fun c128 => ?_) (fun c128 => ?_)
                  · refine sf_n (rr_room G (R.le (k' := (k + 1) + 1) (s' := (s + 6 + m) + 4) (o' := (o + 0 + m)) (z' := z) (by omega) (by omega) (by omega) (by omega))) ?_
                    refine wgn G t_x3.tg (by decide) (fun z5_129 hz5_129 => ?_)
                    have rz5_129 : inR z5_129 := hz5_129 ▸ G.ir _ _
                    have fz5_129 : oid z5_129 := hz5_129 ▸ G.ni t_x3.tg
                    refine mk_head (k := k + 1) (s := s + 6 + m) (o := o + 0 + m) (z := z) (by omega) G (R.le (by omega) (by omega) (by omega) (by omega)) ⟨(by first | assumption | exact ref_R G R t_x3.tg (by decide)), (by first | assumption | exact inR_of _ | exact ⟨by omega, by omega⟩), (by first | assumption | exact ref_R G R t_x4.tg (by decide)), (by first | assumption | exact ref_R G R t_x5.tg (by decide))⟩ t_x3.n (by first | assumption | exact ⟨by omega, by omega⟩) t_x4 t_x5 (fun s130 Gs130 es130 Rs130 fs130 => ?_)
                    obtain ⟨t_h, v_h, Fm⟩ := fs130
                    have E131 := (Ext.refl (b := b) (σ := σ)).trans es130
                    have p_x5 := p_x5.up es130
                    have Rs_h := Rs130
                    exact ret_O (by first | assumption | exact ref_R Gs130 Rs130 t_h.tg (by decide) | exact ⟨by omega, by omega⟩) Gs130 E131 (Rs130.le (by omega) (by omega) (by omega) (by omega)) (by first | trivial | assumption | omega | (dsimp only; omega) | exact ⟨m, ⟨t_h, by rw [v_h.2]; exact p_x5⟩, by omega, Rs_h.le (by omega) (by omega) (by omega) (by omega)⟩)
                  · refine wg t_x3.tg (fun z9_132 hz9_132 => ?_)
                    have rz9_132 : inR z9_132 := hz9_132 ▸ G.ir _ _
                    have fz9_132 : oid z9_132 := hz9_132 ▸ G.ni t_x3.tg
                    refine cl_U (s_find (by omega) G R (by first | assumption | exact ref_R G R t_x4.tg (by decide)) t_x4) (fun z12_134 rz12_134 fz12_134 => ?_)
                    have t_z12_134 := fz12_134
                    refine sf_if (fun c135 => ?_) (fun c135 => ?_)
                    · unfold pc_X4_head_259
                      refine sf_if (fun c136 => ?_) (fun c136 => ?_)
                      · have t_z12_134 := t_z12_134.pos (by omega)
                        refine wg t_z12_134.tg (fun z2_137 hz2_137 => ?_)
                        have rz2_137 : inR z2_137 := hz2_137 ▸ G.ir _ _
                        have fz2_137 : oid z2_137 := hz2_137 ▸ (G.lkf t_z12_134.tg).2.2.2.1
                        unfold pc_X4_head_276
                        refine sf_n (rr_room G (R.le (k' := (k + 1) + 1) (s' := (s + 6 + m) + 4) (o' := (o + 0 + m)) (z' := z) (by omega) (by omega) (by omega) (by omega))) ?_
                        refine mk_head (k := k + 1) (s := s + 6 + m) (o := o + 0 + m) (z := z) (by omega) G (R.le (by omega) (by omega) (by omega) (by omega)) ⟨(by first | assumption | exact ref_R G R t_x3.tg (by decide)), (by first | assumption | exact inR_of _ | exact ⟨by omega, by omega⟩), (by first | assumption | exact ref_R G R t_x4.tg (by decide)), (by first | assumption | exact ref_R G R t_x5.tg (by decide))⟩ t_x3.n (by first | assumption | exact ⟨by omega, by omega⟩) t_x4 t_x5 (fun s138 Gs138 es138 Rs138 fs138 => ?_)
                        obtain ⟨t_h, v_h, Fm⟩ := fs138
                        have E139 := (Ext.refl (b := b) (σ := σ)).trans es138
                        have p_x5 := p_x5.up es138
                        have Rs_h := Rs138
                        exact ret_O (by first | assumption | exact ref_R Gs138 Rs138 t_h.tg (by decide) | exact ⟨by omega, by omega⟩) Gs138 E139 (Rs138.le (by omega) (by omega) (by omega) (by omega)) (by first | trivial | assumption | omega | (dsimp only; omega) | exact ⟨m, ⟨t_h, by rw [v_h.2]; exact p_x5⟩, by omega, Rs_h.le (by omega) (by omega) (by omega) (by omega)⟩)
                      · refine wg t_x3.tg (fun z3_140 hz3_140 => ?_)
                        have rz3_140 : inR z3_140 := hz3_140 ▸ G.ir _ _
                        have fz3_140 : oid z3_140 := hz3_140 ▸ G.ni t_x3.tg
                        unfold pc_X4_head_276
                        refine sf_n (rr_room G (R.le (k' := (k + 1) + 1) (s' := (s + 6 + m) + 4) (o' := (o + 0 + m)) (z' := z) (by omega) (by omega) (by omega) (by omega))) ?_
                        refine mk_head (k := k + 1) (s := s + 6 + m) (o := o + 0 + m) (z := z) (by omega) G (R.le (by omega) (by omega) (by omega) (by omega)) ⟨(by first | assumption | exact ref_R G R t_x3.tg (by decide)), (by first | assumption | exact inR_of _ | exact ⟨by omega, by omega⟩), (by first | assumption | exact ref_R G R t_x4.tg (by decide)), (by first | assumption | exact ref_R G R t_x5.tg (by decide))⟩ t_x3.n (by first | assumption | exact ⟨by omega, by omega⟩) t_x4 t_x5 (fun s141 Gs141 es141 Rs141 fs141 => ?_)
                        obtain ⟨t_h, v_h, Fm⟩ := fs141
                        have E142 := (Ext.refl (b := b) (σ := σ)).trans es141
                        have p_x5 := p_x5.up es141
                        have Rs_h := Rs141
                        exact ret_O (by first | assumption | exact ref_R Gs141 Rs141 t_h.tg (by decide) | exact ⟨by omega, by omega⟩) Gs141 E142 (Rs141.le (by omega) (by omega) (by omega) (by omega)) (by first | trivial | assumption | omega | (dsimp only; omega) | exact ⟨m, ⟨t_h, by rw [v_h.2]; exact p_x5⟩, by omega, Rs_h.le (by omega) (by omega) (by omega) (by omega)⟩)
                    · have t_z12_134 := t_z12_134.pos (by omega)
                      refine wg t_z12_134.tg (fun z14_143 hz14_143 => ?_)
                      have rz14_143 : inR z14_143 := hz14_143 ▸ G.ir _ _
                      have t_z14_143 : oNN σ z14_143 := hz14_143 ▸ (G.lkf t_z12_134.tg).2.1
                      refine sf_if (fun c144 => ?_) (fun c144 => ?_)
                      · have t_z14_143 := t_z14_143.pos (by omega)
                        have t_z12_134 : oLt σ z12_134 := ⟨t_z12_134, hz14_143 ▸ t_z14_143⟩
                        refine wtN (G.tg 16) ?_
                        refine cl_O (s_spend (k := k + 1) (s := s + 4 + m) (o := o + 0 + m) (z := z) (by omega) G (R.le (by omega) (by omega) (by omega) (by omega)) ⟨by omega, by omega⟩) (Ext.refl (b := b) (σ := σ)) (by omega) (by omega) (by omega) (by omega) (fun s145 z18_146 rz18_146 Gs145 es145 Rs145 fz18_146 => ?_)
                        obtain ⟨Qz18_146, L_s, F_s⟩ := fz18_146
                        have E147 := (Ext.refl (b := b) (σ := σ)).trans es145
                        have t_x5 := t_x5.up es145
                        have t_z12_134 := t_z12_134.up es145
                        have p_x5 := p_x5.up es145
                        refine wg t_z12_134.tg (fun z19_148 hz19_148 => ?_)
                        have rz19_148 : inR z19_148 := hz19_148 ▸ Gs145.ir _ _
                        have t_z19_148 : oN s145 z19_148 := hz19_148 ▸ t_z12_134.2
                        refine wg t_z12_134.tg (fun z20_149 hz20_149 => ?_)
                        have rz20_149 : inR z20_149 := hz20_149 ▸ Gs145.ir _ _
                        have t_z20_149 : oL s145 z20_149 := hz20_149 ▸ (Gs145.lkf t_z12_134.tg).2.2.1
                        unfold pc_X4_head_331
                        refine wck ⟨by omega, by omega⟩ (fun z1_150 hz1_150 => ?_)
                        first
                        | exact tr_O E147 (ih (m := m0) Gs145 (Qz18_146.le (by omega) (by omega) (by omega) (by omega)) t_z19_148 (by first | assumption | exact ref_R Gs145 Qz18_146 t_z19_148.tg (by decide)) t_z20_149 (by first | assumption | exact ref_R Gs145 Qz18_146 t_z20_149.tg (by decide)) p_26 (by first | assumption | exact ref_R Gs145 Qz18_146 t_x5.tg (by decide)) (by omega) (by omega) (by omega))
                        | exact tr_O E147 (ih (m := m0 + 1) Gs145 (Qz18_146.le (by omega) (by omega) (by omega) (by omega)) t_z19_148 (by first | assumption | exact ref_R Gs145 Qz18_146 t_z19_148.tg (by decide)) t_z20_149 (by first | assumption | exact ref_R Gs145 Qz18_146 t_z20_149.tg (by decide)) p_x5 (by first | assumption | exact ref_R Gs145 Qz18_146 t_x5.tg (by decide)) (by omega) (by omega) (by omega))
                        | exact tr_O E147 (ih (m := m) Gs145 (Qz18_146.le (by omega) (by omega) (by omega) (by omega)) t_z19_148 (by first | assumption | exact ref_R Gs145 Qz18_146 t_z19_148.tg (by decide)) t_z20_149 (by first | assumption | exact ref_R Gs145 Qz18_146 t_z20_149.tg (by decide)) p_x5 (by first | assumption | exact ref_R Gs145 Qz18_146 t_x5.tg (by decide)) (by omega) (by omega) (by omega))
                      · unfold pc_X4_head_259
                        refine sf_if (fun c151 => ?_) (fun c151 => ?_)
                        · refine wg t_z12_134.tg (fun z2_152 hz2_152 => ?_)
                          have rz2_152 : inR z2_152 := hz2_152 ▸ G.ir _ _
                          have fz2_152 : oid z2_152 := hz2_152 ▸ (G.lkf t_z12_134.tg).2.2.2.1
                          unfold pc_X4_head_276
                          refine sf_n (rr_room G (R.le (k' := (k + 1) + 1) (s' := (s + 6 + m) + 4) (o' := (o + 0 + m)) (z' := z) (by omega) (by omega) (by omega) (by omega))) ?_
                          refine mk_head (k := k + 1) (s := s + 6 + m) (o := o + 0 + m) (z := z) (by omega) G (R.le (by omega) (by omega) (by omega) (by omega)) ⟨(by first | assumption | exact ref_R G R t_x3.tg (by decide)), (by first | assumption | exact inR_of _ | exact ⟨by omega, by omega⟩), (by first | assumption | exact ref_R G R t_x4.tg (by decide)), (by first | assumption | exact ref_R G R t_x5.tg (by decide))⟩ t_x3.n (by first | assumption | exact ⟨by omega, by omega⟩) t_x4 t_x5 (fun s153 Gs153 es153 Rs153 fs153 => ?_)
                          obtain ⟨t_h, v_h, Fm⟩ := fs153
                          have E154 := (Ext.refl (b := b) (σ := σ)).trans es153
                          have p_x5 := p_x5.up es153
                          have Rs_h := Rs153
                          exact ret_O (by first | assumption | exact ref_R Gs153 Rs153 t_h.tg (by decide) | exact ⟨by omega, by omega⟩) Gs153 E154 (Rs153.le (by omega) (by omega) (by omega) (by omega)) (by first | trivial | assumption | omega | (dsimp only; omega) | exact ⟨m, ⟨t_h, by rw [v_h.2]; exact p_x5⟩, by omega, Rs_h.le (by omega) (by omega) (by omega) (by omega)⟩)
                        · refine wg t_x3.tg (fun z3_155 hz3_155 => ?_)
                          have rz3_155 : inR z3_155 := hz3_155 ▸ G.ir _ _
                          have fz3_155 : oid z3_155 := hz3_155 ▸ G.ni t_x3.tg
                          unfold pc_X4_head_276
                          refine sf_n (rr_room G (R.le (k' := (k + 1) + 1) (s' := (s + 6 + m) + 4) (o' := (o + 0 + m)) (z' := z) (by omega) (by omega) (by omega) (by omega))) ?_
                          refine mk_head (k := k + 1) (s := s + 6 + m) (o := o + 0 + m) (z := z) (by omega) G (R.le (by omega) (by omega) (by omega) (by omega)) ⟨(by first | assumption | exact ref_R G R t_x3.tg (by decide)), (by first | assumption | exact inR_of _ | exact ⟨by omega, by omega⟩), (by first | assumption | exact ref_R G R t_x4.tg (by decide)), (by first | assumption | exact ref_R G R t_x5.tg (by decide))⟩ t_x3.n (by first | assumption | exact ⟨by omega, by omega⟩) t_x4 t_x5 (fun s156 Gs156 es156 Rs156 fs156 => ?_)
                          obtain ⟨t_h, v_h, Fm⟩ := fs156
                          have E157 := (Ext.refl (b := b) (σ := σ)).trans es156
                          have p_x5 := p_x5.up es156
                          have Rs_h := Rs156
                          exact ret_O (by first | assumption | exact ref_R Gs156 Rs156 t_h.tg (by decide) | exact ⟨by omega, by omega⟩) Gs156 E157 (Rs156.le (by omega) (by omega) (by omega) (by omega)) (by first | trivial | assumption | omega | (dsimp only; omega) | exact ⟨m, ⟨t_h, by rw [v_h.2]; exact p_x5⟩, by omega, Rs_h.le (by omega) (by omega) (by omega) (by omega)⟩)
                · have t_z7_125 := t_z7_125.pos (by omega)
                  refine wtN (G.tg 16) ?_
                  refine cl_O (s_spend (k := k + 1) (s := s + 4 + m) (o := o + 0 + m) (z := z) (by omega) G (R.le (by omega) (by omega) (by omega) (by omega)) ⟨by omega, by omega⟩) (Ext.refl (b := b) (σ := σ)) (by omega) (by omega) (by omega) (by omega) (fun s158 z11_159 rz11_159 Gs158 es158 Rs158 fz11_159 => ?_)
                  obtain ⟨Qz11_159, L_s, F_s⟩ := fz11_159
                  have E160 := (Ext.refl (b := b) (σ := σ)).trans es158
                  have t_x3 := t_x3.up es158
                  have t_x5 := t_x5.up es158
                  have p_x5 := p_x5.up es158
                  refine wgF (Gs158.tg 16) (Gs158.fi 18 (i := 16) (f := 0) (j := 3)) ?_
                  refine wg t_x3.tg (fun z13_162 hz13_162 => ?_)
                  have rz13_162 : inR z13_162 := hz13_162 ▸ Gs158.ir _ _
                  have fz13_162 : oid z13_162 := hz13_162 ▸ Gs158.ni t_x3.tg
                  have i13 : z13_162 = z4_123 := by rw [← hz13_162, F_s _ _ (by have := g7.ne 16 (by decide) (a := x3.toNat) (by rw [tx7.2]; decide); omega) (by have := g7.ne 17 (by decide) (a := x3.toNat) (by rw [tx7.2]; decide); omega), hz4_123]
                  refine wtN (Gs158.tg 3) ?_
                  refine cl_U (s_valueOf (by omega) Gs158) (fun z16_164 rz16_164 fz16_164 => ?_)
                  have t_z16_164 := fz16_164
                  obtain ⟨t_z16_164, v1_8, v2_8⟩ := fz16_164
                  have q1 := F_s (b + 9) 2 (by omega) (by omega)
                  have q2 := F_s (b + 13) (z4_123).toNat (by omega) (by omega)
                  have q3 : 0 ≤ z16_164 := by
                    by_cases c9 : 0 ≤ z4_123 ∧ z4_123 < c_pv σ (b + 9) 2
                    · have a1 := v1_7 c9
                      have a2 := v1_8 (by omega)
                      rw [i13, q2] at a2
                      omega
                    · have a1 := v2_7 c9
                      omega
                  have t_z16_164 := t_z16_164.pos q3
                  unfold pc_X4_head_331
                  refine wck ⟨by omega, by omega⟩ (fun z1_165 hz1_165 => ?_)
                  first
                  | exact tr_O E160 (ih (m := m0) Gs158 (Qz11_159.le (by omega) (by omega) (by omega) (by omega)) t_z16_164 (by first | assumption | exact ref_R Gs158 Qz11_159 t_z16_164.tg (by decide)) (oL.nul (by decide)) ⟨by decide, by decide⟩ p_26 (by first | assumption | exact ref_R Gs158 Qz11_159 t_x5.tg (by decide)) (by omega) (by omega) (by omega))
                  | exact tr_O E160 (ih (m := m0 + 1) Gs158 (Qz11_159.le (by omega) (by omega) (by omega) (by omega)) t_z16_164 (by first | assumption | exact ref_R Gs158 Qz11_159 t_z16_164.tg (by decide)) (oL.nul (by decide)) ⟨by decide, by decide⟩ p_x5 (by first | assumption | exact ref_R Gs158 Qz11_159 t_x5.tg (by decide)) (by omega) (by omega) (by omega))
                  | exact tr_O E160 (ih (m := m) Gs158 (Qz11_159.le (by omega) (by omega) (by omega) (by omega)) t_z16_164 (by first | assumption | exact ref_R Gs158 Qz11_159 t_z16_164.tg (by decide)) (oL.nul (by decide)) ⟨by decide, by decide⟩ p_x5 (by first | assumption | exact ref_R Gs158 Qz11_159 t_x5.tg (by decide)) (by omega) (by omega) (by omega))
            · have t_x5 := t_x5.pos (by omega)
              obtain ⟨m0, rfl⟩ := p_x5.succ (by omega)
              refine wtN (G.tg 16) ?_
              refine cl_O (s_spend (k := k + 1) (s := s + 4 + (m0 + 1)) (o := o + 0 + (m0 + 1)) (z := z) (by omega) G (R.le (by omega) (by omega) (by omega) (by omega)) ⟨by omega, by omega⟩) (Ext.refl (b := b) (σ := σ)) (by omega) (by omega) (by omega) (by omega) (fun s166 z17_167 rz17_167 Gs166 es166 Rs166 fz17_167 => ?_)
              obtain ⟨Qz17_167, L_s, F_s⟩ := fz17_167
              have E168 := (Ext.refl (b := b) (σ := σ)).trans es166
              have t_x3 := t_x3.up es166
              have t_x4 := t_x4.up es166
              have t_x5 := t_x5.up es166
              have p_x5 := p_x5.up es166
              refine sf_n (rr_room Gs166 (Qz17_167.le (k' := (k + 7) + 1) (s' := (s + 65 + (m0 + 1)) + 5) (o' := (o + 40 + (m0 + 1))) (z' := z) (by omega) (by omega) (by omega) (by omega))) ?_
              refine wgn Gs166 t_x3.tg (by decide) (fun z20_169 hz20_169 => ?_)
              have rz20_169 : inR z20_169 := hz20_169 ▸ Gs166.ir _ _
              have fz20_169 : oid z20_169 := hz20_169 ▸ Gs166.ni t_x3.tg
              have n20 : z20_169 ≠ 0 := hz20_169 ▸ Gs166.n1 t_x3.tg t_x3.2.1 t_x3.2.2
              refine wgn Gs166 t_x5.tg (by decide) (fun z21_170 hz21_170 => ?_)
              have rz21_170 : inR z21_170 := hz21_170 ▸ Gs166.ir _ _
              have t_z21_170 : oN s166 z21_170 := hz21_170 ▸ ((Gs166.lkf t_x5.tg).2.2.2.2.2.2 t_x5.2.2).1
              refine wgn Gs166 t_x5.tg (by decide) (fun z22_171 hz22_171 => ?_)
              have rz22_171 : inR z22_171 := hz22_171 ▸ Gs166.ir _ _
              have t_z22_171 : oL s166 z22_171 := hz22_171 ▸ (Gs166.lkf t_x5.tg).2.2.1
              refine mk_link (k := k + 7) (s := s + 65 + (m0 + 1)) (o := o + 40 + (m0 + 1)) (z := z) (by omega) Gs166 (Qz17_167.le (by omega) (by omega) (by omega) (by omega)) ⟨(by first | assumption | exact inR_of _ | exact ⟨by omega, by omega⟩), (by first | assumption | exact ref_R Gs166 Qz17_167 t_z21_170.tg (by decide)), (by first | assumption | exact ref_R Gs166 Qz17_167 t_z22_171.tg (by decide)), (by first | assumption | exact ref_R Gs166 Qz17_167 t_x4.tg (by decide))⟩ (by first | assumption | exact ⟨by omega, by omega⟩) (by omega) t_z21_170.nn t_z22_171 t_x4 (fun s172 Gs172 es172 Rs172 fs172 => ?_)
              obtain ⟨t_z19_s172, v_z19_s172, Fm⟩ := fs172
              have E173 := E168.trans es172
              have t_x3 := t_x3.up es172
              have t_x5 := t_x5.up es172
              have p_x5 := p_x5.up es172
              have l_m := Fm (b + 16) 3 (by have := Gs166.hp; omega)
              have r_m := hp_R Gs166 Qz17_167
              refine wg t_x5.tg (fun z26_174 hz26_174 => ?_)
              have rz26_174 : inR z26_174 := hz26_174 ▸ Gs172.ir _ _
              have fz26_174 : z26_174 < ((x5).toNat : Int) := hz26_174 ▸ (Gs172.lkf t_x5.tg).2.2.2.2.2.1
              have t_z26_174 : oP s172 z26_174 := hz26_174 ▸ ((Gs172.lkf t_x5.tg).2.2.2.2.2.2 t_x5.2.2).2
              have p_26 : pl s172 m0 z26_174 := hz26_174 ▸ p_x5.2
              refine wg t_x3.tg (fun z27_175 hz27_175 => ?_)
              have rz27_175 : inR z27_175 := hz27_175 ▸ Gs172.ir _ _
              have t_z27_175 : oN s172 z27_175 := hz27_175 ▸ Gs172.n7 t_x3.tg t_x3.2.1 t_x3.2.2
              unfold pc_X4_head_331
              refine wck ⟨by omega, by omega⟩ (fun z1_176 hz1_176 => ?_)
              first
              | exact tr_O E173 (ih (m := m0) Gs172 (Rs172.le (by omega) (by omega) (by omega) (by omega)) t_z27_175 (by first | assumption | exact ref_R Gs172 Rs172 t_z27_175.tg (by decide)) t_z19_s172.l (by first | assumption | exact ref_R Gs172 Rs172 t_z19_s172.tg (by decide)) p_26 (by first | assumption | exact ref_R Gs172 Rs172 t_z26_174.tg (by decide)) (by omega) (by omega) (by omega))
              | exact tr_O E173 (ih (m := m0 + 1) Gs172 (Rs172.le (by omega) (by omega) (by omega) (by omega)) t_z27_175 (by first | assumption | exact ref_R Gs172 Rs172 t_z27_175.tg (by decide)) t_z19_s172.l (by first | assumption | exact ref_R Gs172 Rs172 t_z19_s172.tg (by decide)) p_x5 (by first | assumption | exact ref_R Gs172 Rs172 t_z26_174.tg (by decide)) (by omega) (by omega) (by omega))
              | exact tr_O E173 (ih (m := m) Gs172 (Rs172.le (by omega) (by omega) (by omega) (by omega)) t_z27_175 (by first | assumption | exact ref_R Gs172 Rs172 t_z27_175.tg (by decide)) t_z19_s172.l (by first | assumption | exact ref_R Gs172 Rs172 t_z19_s172.tg (by decide)) p_x5 (by first | assumption | exact ref_R Gs172 Rs172 t_z26_174.tg (by decide)) (by omega) (by omega) (by omega))
        · have t_x3 : oB σ x3 := ⟨t_x3, by omega, by omega⟩
          refine wtN (G.tg 16) ?_
          refine cl_O (s_spend (k := k + 1) (s := s + 4 + m) (o := o + 0 + m) (z := z) (by omega) G (R.le (by omega) (by omega) (by omega) (by omega)) ⟨by omega, by omega⟩) (Ext.refl (b := b) (σ := σ)) (by omega) (by omega) (by omega) (by omega) (fun s177 z30_178 rz30_178 Gs177 es177 Rs177 fz30_178 => ?_)
          obtain ⟨Qz30_178, L_s, F_s⟩ := fz30_178
          have E179 := (Ext.refl (b := b) (σ := σ)).trans es177
          have t_x3 := t_x3.up es177
          have t_x4 := t_x4.up es177
          have t_x5 := t_x5.up es177
          have p_x5 := p_x5.up es177
          refine sf_n (rr_room Gs177 (Qz30_178.le (k' := (k + 7) + 1) (s' := (s + 65 + m) + 5) (o' := (o + 40 + m)) (z' := z) (by omega) (by omega) (by omega) (by omega))) ?_
          refine wgn Gs177 t_x3.tg (by decide) (fun z33_180 hz33_180 => ?_)
          have rz33_180 : inR z33_180 := hz33_180 ▸ Gs177.ir _ _
          have fz33_180 : oid z33_180 := hz33_180 ▸ Gs177.ni t_x3.tg
          have n20 : z33_180 ≠ 0 := hz33_180 ▸ Gs177.n1 t_x3.tg t_x3.2.1 t_x3.2.2
          refine wgn Gs177 t_x3.tg (by decide) (fun z34_181 hz34_181 => ?_)
          have rz34_181 : inR z34_181 := hz34_181 ▸ Gs177.ir _ _
          have t_z34_181 : oN s177 z34_181 := hz34_181 ▸ Gs177.n6 t_x3.tg t_x3.2.1
          refine mk_link (k := k + 7) (s := s + 65 + m) (o := o + 40 + m) (z := z) (by omega) Gs177 (Qz30_178.le (by omega) (by omega) (by omega) (by omega)) ⟨(by first | assumption | exact inR_of _ | exact ⟨by omega, by omega⟩), (by first | assumption | exact ref_R Gs177 Qz30_178 t_z34_181.tg (by decide)), (by first | assumption | exact ref_R Gs177 Qz30_178 t_x4.tg (by decide)), (by first | assumption | exact ref_R Gs177 Qz30_178 t_x4.tg (by decide))⟩ (by first | assumption | exact ⟨by omega, by omega⟩) (by omega) t_z34_181.nn t_x4 t_x4 (fun s182 Gs182 es182 Rs182 fs182 => ?_)
          obtain ⟨t_z32_s182, v_z32_s182, Fm⟩ := fs182
          have E183 := E179.trans es182
          have t_x3 := t_x3.up es182
          have t_x5 := t_x5.up es182
          have p_x5 := p_x5.up es182
          have l_m := Fm (b + 16) 3 (by have := Gs177.hp; omega)
          have r_m := hp_R Gs177 Qz30_178
          refine wg t_x3.tg (fun z38_184 hz38_184 => ?_)
          have rz38_184 : inR z38_184 := hz38_184 ▸ Gs182.ir _ _
          have t_z38_184 : oN s182 z38_184 := hz38_184 ▸ Gs182.n7 t_x3.tg t_x3.2.1 t_x3.2.2
          unfold pc_X4_head_331
          refine wck ⟨by omega, by omega⟩ (fun z1_185 hz1_185 => ?_)
          first
          | exact tr_O E183 (ih (m := m0) Gs182 (Rs182.le (by omega) (by omega) (by omega) (by omega)) t_z38_184 (by first | assumption | exact ref_R Gs182 Rs182 t_z38_184.tg (by decide)) t_z32_s182.l (by first | assumption | exact ref_R Gs182 Rs182 t_z32_s182.tg (by decide)) p_26 (by first | assumption | exact ref_R Gs182 Rs182 t_x5.tg (by decide)) (by omega) (by omega) (by omega))
          | exact tr_O E183 (ih (m := m0 + 1) Gs182 (Rs182.le (by omega) (by omega) (by omega) (by omega)) t_z38_184 (by first | assumption | exact ref_R Gs182 Rs182 t_z38_184.tg (by decide)) t_z32_s182.l (by first | assumption | exact ref_R Gs182 Rs182 t_z32_s182.tg (by decide)) p_x5 (by first | assumption | exact ref_R Gs182 Rs182 t_x5.tg (by decide)) (by omega) (by omega) (by omega))
          | exact tr_O E183 (ih (m := m) Gs182 (Rs182.le (by omega) (by omega) (by omega) (by omega)) t_z38_184 (by first | assumption | exact ref_R Gs182 Rs182 t_z38_184.tg (by decide)) t_z32_s182.l (by first | assumption | exact ref_R Gs182 Rs182 t_z32_s182.tg (by decide)) p_x5 (by first | assumption | exact ref_R Gs182 Rs182 t_x5.tg (by decide)) (by omega) (by omega) (by omega))
      · have t_x3 : oU σ x3 := ⟨t_x3, by omega⟩
        refine wg t_x3.tg (fun z39_186 hz39_186 => ?_)
        have rz39_186 : inR z39_186 := hz39_186 ▸ G.ir _ _
        have t_z39_186 : oA b σ z39_186 := hz39_186 ▸ G.n8 t_x3.tg t_x3.2
        have V : oV b σ x3 (c_ln σ (z39_186).toNat) := ⟨t_x3, hz39_186 ▸ t_z39_186, by rw [hz39_186]⟩
        have v1 := t_z39_186.2.2.1
        have v2 := t_z39_186.2.2.2.1
        refine wl t_z39_186.tg (by have := t_z39_186.2.2.2.1; omega) (fun z40_187 hz40_187 => ?_)
        refine wck ⟨by omega, by omega⟩ (fun z41_188 hz41_188 => ?_)
        exact s_head36 (by omega) h6 rx3 rx4 _ G R V t_x4 p_x5 rx5 hm (by omega) (by omega) (fun a1 a2 a3 a4 a5 a6 a7 a8 a9 a10 => ih a1 a2 a3 a4 a5 rx4 a6 a7 a8 (by omega) (by omega))
theorem s_head (hd : 10 ≤ d) (G : GG bd b σ) (R : RR bd b σ (k + 2) (s + 10) (o) (z)) {x y : Int} (t_x : oN σ x) (rx : inR x) (t_y : oL σ y) (ry : inR y) : sf (RC bd d 83 σ [((b + 16 : Nat) : Int), x, y]) (PO bd b σ k s o z (fun σ' r => ∃ m, oHm σ' r m ∧ m ≤ 60000 ∧ RR bd b σ' (k + 1) (s + 6 + m) (o + m) z)) := by
  obtain ⟨d, rfl⟩ : ∃ d0, d = d0 + 1 := ⟨d - 1, by omega⟩
  rw [rc_X4_head (by omega)]
  refine fin_O ?_
  unfold pc_X4_head_0
  have n163 := G.nu 16 3
  exact s_head11 (m := 0) (by omega) _ G R t_x rx t_y ry (by show (-1 : Int) < 0; decide) ⟨by decide, by decide⟩ (by omega) ⟨by decide, by decide⟩ (by omega)
end CHD
