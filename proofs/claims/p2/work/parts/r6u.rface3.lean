section RFE2
variable {σ σ' σ'' σ0 σh s s' A B : RS} {d : Nat} {r w w' lo hi l h R N m K : Int} {Q : RS → Int → Prop}
theorem M0.n15 {x : Int} (M : M0 r σ) (q : s = rs_i σ 15 x) (hx : inR x) : M0 r s := by
  have n : ∀ j, j ≠ 15 → s.1 j = σ.1 j := fun j hj => rs_i_n q hj
  have e := rs_i_2 q
  refine ⟨M.1.p q hx, ?_, ?_, ?_, M.2.2.2.2.eq (by rw [e]) (by rw [e])⟩
  · unfold BG
    rw [n 63 (by decide), n 64 (by decide), n 65 (by decide), n 51 (by decide), n 57 (by decide), n 48 (by decide), n 39 (by decide), n 75 (by decide), n 66 (by decide), n 67 (by decide), n 68 (by decide), n 69 (by decide), n 70 (by decide), n 71 (by decide), n 72 (by decide), n 62 (by decide)]
    exact M.2.1
  · unfold HS
    rw [e, n 27 (by decide), n 20 (by decide)]
    exact M.2.2.1
  · unfold KV WSs
    rw [e, n 39 (by decide), n 27 (by decide)]
    exact M.2.2.2.1
def KFx (N : Int) (σ s : RS) : Prop := (∀ j, jn j = false → j ≠ 75 → j ≠ 15 → s.1 j = σ.1 j) ∧ (∀ k, ja k = false → s.2 k = σ.2 k) ∧ NFr σ.2 s.2 N ∧ s.1 65 - s.1 64 = σ.1 65 - σ.1 64
theorem KF.x (h : KF N σ s) : KFx N σ s := ⟨fun j a b _ => h.1 j a b, h.2⟩
theorem KFx.kf (h : KFx N σ s) (e : s.1 15 = σ.1 15) : KF N σ s := by
  refine ⟨fun j a b => ?_, h.2⟩
  by_cases c : j = 15
  · rw [c]; exact e
  · exact h.1 j a b c
theorem KFx.p {x : Int} (q : s = rs_i σ 15 x) : KFx N σ s := by
  have e := rs_i_2 q
  exact ⟨fun j _ _ hj => rs_i_n q hj, fun _ _ => by rw [e], fun _ _ _ _ => by rw [e]; exact ⟨rfl, rfl, rfl, rfl, rfl⟩, by rw [rs_i_n q (by decide), rs_i_n q (by decide)]⟩
theorem KFx.trans (h : KFx N σ σ') (k : KFx N σ' σ'') : KFx N σ σ'' := by
  obtain ⟨a1, a2, a3, a4⟩ := h
  obtain ⟨b1, b2, b3, b4⟩ := k
  refine ⟨fun j hj h75 h15 => (b1 j hj h75 h15).trans (a1 j hj h75 h15), fun k hk => (b2 k hk).trans (a2 k hk), fun q q0 q1 q2 => ?_, b4.trans a4⟩
  obtain ⟨c1, c2, c3, c4, c5⟩ := a3 q q0 q1 q2
  obtain ⟨d1, d2, d3, d4, d5⟩ := b3 q q0 q1 (by rw [c1]; exact q2)
  exact ⟨d1.trans c1, d2.trans c2, d3.trans c3, d4.trans c4, d5.trans c5⟩
theorem ws_leaf {x z : Int} (k : ND1 r σ 2 x 0 0 s z) (hx : 0 ≤ x ∧ x < σ.1 27) (h0 : 0 ≤ σ.1 39) : WSs s z none0 := by
  obtain ⟨k0, _, _, k3, k4, _, _, k7, k8, _⟩ := k
  refine WS.mk ⟨⟨by omega, by omega⟩, Or.inr (Or.inl ⟨k7, ?_, ?_⟩)⟩
  · rw [k8]; exact hx.1
  · rw [k8, k3 27 (by decide)]; exact hx.2
theorem q_same {x y : Int} (hd : 210 ≤ d) (H : HO m σ) (hm : m + 1 ≤ 512) : rsf (RF d 73 σ [x, y]) (fun s _ => FX m σ s) := by
  rw [rq_same (by omega)]
  refine rsf_fin ?_
  unfold pf_same_0
  refine rsf_pi (fun s1 w1 => ?_)
  have C := CX.p H.1 w1 ⟨by decide, by decide⟩
  have H1 := CX.ho H C
  have n27 := C.2.2 27 (by decide)
  have no : rsf (pf_same_29 (RF (d - 1)) s1) (fun s b => inR b ∧ FX m σ s) := by
    unfold pf_same_29
    exact rsf_mono (c_fail (n := 0) (by omega) C rfl) (fun s b u => ⟨u.1, u.2.fx H hm⟩)
  have lift : ∀ {s : RS}, FX m s1 s → FX m σ s := fun {s} X => ⟨⟨X.1.1, X.1.2.trans (C.2.2 63 (by decide))⟩, X.2.1.trans (C.2.2 29 (by decide)), X.2.2.trans (C.2.2 3 (by decide))⟩
  have H1' := H1
  obtain ⟨h0, h1, h2, h3, h4, h5, h6, h7, h8, h9, h10, h11⟩ := H1'
  have h27 := h1.1.1
  refine rsf_if (fun _ => no) (fun c1 => rsf_gi (fun z3 q3 => rsf_if (fun _ => no) (fun c3 => rsf_if (fun _ => no) (fun c4 => rsf_gi (fun z6 q6 => rsf_if (fun c6 => ?_) (fun _ => no))))))
  refine rsf_cl (q_begin (by omega) h0 h1 h2 h3 (by omega) h6 (by omega)) (fun s8 z9 f => ?_)
  obtain ⟨M8, H8, e8, n8, v43, v59, v51, v62, v64⟩ := f
  have a39 : s8.1 39 = s1.1 39 := by apply n8 <;> decide
  have a27 : s8.1 27 = s1.1 27 := by apply n8 <;> decide
  have a15 : s8.1 15 = s1.1 15 := by apply n8 <;> decide
  have a65 : s8.1 65 = s1.1 65 := by apply n8 <;> decide
  have i72 : s8.1 72 = 0 := by
    have : s8.1 72 = s1.1 72 := by apply n8 <;> decide
    omega
  refine rsf_pi (fun s10 w10 => ?_)
  have W10 := fun (w : Int) => M8.wrong (w := w) (M8.1.p w10 ⟨by decide, by decide⟩) (rs_i_2 w10) (fun j a _ => rs_i_n w10 a) (fun q => absurd i72 q) (by rw [rs_i_e w10]; omega)
  have M10 := (W10 0).1
  refine rsf_bo (by omega) (rsf_pi (fun s11 w11 => ?_))
  have M11 := M10.n15 w11 ⟨by decide, by decide⟩
  have n11 : ∀ j, j ≠ 15 → j ≠ 72 → s11.1 j = s8.1 j := fun j a b => by rw [rs_i_n w11 a, rs_i_n w10 b]
  have v15 : s11.1 15 = 1 := rs_i_e w11
  have g39 := n11 39 (by decide) (by decide)
  have g62 := n11 62 (by decide) (by decide)
  have g64 := n11 64 (by decide) (by decide)
  have g65 := n11 65 (by decide) (by decide)
  have g27 := n11 27 (by decide) (by decide)
  have g51 := n11 51 (by decide) (by decide)
  have t8 := h1.n8
  have iz : inR 0 := ⟨by decide, by decide⟩
  refine rsf_cl (q_nodeM (by omega) (M11.le (w := 100) (by omega) (by omega)) (by omega) ⟨by decide, by decide⟩ ⟨by omega, by omega⟩ iz iz iz ⟨by omega, by omega⟩) (fun s13 z14 k13 => ?_)
  have W13 := ws_leaf k13 (by omega) (by omega)
  obtain ⟨k0, M13, F13, k3, k4, _⟩ := k13
  have u65 := k3 65 (by decide)
  have u62 := k3 62 (by decide)
  have u64 := k3 64 (by decide)
  have u27 := k3 27 (by decide)
  have u15 := k3 15 (by decide)
  have u51 := k3 51 (by decide)
  refine rsf_cl (q_nodeM (by omega) M13 (by omega) ⟨by decide, by decide⟩ ⟨by omega, by omega⟩ iz iz iz ⟨by omega, by omega⟩) (fun s15 z16 k15 => ?_)
  have W15 := ws_leaf k15 (by omega) (by omega)
  obtain ⟨l0, M15, F15, l3, l4, _⟩ := k15
  have y51 := l3 51 (by decide)
  refine rsf_bo (by omega) (rsf_pi (fun s17 w17 => ?_))
  have M17 := M15.n15 w17 iz
  have e17 := rs_i_2 w17
  have n17 : ∀ j, j ≠ 15 → s17.1 j = s15.1 j := fun j hj => rs_i_n w17 hj
  have t17 : ∀ {t : Int}, WSs s15 t none0 → WSs s17 t none0 := fun {t} q => by
    unfold WSs
    rw [e17, n17 39 (by decide), n17 27 (by decide)]
    exact q
  have i51 : s17.1 51 = 0 := by rw [n17 51 (by decide)]; omega
  refine rsf_cl (q_compare (S := none0) 100 (by omega) (by omega) (by omega) M17 (WT.zero i51) (co_ty (t17 (W13.mf (F15 0)))) (co_ty (t17 W15))) (fun s19 z20 f => ?_)
  obtain ⟨_, ⟨M19, F19, _⟩, _⟩ := f
  have l17 := n17 39 (by decide)
  have Kx : KFx (s8.1 62) s8 s19 := ((((((W10 0).2.1.kf (by omega)).x.trans (KFx.p w11)).trans ((F13 0).kf (by omega)).x).trans ((F15 0).kf (by omega)).x).trans (KFx.p w17)).trans (F19.kf (by omega)).x
  have f15 : s19.1 15 = 0 := by rw [F19.1 15 rfl]; exact rs_i_e w17
  have K : KF (s8.1 62) s8 s19 := Kx.kf (by omega)
  refine rsf_cl (q_drop (by omega) M19.1) (fun s21 z22 f => ?_)
  obtain ⟨I21, e21, v39, n21⟩ := f
  have b72 := M19.2.1.2.2.2.2.2.2.2.2.2.1
  have z72 := n21 72 (by decide)
  refine rsf_gi (fun z23 q23 => rsf_pi (fun s24 w24 => ?_))
  have X : FX m s1 s24 := HO.work H1 hm v62 H8 K M19 (fun j a _ _ _ _ => by apply n8 <;> omega) (by apply n8 <;> decide) a65 v64 (by rw [e8]) I21 e21 v39 n21 w24 f15
  refine rsf_if (fun _ => ?_) (fun _ => ?_)
  · exact rsf_if (fun _ => rsf_some ⟨iz, lift X⟩) (fun _ => rsf_some ⟨⟨by decide, by decide⟩, lift X⟩)
  · exact rsf_ck ⟨by omega, by omega⟩ (fun z27 q27 => rsf_some ⟨⟨by omega, by omega⟩, lift X⟩)
theorem rn_rem_4 {x : Int} (hx : 0 ≤ x ∧ x ≤ 1000) : 0 ≤ rn_rem x 4 ∧ rn_rem x 4 ≤ 3 := by
  have hx' : inR x := ⟨by omega, by omega⟩
  have h1 : rn_div x 4 = x.tdiv 4 := rn_div_p hx' ⟨by decide, by decide⟩
  have h3 : x.tdiv 4 = x / 4 := Int.tdiv_eq_ediv_of_nonneg hx.1
  have h2 : rn_rem x 4 = x - x.tdiv 4 * 4 := by
    have e : rI x / rI 4 = rI (x.tdiv 4) := by
      rw [← h1]; unfold rn_div; rw [rI_of]
    unfold rn_rem
    rw [e, rI_mul, rI_sub]
    exact rI_T ⟨by omega, by omega⟩
  rw [h2, h3]
  omega
/-- signs on the tape -/
def TP0 (σ s : RS) : Prop := IR s ∧ (∀ k, k ≠ 2 → s.2 k = σ.2 k) ∧ ∀ j, j ≠ 1 → j ≠ 3 → s.1 j = σ.1 j
theorem q_feed23 {rec : Nat → RS → List Int → RO} {x1 x2 x3 x4 x5 : Int} : ∀ (n : Nat) {s : RS} {x6 : Int}, TP0 σ s → (0 ≤ x6 ∧ x6 ≤ 20) → (0 ≤ s.1 3 ∧ s.1 3 + (20 - x6) ≤ 4000) → 21 - x6 ≤ (n : Int) → rsf (pf_feed_23 rec n s x1 x2 x3 x4 x5 x6) (fun s' b => inR b ∧ TP0 σ s' ∧ s'.1 3 = s.1 3 + (20 - x6) ∧ s'.1 1 = s.1 1 ∧ b = s'.1 3) := by
  intro n
  induction n with
  | zero => intro s x6 _ _ _ h; omega
  | succ n ih =>
    intro s x6 T h6 h3 hn
    unfold pf_feed_23
    refine rsf_if (fun c => ?_) (fun c => ?_)
    · exact rsf_gi (fun z2 q2 => rsf_some ⟨⟨by omega, by omega⟩, T, by omega, rfl, q2.symm⟩)
    · have step : ∀ (t0 : Int), rsf (pf_feed_76 rec (pf_feed_23 rec n) s x1 x2 x3 x4 x5 x6 t0) (fun s' b => inR b ∧ TP0 σ s' ∧ s'.1 3 = s.1 3 + (20 - x6) ∧ s'.1 1 = s.1 1 ∧ b = s'.1 3) := fun t0 => by
        unfold pf_feed_76
        refine rsf_gi (fun z1 q1 => rsf_nm (fun z2 q2 => ?_))
        have hr := rn_rem_4 (x := x6) (by omega)
        refine rsf_ck ⟨by omega, by omega⟩ (fun z3 q3 => rsf_ck ⟨by omega, by omega⟩ (fun z4 q4 => rsf_nm (fun z5 q5 => rsf_nm (fun z6 q6 => ?_))))
        refine rsf_wr ⟨by omega, by show _ < ((4000 : Nat) : Int); omega⟩ (fun s7 w7 => ?_)
        have e7 := rs_a_1 w7
        refine rsf_gi (fun z8 q8 => ?_)
        rw [e7] at q8
        refine rsf_ck ⟨by omega, by omega⟩ (fun z9 q9 => rsf_pi (fun s10 w10 => ?_))
        have iz : inR z6 := by rw [q6]; exact inR_of _
        have v3 := rs_i_e w10
        have n10 : ∀ j, j ≠ 3 → s10.1 j = s.1 j := fun j hj => by rw [rs_i_n w10 hj, e7]
        have T10 : TP0 σ s10 := ⟨(T.1.a w7 iz).p w10 ⟨by omega, by omega⟩, fun k hk => by rw [rs_i_2 w10, rs_a_k w7 hk]; exact T.2.1 k hk, fun j a b => by rw [n10 j b]; exact T.2.2 j a b⟩
        refine rsf_ck ⟨by omega, by omega⟩ (fun z11 q11 => ?_)
        refine rsf_mono (ih T10 (by omega) (by omega) (by omega)) (fun s' b u => ?_)
        obtain ⟨u1, u2, u3, u4, u5⟩ := u
        exact ⟨u1, u2, by omega, by rw [u4]; exact n10 1 (by decide), u5⟩
      exact rsf_if (fun _ => rsf_if (fun _ => rsf_if (fun _ => rsf_if (fun _ => step _) (fun _ => step _)) (fun _ => step _)) (fun _ => step _)) (fun _ => step _)
theorem q_feed {x1 x2 x3 x4 x5 : Int} (hd : 1 ≤ d) (H : HO m σ) (hm : m + 1 ≤ 512) : rsf (RF d 6 σ [x1, x2, x3, x4, x5]) (fun s b => FP m σ s ∧ s.1 29 = σ.1 29 ∧ ((σ.1 3 + 20 ≤ 4000 ∧ s.1 3 = σ.1 3 + 20 ∧ b = s.1 3) ∨ (4000 < σ.1 3 + 20 ∧ s.1 3 = σ.1 3 ∧ b = -1))) := by
  rw [rq_feed (by omega)]
  refine rsf_fin ?_
  unfold pf_feed_0
  refine rsf_pi (fun s1 w1 => ?_)
  have C := CX.p H.1 w1 ⟨by decide, by decide⟩
  have n3 := C.2.2 3 (by decide)
  have h3 := H.2.2.2.2.2.1
  refine rsf_gi (fun z2 q2 => rsf_ck ⟨by omega, by omega⟩ (fun z3 q3 => rsf_if (fun c => ?_) (fun c => ?_)))
  · have T1 : TP0 σ s1 := ⟨C.1, fun k _ => by rw [C.2.1], fun j a _ => C.2.2 j a⟩
    refine rsf_mono (q_feed23 200000 T1 (by omega) (by omega) (by omega)) (fun s b u => ?_)
    obtain ⟨u1, ⟨I, ek, nn⟩, u3, u4, u5⟩ := u
    obtain ⟨g0, g1, g2, g3, g4, g5, g6, g7, g8, g9, g10, g11⟩ := H
    have a39 := nn 39 (by decide) (by decide)
    have a63 := nn 63 (by decide) (by decide)
    have a65 := nn 65 (by decide) (by decide)
    have a75 := nn 75 (by decide) (by decide)
    have a72 := nn 72 (by decide) (by decide)
    have a15 := nn 15 (by decide) (by decide)
    have a10 := nn 10 (by decide) (by decide)
    have a11 := nn 11 (by decide) (by decide)
    have a27 := nn 27 (by decide) (by decide)
    have a20 := nn 20 (by decide) (by decide)
    have hs : HS s := by
      unfold HS
      rw [a27, a20, ek 22 (by decide), ek 17 (by decide), ek 18 (by decide), ek 19 (by decide), ek 24 (by decide), ek 30 (by decide), ek 31 (by decide)]
      exact g1.1
    have HG1 : HG (σ.1 39) s := g1.fr (fun q _ _ _ => by rw [ek 30 (by decide), ek 31 (by decide), ek 32 (by decide), ek 33 (by decide), ek 38 (by decide)]; exact ⟨rfl, rfl, rfl, rfl, rfl⟩) hs (g1.2.1.eq (ek 36 (by decide)) (ek 37 (by decide))) a27 (ek 23 (by decide)) (ek 25 (by decide)) (ek 26 (by decide))
    exact ⟨u1, ⟨⟨I, by rw [a39]; exact HG1, by omega, by omega, ⟨by omega, by omega, by omega⟩, by omega, by omega, by omega, by omega, g9.eq (nn 29 (by decide) (by decide)) (ek 28 (by decide)) (by omega), by omega, by omega⟩, a63⟩, nn 29 (by decide) (by decide), Or.inl ⟨by omega, by omega, u5⟩⟩
  · have X := C.fx H hm
    exact rsf_some ⟨⟨by decide, by decide⟩, X.1, X.2.1, Or.inr ⟨by omega, X.2.2, rfl⟩⟩
end RFE2
