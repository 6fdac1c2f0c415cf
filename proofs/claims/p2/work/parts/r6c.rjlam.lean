section RJL
variable {σ σ' σ'' σ0 σh s : RS} {d : Nat} {S V T U A : Int → Prop} {r w w' lo hi sc ch l h R : Int} {Q : RS → Int → Prop}
/-- a part under its cells -/
theorem co_of {n c : Int} (W : WSs s n (SA σ)) (C : WCs σ S none0 c) (hA : ∀ x, SA σ x → S x ∨ Dom σ.2 c x) (F : JF lo hi sc ch σ s) : COs s S none0 n c :=
  ⟨C.jf F (fun _ q => q), Or.inr ⟨SA σ, W, fun x hx => by
    rcases hA x hx with q | q
    · exact Or.inl q
    · exact Or.inr (q.jf C F)⟩⟩
theorem none0_R : ∀ x, none0 x → inR x := fun _ q => False.elim q
theorem WT.zero (h : σ.1 51 = 0) : WT σ S V := fun j j0 j1 => by omega
/-- the first part: its sort, then its normal form -/
theorem j_first {k : Nat} {n x c : Int} {f : RS → Int → Int → RO} (J : JC k) (hd : 6 * k + 231 ≤ d) (P : JPre R S k x l h c σ) (hn : 0 ≤ n ∧ n < σ.1 39) (hk : σ.2 30 n.toNat ≠ 0) (e32 : σ.2 32 n.toNat = x) (H : ∀ s a t, (0 ≤ a ∧ a ≤ 7) → M0 R s → JF l h (σ.1 43) (σ.1 59) σ s → (s.1 43 = σ.1 43 ∧ s.1 59 = σ.1 59) → inR t → (s.1 72 = 0 → s.1 51 = 0 ∧ WSs s x (SA σ) ∧ WSs s t S) → rsf (f s a t) Q) : rsf (rf_rd σ 32 n (fun z1 => rf_cl (RF d 47 σ [z1, c]) (fun σ2 z3 => rf_gi σ2 72 (fun z4 => if ¬ z4 = 0 then f σ2 z3 0 else rf_rd σ2 32 n (fun z6 => rf_cl (RF d 41 σ2 [z6, c, 0]) (fun σ7 z8 => f σ7 z3 z8)))))) Q := by
  have b7 := P.1.1.2.1.2.2.2.2.2.2.1
  have b3 := P.1.1.2.1.2.2.1
  have b11 := P.1.1.2.1.2.2.2.2.2.2.2.2.2.2
  have hR := P.1.2
  have rg := P.2.2.2.1.rg
  refine rsf_rd ⟨by omega, by show _ < ((140000 : Nat) : Int); omega⟩ (fun z1 q1 => ?_)
  have q1' : z1 = x := by rw [← q1]; exact e32
  rw [q1']
  refine rsf_cl (q_judgeSort J (by omega) P) (fun s2 z3 f2 => ?_)
  obtain ⟨ha, M2, F2, e2, g2⟩ := f2
  refine rsf_gi (fun z4 q4 => rsf_if (fun c4 => ?_) (fun c4 => ?_))
  · exact H s2 z3 0 ha M2 F2 e2 ⟨by decide, by decide⟩ (fun q => absurd (q4.symm.trans q) c4)
  · obtain ⟨g51, gw, gt⟩ := g2 (by omega)
    refine rsf_rd ⟨by omega, by show _ < ((140000 : Nat) : Int); omega⟩ (fun z6 q6 => ?_)
    have q6' : z6 = x := by
      rw [← q6, (F2.2.2.2.1 n hn.1 hn.2 (fun z => hk z.1)).2.2.1]; exact e32
    rw [q6']
    have h15 : s2.1 15 ≠ 0 := by rw [F2.1 15 rfl]; exact P.2.1
    refine rsf_cl (q_normal (S := S) 100 (by omega) (by omega) (by omega) none0_R M2 h15 (WT.zero g51) (co_of gw P.2.2.2.2.2.2.2.2.1 P.2.2.2.2.2.2.2.2.2 F2)) (fun s7 z8 g => ?_)
    obtain ⟨N, hz, gN⟩ := g
    have F7 := N.1.2
    refine H s7 z3 z8 ha N.1.1 (F2.trans (F7.jf N.2.2.2.2.2.1)) ⟨?_, ?_⟩ hz (fun q => ?_)
    · rw [F7.1 43 rfl]; exact e2.1
    · rw [F7.1 59 rfl]; exact e2.2
    · obtain ⟨y1, y2⟩ := gN q
      refine ⟨y1.trans g51, gw.mf F7, ?_⟩
      refine WS.sub (WSL.ws y2) (fun x hx => ?_)
      rcases hx with hx | hx
      · exact hx
      · exact False.elim hx
/-- the scope with a binder more -/
theorem sc_more {n t a : Int} (B : BD σ n t a s) (H : SC S lo hi σ) (h43 : 0 ≤ σ.1 43) (hlo : lo ≤ n ∧ n < hi) (hT : ∀ x, S x → T x) (h0 : 0 ≤ n ∧ n < σ.1 39) (hk : 4 ≤ σ.2 30 n.toNat ∧ σ.2 30 n.toNat ≤ 6) (hl : lo ≤ l ∧ h ≤ hi) (hn : ¬ (l ≤ n ∧ n < h)) (ho : (0 ≤ σ.2 31 n.toNat ∧ σ.2 31 n.toNat < σ.1 39) ∧ NMr σ.2 (σ.2 31 n.toNat) ∧ ¬ (l ≤ σ.2 31 n.toNat ∧ σ.2 31 n.toNat < h)) (hw : WSs σ t T) (ha : -1 ≤ a ∧ a ≤ 7) : SC T l h s := fun k k0 k1 => by
  have F : JF lo hi (σ.1 43) (σ.1 59) σ s := B.jf (Int.le_refl _) h0.1 hlo h43
  have e43 := B.2.1
  by_cases c : k < σ.1 43
  · rw [B.2.2.2.2.1 k.toNat (by omega)]
    have so := (H k k0 c).jf F (Int.le_refl _) (Int.le_refl _) hT
    obtain ⟨a1, a2, a3, ⟨a4, a5, a6⟩, a7, a8⟩ := so
    exact ⟨a1, a2, fun z => a3 ⟨by omega, by omega⟩, ⟨a4, a5, fun z => a6 ⟨by omega, by omega⟩⟩, a7, a8⟩
  · have : k = σ.1 43 := by omega
    subst this
    rw [B.2.2.2.2.2.2.2]
    have ek := fun k p q r => B.2.2.1 k p q r
    have n39 := B.1 39 (by decide)
    unfold SCo
    rw [B.2.2.2.2.2.1, B.2.2.2.2.2.2.1, ek 30 (by decide) (by decide) (by decide), ek 31 (by decide) (by decide) (by decide), n39]
    refine ⟨h0, hk, hn, ⟨ho.1, ?_, ho.2.2⟩, hw.jf F, ha⟩
    have m := ho.2.1
    unfold NMr at m ⊢
    rw [ek 30 (by decide) (by decide) (by decide), ek 31 (by decide) (by decide) (by decide), ek 32 (by decide) (by decide) (by decide)]
    exact m
theorem sa_more {n t a x : Int} (B : BD σ n t a s) (h43 : 0 ≤ σ.1 43) : SA s x → SA σ x ∨ x = n := by
  rintro ⟨k, k0, k1, k2⟩
  have e43 := B.2.1
  by_cases c : k < σ.1 43
  · exact Or.inl ⟨k, k0, c, by rw [← B.2.2.2.2.1 k.toNat (by omega)]; exact k2⟩
  · have : k = σ.1 43 := by omega
    subst this
    exact Or.inr (by rw [← k2]; exact B.2.2.2.2.2.2.2)
theorem MF.w38 {i x : Int} (H : MF w σ0 σ) (q : s = rs_a σ 38 i x) (hi : 0 ≤ σ0.1 39 ∧ σ0.1 39 ≤ i) : MF w σ0 s := by
  obtain ⟨a1, a2, a3, a4, a5, a6, a7⟩ := H
  have e := rs_a_1 q
  refine ⟨fun j hj => by rw [e]; exact a1 j hj, fun j hj => ?_, by rw [e]; exact a3, fun p p1 p2 => ?_, fun p p1 p2 => ?_, fun p p1 p2 => ?_, by rw [e]; exact a7⟩
  · have : j ≠ 38 := by rintro rfl; cases hj
    rw [rs_a_k q this]; exact a2 j hj
  · have st : ∀ m, s.2 m p.toNat = σ.2 m p.toNat := fun m => by
      by_cases c : m = 38
      · subst c; exact rs_a_i q (by omega)
      · rw [rs_a_k q c]
    rw [st, st, st, st, st]; exact a4 p p1 p2
  · rw [rs_a_k q (by omega), rs_a_k q (by omega), rs_a_k q (by omega), rs_a_k q (by omega)]; exact a5 p p1 p2
  · rw [rs_a_k q (by omega), rs_a_k q (by omega)]; exact a6 p p1 p2
/-- the product that is a function's type -/
theorem q_judgeLambda109 {n a t b t0 : Int} (hd : 1 ≤ d) (hR : 0 ≤ R) (M : M0 (R + 2) σ) (h15 : σ.1 15 ≠ 0) (hn : 0 ≤ n ∧ n < σ.1 39) (ha : 0 ≤ a ∧ a ≤ 7) (hb : -1 ≤ b ∧ b ≤ 7) (ht0 : -1 ≤ t0 ∧ t0 ≤ 7) (hbt : 0 ≤ t0 → 0 ≤ b) (W1 : WSs σ t S) (W2 : WSs σ (σ.1 60) (wsb S n)) : rsf (pf_judgeLambda_109 (RF d) σ n a t b t0) (fun s z => inR z ∧ M0 R s ∧ (∀ w, JF lo hi sc w σ s) ∧ (∀ j, j = 43 ∨ j = 59 ∨ j = 51 → s.1 j = σ.1 j) ∧ (s.1 72 = 0 → TY S s)) := by
  unfold pf_judgeLambda_109
  obtain ⟨b1, b2, b3, b4, b5, b6, b7, b8, b9, b10, b11⟩ := M.2.1
  have r1 := (WS.out W1).1
  have r2 := (WS.out W2).1
  refine rsf_if (fun c => ?_) (fun c => ?_)
  · refine rsf_gi (fun z2 q2 => ?_)
    subst q2
    have M' : M0 (R + 1) σ := M.le (by omega) (by omega)
    refine rsf_cl (q_nodeM hd M' h15 ⟨by decide, by decide⟩ ⟨by decide, by decide⟩ ⟨by omega, by omega⟩ ⟨by omega, by omega⟩ ⟨by decide, by decide⟩ (by omega)) (fun s3 z4 k => ?_)
    obtain ⟨k0, M3, F3, k3, k4, k5, k6, k7, k8, k9, k10, k11⟩ := k
    refine rsf_wr ⟨by omega, by show _ < ((140000 : Nat) : Int); omega⟩ (fun s5 w5 => ?_)
    have e5 := rs_a_1 w5
    have F5 : ∀ w, MF w σ s5 := fun w => (F3 w).w38 w5 (by omega)
    have M5 : M0 (R + 1) s5 := M'.mf (F5 0) (M3.1.a w5 ⟨by omega, by omega⟩) (M3.2.1.eq (fun j _ => by rw [e5])) (M3.2.2.2.2.eq (rs_a_k w5 (by decide)) (rs_a_k w5 (by decide)))
    refine rsf_wr ⟨by omega, by show _ < ((140000 : Nat) : Int); omega⟩ (fun s6 w6 => ?_)
    obtain ⟨M6, F6⟩ := M5.wk w6 (Or.inl rfl) (by omega) ha
    refine rsf_wr ⟨by omega, by show _ < ((140000 : Nat) : Int); omega⟩ (fun s7 w7 => ?_)
    obtain ⟨M7, F7⟩ := M6.wk w7 (Or.inr rfl) (by omega) ⟨hbt c, hb.2⟩
    refine rsf_cl (q_becomes hd M7 ⟨by omega, by omega⟩ ⟨by omega, by omega⟩) (fun s8 z9 f => ?_)
    obtain ⟨M8, F8, e8, n8, v60, v61⟩ := f
    have F07 : ∀ w, MF w σ s7 := fun w => ((F5 w).trans (F6 w)).trans (F7 w)
    have n1 : ∀ j, j ≠ 39 → j ≠ 60 → j ≠ 61 → s8.1 j = σ.1 j := fun j p q r => by rw [n8 j q r, rs_a_1 w7, rs_a_1 w6, e5, k3 j p]
    have n39 : s8.1 39 = σ.1 39 + 1 := by rw [n8 39 (by decide) (by decide), rs_a_1 w7, rs_a_1 w6, e5, k4]
    have F08 : ∀ lo hi sc ch, JF lo hi sc ch σ s8 := fun _ _ _ _ => ((F07 0).jf (by rw [rs_a_1 w7, rs_a_1 w6, e5, k3 75 (by decide)])).trans (F8 _ _ _ _)
    refine rsf_some ⟨⟨by decide, by decide⟩, M8.le (by omega) hR, fun w => F08 _ _ _ _, fun j hj => n1 j (by omega) (by omega) (by omega), fun q => ⟨?_, by omega⟩⟩
    rw [v60]
    have st : ∀ k, k ≠ 36 → k ≠ 37 → k ≠ 38 → s8.2 k = s3.2 k := fun k p q r => by rw [e8, rs_a_k w7 q, rs_a_k w6 p, rs_a_k w5 r]
    refine WS.mk ⟨⟨by omega, by omega⟩, Or.inr (Or.inr (Or.inr (Or.inr ⟨?_, ?_, ?_⟩)))⟩
    · rw [st 30 (by decide) (by decide) (by decide), k7]; decide
    · rw [st 32 (by decide) (by decide) (by decide), k9]; exact W1.jf (F08 0 0 0 0)
    · have e38 : s8.2 38 z4.toNat = n := by rw [e8, rs_a_k w7 (by decide), rs_a_k w6 (by decide), rs_a_e w5]
      rw [st 33 (by decide) (by decide) (by decide), k10, e38]; exact W2.jf (F08 0 0 0 0)
  · have wr : ∀ {x : Int}, (1 ≤ x ∧ x ≤ 14) → rsf (pf_judgeLambda_129 (RF d) σ n x) (fun s z => inR z ∧ M0 R s ∧ (∀ w, JF lo hi sc w σ s) ∧ (∀ j, j = 43 ∨ j = 59 ∨ j = 51 → s.1 j = σ.1 j) ∧ (s.1 72 = 0 → TY S s)) := fun {x} hx => by
      unfold pf_judgeLambda_129
      refine rsf_rd ⟨by omega, by show _ < ((140000 : Nat) : Int); omega⟩ (fun z1 q1 => ?_)
      refine rsf_cl (j_wrong (n := 0) hd M hx (q1 ▸ M.1.2 _ _)) (fun s z f => ?_)
      obtain ⟨f1, f2, f3, f4, f5, _⟩ := f
      exact rsf_some ⟨⟨by decide, by decide⟩, f1.le (by omega) hR, fun w => ((f2 0).jf (f3 75 (by decide) (by decide))), fun j hj => f3 j (by omega) (by omega), fun q => absurd q f5⟩
    exact rsf_if (fun _ => wr ⟨by decide, by decide⟩) (fun _ => wr ⟨by decide, by decide⟩)
/-- a function -/
theorem q_judgeLambda {k j h : Nat} {n x y m c : Int} (J1 : JC k) (J2 : JC j) (hk : k + 2 ≤ h) (hj : j + 2 ≤ h) (hd : 6 * h + 225 ≤ d) (P : JPre R S h n n hi c σ) (T1 : TR σ.2 k x (n + 2) m) (T2 : TR σ.2 j y m hi) (e30 : σ.2 30 n.toNat = 4) (e31 : σ.2 31 n.toNat = n + 1) (nm : NMr σ.2 (n + 1)) (e32 : σ.2 32 n.toNat = x) (e33 : σ.2 33 n.toNat = y) (e38 : σ.2 38 n.toNat = n) : rsf (RF d 51 σ [n, c]) (fun s _ => JPost R S n hi σ n s) := by
  rw [rq_judgeLambda (by omega)]
  refine rsf_fin ?_
  unfold pf_judgeLambda_0
  obtain ⟨⟨M, hR⟩, p15, p51, pT, ⟨p8, p39⟩, pS, p43, p59, pC, pA⟩ := P
  have g1 := T1.rg
  have g2 := T2.rg
  have h0 : 0 ≤ n ∧ n < σ.1 39 := ⟨by omega, by omega⟩
  have hk0 : σ.2 30 n.toNat ≠ 0 := by omega
  have P1 : JPre (R + 2 + (hi - m)) S k x (n + 2) m c σ := ⟨⟨M.le (by omega) (by omega), by omega⟩, p15, p51, T1, ⟨by omega, by omega⟩, pS.nar (by omega) (by omega), ⟨p43.1, by omega⟩, ⟨p59.1, by omega⟩, pC, pA⟩
  refine j_first J1 (by omega) P1 h0 hk0 e32 (fun s a t ha Ms Fs es ht gs => ?_)
  have F1 : JF n hi (σ.1 43) (σ.1 59) σ s := Fs.wide (by omega) (by omega) (Int.le_refl _) (Int.le_refl _)
  unfold pf_judgeLambda_35
  refine rsf_gi (fun z1 q1 => rsf_if (fun c1 => ?_) (fun c1 => ?_))
  · obtain ⟨s51, sx, st⟩ := gs (q1.trans c1)
    have l39 := Fs.2.2.1.1
    refine rsf_cl (q_bind (by omega) Ms ⟨by omega, by have := Ms.2.1.2.2.2.2.2.2.1; have := Ms.2.1.2.2.1; omega⟩ ht ⟨by omega, by omega⟩ ⟨by omega, by omega⟩) (fun s3 z4 f => ?_)
    obtain ⟨M3, B⟩ := f
    have e43 := B.2.1
    obtain ⟨f30, f31, f32, f33, f38⟩ := Fs.2.2.2.1 n h0.1 h0.2 (fun z => hk0 z.1)
    obtain ⟨y30, y31, y32, y33, y38⟩ := Fs.2.2.2.1 (n + 1) (by omega) (by omega) (fun z => by omega)
    have FB : JF n hi (σ.1 43) (σ.1 59) s s3 := B.jf (by omega) h0.1 ⟨by omega, by omega⟩ p43.1
    have F3 : JF n hi (σ.1 43) (σ.1 59) σ s3 := F1.trans FB
    have ek := fun k p q r => B.2.2.1 k p q r
    have a33 : s3.2 33 n.toNat = y := by rw [ek 33 (by decide) (by decide) (by decide), f33]; exact e33
    have n39 := B.1 39 (by decide)
    have bb := M3.2.1
    have b7 := bb.2.2.2.2.2.2.1
    have b3 := bb.2.2.1
    refine rsf_rd ⟨by omega, by show _ < ((140000 : Nat) : Int); omega⟩ (fun z5 q5 => ?_)
    have q5' : z5 = y := by rw [← q5]; exact a33
    rw [q5']
    have T3 : TR s3.2 j y m hi := by
      refine (T2.ag (Fs.ag (by omega) p39 (Or.inr (Int.le_refl _)))).ag (fun q q1 q2 => ?_)
      rw [ek 30 (by decide) (by decide) (by decide), ek 31 (by decide) (by decide) (by decide), ek 32 (by decide) (by decide) (by decide), ek 33 (by decide) (by decide) (by decide), ek 38 (by decide) (by decide) (by decide)]
      exact ⟨rfl, rfl, rfl, rfl, rfl⟩
    have S1 : SC S n hi s := pS.jf F1 (Int.le_refl _) (Int.le_refl _) es.1 (Int.le_refl _) (fun _ q => q)
    have sS : ∀ x, S x → wsb S n x := fun _ q => Or.inl q
    have nm' : NMr s.2 (s.2 31 n.toNat) := by
      rw [f31, e31]
      unfold NMr at nm ⊢
      rw [y30, y31, y32]; exact nm
    have S3 : SC (wsb S n) m hi s3 := sc_more B S1 (by omega) ⟨by omega, by omega⟩ sS ⟨by omega, by omega⟩ (by omega) ⟨by omega, by omega⟩ (by omega) ⟨by rw [f31, e31]; omega, nm', by rw [f31, e31]; omega⟩ (st.sub sS) ⟨by omega, by omega⟩
    have A3 : ∀ x, SA s3 x → wsb S n x ∨ Dom s3.2 c x := fun x hx => by
      rcases sa_more B (by omega) hx with q | q
      · rcases pA x ((SA.jf F1 es.1 (Int.le_refl _)).mp q) with z | z
        · exact Or.inl (Or.inl z)
        · exact Or.inr (z.jf pC F3)
      · exact Or.inl (Or.inr q)
    have P2 : JPre (R + 2) (wsb S n) j y m hi c s3 := by
      refine ⟨⟨M3.le (by omega) (by omega), by omega⟩, ?_, ?_, T3, ⟨by omega, by omega⟩, S3, ⟨by omega, by omega⟩, ⟨?_, ?_⟩, pC.jf F3 sS, A3⟩
      · rw [F3.1 15 rfl]; exact p15
      · rw [B.1 51 (by decide)]; exact s51
      · rw [B.1 59 (by decide)]; omega
      · rw [B.1 59 (by decide)]; omega
    refine rsf_cl (J2 (by omega) P2) (fun s6 z7 g => ?_)
    obtain ⟨M6, F6, e6, g6⟩ := g
    refine rsf_gi (fun z8 q8 => rsf_ck ⟨by omega, by omega⟩ (fun z9 q9 => rsf_pi (fun s10 w10 => ?_)))
    have M10 := M6.pj w10 (by omega) ⟨by omega, by omega⟩
    have n10 := fun j (hj : j ≠ 43) => rs_i_n w10 hj
    have e10 := rs_i_2 w10
    have F6' : JF n hi (σ.1 43) (σ.1 59) s3 s6 := F6.wide (by omega) (by omega) (by omega) (by rw [B.1 59 (by decide)]; omega)
    have F10 : JF n hi (σ.1 43) (σ.1 59) σ s10 := (F3.trans F6').trans (JF.p w10 (by omega))
    have v43 : s10.1 43 = σ.1 43 := by rw [rs_i_e w10]; omega
    have v59 : s10.1 59 = σ.1 59 := by rw [n10 59 (by decide), e6.2, B.1 59 (by decide)]; exact es.2
    refine rsf_gi (fun z11 q11 => rsf_if (fun c11 => ?_) (fun c11 => ?_))
    · rw [n10 72 (by decide)] at q11
      obtain ⟨g51, gy, gt, gs61⟩ := g6 (q11.trans c11)
      have n61 := n10 61 (by decide)
      have Fp : JF 0 0 0 0 s6 s10 := JF.p w10 (by omega)
      have wx : WSs s10 x (SA σ) := ((sx.jf FB).jf F6').jf Fp
      have wy : WSs s10 y (wsb (SA σ) n) := (gy.jf Fp).sub (fun z hz => by
        rcases sa_more B (by omega) hz with q | q
        · exact Or.inl ((SA.jf F1 es.1 (Int.le_refl _)).mp q)
        · exact Or.inr q)
      have wt : WSs s10 t S := ((st.jf FB).jf F6').jf Fp
      have wT : WSs s10 (s10.1 60) (wsb S n) := by rw [n10 60 (by decide)]; exact gt.jf Fp
      obtain ⟨i30, i31, i32, i33, i38⟩ := F10.2.2.2.1 n h0.1 h0.2 (fun z => hk0 z.1)
      have l10 := F10.2.2.1.1
      have wn : WSs s10 n (SA σ) := by
        refine WS.mk ⟨⟨by omega, by omega⟩, Or.inr (Or.inr (Or.inr (Or.inr ⟨by omega, ?_, ?_⟩)))⟩
        · rw [i32, e32]; exact wx
        · rw [i33, e33, i38, e38]; exact wy
      have fin : ∀ {b t0 : Int}, (-1 ≤ b ∧ b ≤ 7) → (-1 ≤ t0 ∧ t0 ≤ 7) → (0 ≤ t0 → 0 ≤ b) → rsf (pf_judgeLambda_109 (RF (d - 1)) s10 n a t b t0) (fun s b => inR b ∧ JPost R S n hi σ n s) := fun {b t0} hb ht0 hbt => by
        refine rsf_mono (q_judgeLambda109 (S := S) (lo := n) (hi := hi) (sc := σ.1 43) (by omega) hR M10 (by rw [F10.1 15 rfl]; exact p15) ⟨by omega, by omega⟩ ha hb ht0 hbt wt wT) (fun s' z' u => ?_)
        obtain ⟨u0, u1, u2, u3, u4⟩ := u
        refine ⟨u0, u1, F10.trans (u2 _), ⟨by rw [u3 43 (by omega)]; exact v43, by rw [u3 59 (by omega)]; exact v59⟩, fun q => ⟨?_, wn.jf (u2 0), u4 q⟩⟩
        rw [u3 51 (by omega), n10 51 (by decide)]; exact g51
      refine rsf_gi (fun z13 q13 => rsf_if (fun c13 => ?_) (fun c13 => ?_))
      · refine rsf_ck ⟨by omega, by omega⟩ (fun z15 q15 => rsf_ck ⟨by omega, by omega⟩ (fun z16 q16 => ?_))
        refine rsf_rd ⟨by omega, by show _ < ((64 : Nat) : Int); omega⟩ (fun z17 q17 => ?_)
        have hr := M10.2.2.1.2.2.2.2.2.1 z16.toNat (by omega)
        have hs := M10.2.2.1.2.1
        exact fin (by omega) (by omega) (fun _ => c13)
      · exact fin (by omega) (by omega) (by omega)
    · refine rsf_some ⟨⟨by decide, by decide⟩, M10.le (by omega) hR, F10, ⟨v43, v59⟩, fun q => absurd (q11.symm.trans q) c11⟩
  · exact rsf_some ⟨⟨by decide, by decide⟩, Ms.le (by omega) hR, F1, es, fun q => absurd (q1.symm.trans q) c1⟩
end RJL
