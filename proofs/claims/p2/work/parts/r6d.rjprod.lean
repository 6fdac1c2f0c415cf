section RJP
variable {σ σ' σ'' σ0 σh s : RS} {d : Nat} {S V T U A : Int → Prop} {r w w' lo hi sc ch l R : Int} {Q : RS → Int → Prop}
theorem q_judgeProduct102 {n a b : Int} (hd : 1 ≤ d) (hR : 0 ≤ R) (M : M0 R σ) (hn : 0 ≤ n ∧ n < σ.1 39) (ha : 0 ≤ a ∧ a ≤ 7) (hb : 0 ≤ b ∧ b ≤ 7) : rsf (pf_judgeProduct_102 (RF d) σ n a b) (fun s z => inR z ∧ M0 R s ∧ (∀ lo hi sc ch, JF lo hi sc ch σ s) ∧ (∀ j, j = 43 ∨ j = 59 ∨ j = 51 → s.1 j = σ.1 j) ∧ (s.1 72 = 0 → σ.1 72 = 0 ∧ TY S s)) := by
  unfold pf_judgeProduct_102
  obtain ⟨b1, b2, b3, b4, b5, b6, b7, b8, b9, b10, b11⟩ := M.2.1
  obtain ⟨g1, g2, g3, g4, g5, g6, g7, g8⟩ := M.2.2.1
  refine rsf_gi (fun z1 q1 => rsf_if (fun c => ?_) (fun c => ?_))
  · refine rsf_ck ⟨by omega, by omega⟩ (fun z3 q3 => rsf_ck ⟨by omega, by omega⟩ (fun z4 q4 => ?_))
    refine rsf_rd ⟨by omega, by show _ < ((64 : Nat) : Int); omega⟩ (fun z5 q5 => ?_)
    have h5 := g6 z4.toNat (by omega)
    refine rsf_if (fun c5 => ?_) (fun c5 => ?_)
    · refine rsf_wr ⟨by omega, by show _ < ((140000 : Nat) : Int); omega⟩ (fun s7 w7 => ?_)
      obtain ⟨M7, F7⟩ := M.wk w7 (Or.inl rfl) (by omega) ha
      refine rsf_wr ⟨by omega, by show _ < ((140000 : Nat) : Int); omega⟩ (fun s8 w8 => ?_)
      obtain ⟨M8, F8⟩ := M7.wk w8 (Or.inr rfl) (by omega) hb
      refine rsf_rd ⟨by omega, by show _ < ((8 : Nat) : Int); omega⟩ (fun z9 q9 => ?_)
      have h9 := M8.2.2.1.2.2.2.2.1 z5.toNat (by omega)
      have h20 := M8.2.2.1.2.1
      refine rsf_cl (q_becomes hd M8 ⟨by omega, by omega⟩ ⟨by omega, by omega⟩) (fun s10 z11 f => ?_)
      obtain ⟨M10, F10, e10, n10, v60, v61⟩ := f
      have F : ∀ lo hi sc ch, JF lo hi sc ch σ s10 := fun _ _ _ _ => (((F7 0).trans (F8 0)).jf (by rw [rs_a_1 w8, rs_a_1 w7])).trans (F10 _ _ _ _)
      have n1 : ∀ j, j ≠ 60 → j ≠ 61 → s10.1 j = σ.1 j := fun j p q => by rw [n10 j p q, rs_a_1 w8, rs_a_1 w7]
      refine rsf_some ⟨⟨by decide, by decide⟩, M10, F, fun j hj => n1 j (by omega) (by omega), fun q => ⟨q1.trans c, ?_, by omega⟩⟩
      rw [v60]
      have u := g8 z5 c5 (by omega)
      obtain ⟨y1, y2, _⟩ := (F 0 0 0 0).2.2.2.1 z5 c5 (by omega) (fun z => by omega)
      have n39 := n1 39 (by decide) (by decide)
      exact WS.sort ⟨by omega, by omega⟩ (by omega) (y1.trans u.1) (y2.trans u.2)
    · refine rsf_rd ⟨by omega, by show _ < ((140000 : Nat) : Int); omega⟩ (fun z12 q12 => ?_)
      refine rsf_cl (j_wrong (n := 0) hd M ⟨by decide, by decide⟩ (q12 ▸ M.1.2 _ _)) (fun s z f => ?_)
      obtain ⟨f1, f2, f3, f4, f5, _⟩ := f
      exact rsf_some ⟨⟨by decide, by decide⟩, f1, fun _ _ _ _ => ((f2 0).jf (f3 75 (by decide) (by decide))), fun j hj => f3 j (by omega) (by omega), fun q => absurd q f5⟩
  · exact rsf_some ⟨⟨by decide, by decide⟩, M, fun _ _ _ _ => JF.refl, fun _ _ => rfl, fun q => absurd (q1.symm.trans q) c⟩
/-- a product, with a name or without -/
theorem q_judgeProduct {k j h : Nat} {n x y m h2 c : Int} (J1 : JC k) (J2 : JC j) (hk : k + 1 ≤ h) (hj : j + 1 ≤ h) (hd : 6 * h + 226 ≤ d) (P : JPre R S h n lo hi c σ) (T1 : TR σ.2 k x l m) (T2 : TR σ.2 j y m h2) (hl : lo ≤ l ∧ h2 ≤ hi) (hn : lo ≤ n ∧ n < hi ∧ (n < l ∨ h2 ≤ n)) (hz : h2 - l + 1 ≤ hi - lo) (e30 : σ.2 30 n.toNat = 5) (e31 : σ.2 31 n.toNat < 0 ∨ (j + 2 ≤ h ∧ (lo ≤ σ.2 31 n.toNat ∧ σ.2 31 n.toNat < hi) ∧ NMr σ.2 (σ.2 31 n.toNat) ∧ (σ.2 31 n.toNat < l ∨ h2 ≤ σ.2 31 n.toNat))) (e32 : σ.2 32 n.toNat = x) (e33 : σ.2 33 n.toNat = y) (e38 : σ.2 38 n.toNat = n) : rsf (RF d 50 σ [n, c]) (fun s _ => JPost R S lo hi σ n s) := by
  rw [rq_judgeProduct (by omega)]
  refine rsf_fin ?_
  unfold pf_judgeProduct_0
  obtain ⟨⟨M, hR⟩, p15, p51, pT, ⟨p8, p39⟩, pS, p43, p59, pC, pA⟩ := P
  have g1 := T1.rg
  have g2 := T2.rg
  have h0 : 0 ≤ n ∧ n < σ.1 39 := ⟨by omega, by omega⟩
  have hk0 : σ.2 30 n.toNat ≠ 0 := by omega
  have P1 : JPre (R + 1 + (h2 - m)) S k x l m c σ := ⟨⟨M.le (by omega) (by omega), by omega⟩, p15, p51, T1, ⟨by omega, by omega⟩, pS.nar (by omega) (by omega), ⟨p43.1, by omega⟩, ⟨p59.1, by omega⟩, pC, pA⟩
  refine j_first J1 (by omega) P1 h0 hk0 e32 (fun s a t ha Ms Fs es ht gs => ?_)
  have F1 : JF lo hi (σ.1 43) (σ.1 59) σ s := Fs.wide (by omega) (by omega) (Int.le_refl _) (Int.le_refl _)
  unfold pf_judgeProduct_35
  refine rsf_gi (fun z1 q1 => rsf_if (fun c1 => ?_) (fun c1 => ?_))
  · obtain ⟨s51, sx, st⟩ := gs (q1.trans c1)
    have l39 := Fs.2.2.1.1
    obtain ⟨f30, f31, f32, f33, f38⟩ := Fs.2.2.2.1 n h0.1 h0.2 (fun z => hk0 z.1)
    have c7 := Ms.2.1.2.2.2.2.2.2.1
    have c3 := Ms.2.1.2.2.1
    have c11 := Ms.2.1.2.2.2.2.2.2.2.2.2.2
    -- the second part, in a state s3, its names in U
    have body : ∀ {s3 : RS} {U : Int → Prop} {x5 : Int}, (x5 = 0 ∨ x5 = 1) → M0 (R + 1 + (h2 - m)) s3 → JF lo hi (σ.1 43) (σ.1 59) σ s3 → s3.1 43 = σ.1 43 + x5 → s3.1 59 = σ.1 59 → s3.1 51 = 0 → WSs s3 x (SA σ) → (∀ z, S z → U z) → SC U m h2 s3 → (∀ z, SA s3 z → SA σ z ∨ z = n) → (∀ z, SA s3 z → U z ∨ Dom s3.2 c z) → TR s3.2 j y m h2 → (2 * (σ.1 43 + x5) + j ≤ 80) → rsf (pf_judgeProduct_74 (RF (d - 1)) s3 n c a x5) (fun s b => inR b ∧ JPost R S lo hi σ n s) := by
      intro s3 U x5 hx5 M3 F3 v43 v59 v51 wx sS S3 A3 A3' T3 h80
      unfold pf_judgeProduct_74
      obtain ⟨i30, i31, i32, i33, i38⟩ := F3.2.2.2.1 n h0.1 h0.2 (fun z => hk0 z.1)
      have i39 := F3.2.2.1.1
      have d7 := M3.2.1.2.2.2.2.2.2.1
      have d3 := M3.2.1.2.2.1
      refine rsf_rd ⟨by omega, by show _ < ((140000 : Nat) : Int); omega⟩ (fun z5 q5 => ?_)
      have q5' : z5 = y := by rw [← q5, i33]; exact e33
      rw [q5']
      have P2 : JPre (R + 1) U j y m h2 c s3 := by
        refine ⟨⟨M3, by omega⟩, ?_, v51, T3, ⟨by omega, by omega⟩, S3, ⟨by omega, by omega⟩, ⟨by omega, by omega⟩, pC.jf F3 sS, A3'⟩
        rw [F3.1 15 rfl]; exact p15
      refine rsf_cl (q_judgeSort J2 (by omega) P2) (fun s6 z7 g => ?_)
      obtain ⟨hb, M6, F6, e6, g6⟩ := g
      have F6' : JF lo hi (σ.1 43) (σ.1 59) s3 s6 := F6.wide (by omega) (by omega) (by omega) (by omega)
      have F06 := F3.trans F6'
      have fin : ∀ {s7 : RS}, M0 (R + 1) s7 → JF lo hi (σ.1 43) (σ.1 59) σ s7 → JF 0 0 0 0 s6 s7 → s7.1 43 = σ.1 43 → s7.1 59 = σ.1 59 → s7.1 51 = s6.1 51 → s7.1 72 = s6.1 72 → rsf (pf_judgeProduct_102 (RF (d - 1)) s7 n a z7) (fun s b => inR b ∧ JPost R S lo hi σ n s) := by
        intro s7 M7 F7 F67 w43 w59 w51 w72
        have l7 := F7.2.2.1.1
        refine rsf_mono (q_judgeProduct102 (S := S) (by omega) (by omega) M7 ⟨by omega, by omega⟩ ha hb) (fun s' z' u => ?_)
        obtain ⟨u0, u1, u2, u3, u4⟩ := u
        refine ⟨u0, u1.le (by omega) hR, F7.trans (u2 _ _ _ _), ⟨by rw [u3 43 (by omega)]; exact w43, by rw [u3 59 (by omega)]; exact w59⟩, fun q => ?_⟩
        obtain ⟨u5, u6⟩ := u4 q
        obtain ⟨g51, gy, _⟩ := g6 (by omega)
        refine ⟨by rw [u3 51 (by omega), w51]; exact g51, ?_, u6⟩
        have Fx : JF lo hi (σ.1 43) (σ.1 59) σ s' := F7.trans (u2 _ _ _ _)
        obtain ⟨o30, o31, o32, o33, o38⟩ := Fx.2.2.2.1 n h0.1 h0.2 (fun z => hk0 z.1)
        have lx := Fx.2.2.1.1
        refine WS.mk ⟨⟨by omega, by omega⟩, Or.inr (Or.inr (Or.inr (Or.inr ⟨by omega, ?_, ?_⟩)))⟩
        · rw [o32, e32]
          exact ((wx.jf F6').jf F67).jf (u2 0 0 0 0)
        · rw [o33, e33, o38, e38]
          refine ((gy.jf F67).jf (u2 0 0 0 0)).sub (fun z hz => ?_)
          exact A3 z hz
      refine rsf_if (fun c5 => ?_) (fun c5 => ?_)
      · exact fin M6 F06 JF.refl (by omega) (by omega) rfl rfl
      · refine rsf_gi (fun z8 q8 => rsf_ck ⟨by omega, by omega⟩ (fun z9 q9 => rsf_pi (fun s7 w7 => ?_)))
        exact fin (M6.pj w7 (by omega) ⟨by omega, by omega⟩) (F06.trans (JF.p w7 (by omega))) (JF.p w7 (by omega)) (by rw [rs_i_e w7]; omega) (by rw [rs_i_n w7 (by decide)]; omega) (rs_i_n w7 (by decide)) (rs_i_n w7 (by decide))
    have T2s : TR s.2 j y m h2 := T2.ag (Fs.ag (by omega) (by omega) (Or.inr (Int.le_refl _)))
    have S1 : SC S lo hi s := pS.jf F1 (Int.le_refl _) (Int.le_refl _) es.1 (Int.le_refl _) (fun _ q => q)
    have A1 : ∀ z, SA s z → SA σ z := fun z hz => (SA.jf F1 es.1 (Int.le_refl _)).mp hz
    refine rsf_rd ⟨by omega, by show _ < ((140000 : Nat) : Int); omega⟩ (fun z3 q3 => ?_)
    rw [f31] at q3
    refine rsf_if (fun c3' => ?_) (fun c3' => ?_)
    · unfold pf_judgeProduct_59
      refine rsf_if (fun _ => ?_) (fun c => absurd rfl c)
      refine body (U := S) (Or.inl rfl) Ms F1 (by omega) es.2 s51 sx (fun _ q => q) (S1.nar (by omega) (by omega)) (fun z hz => Or.inl (A1 z hz)) (fun z hz => ?_) T2s (by omega)
      rcases pA z (A1 z hz) with q | q
      · exact Or.inl q
      · exact Or.inr (q.jf pC F1)
    · obtain ⟨hj2, o1, o2, o3⟩ : j + 2 ≤ h ∧ (lo ≤ σ.2 31 n.toNat ∧ σ.2 31 n.toNat < hi) ∧ NMr σ.2 (σ.2 31 n.toNat) ∧ (σ.2 31 n.toNat < l ∨ h2 ≤ σ.2 31 n.toNat) := by
        rcases e31 with q | q
        · omega
        · exact q
      unfold pf_judgeProduct_59
      refine rsf_if (fun c => absurd c (by decide)) (fun _ => ?_)
      refine rsf_cl (q_bind (by omega) Ms ⟨by omega, by omega⟩ ht ⟨by omega, by omega⟩ ⟨by omega, by omega⟩) (fun s3 z4 f => ?_)
      obtain ⟨M3, B⟩ := f
      have FB : JF lo hi (σ.1 43) (σ.1 59) s s3 := B.jf (by omega) h0.1 ⟨by omega, by omega⟩ p43.1
      have F3 : JF lo hi (σ.1 43) (σ.1 59) σ s3 := F1.trans FB
      have ek := fun k p q r => B.2.2.1 k p q r
      have e43 := B.2.1
      have sS : ∀ x, S x → wsb S n x := fun _ q => Or.inl q
      obtain ⟨y30, y31, y32, y33, y38⟩ := Fs.2.2.2.1 (σ.2 31 n.toNat) (by omega) (by omega) (fun z => by omega)
      have nm' : NMr s.2 (s.2 31 n.toNat) := by
        rw [f31]
        unfold NMr at o2 ⊢
        rw [y30, y31, y32]; exact o2
      have S3 : SC (wsb S n) m h2 s3 := sc_more B S1 (by omega) ⟨by omega, by omega⟩ sS ⟨by omega, by omega⟩ (by omega) ⟨by omega, by omega⟩ (by omega) ⟨by rw [f31]; omega, nm', by rw [f31]; omega⟩ (st.sub sS) ⟨by omega, by omega⟩
      have T3 : TR s3.2 j y m h2 := T2s.ag (fun q q1 q2 => by
        rw [ek 30 (by decide) (by decide) (by decide), ek 31 (by decide) (by decide) (by decide), ek 32 (by decide) (by decide) (by decide), ek 33 (by decide) (by decide) (by decide), ek 38 (by decide) (by decide) (by decide)]
        exact ⟨rfl, rfl, rfl, rfl, rfl⟩)
      refine body (U := wsb S n) (Or.inr rfl) M3 F3 (by omega) (by rw [B.1 59 (by decide)]; exact es.2) (by rw [B.1 51 (by decide)]; exact s51) (sx.jf FB) sS S3 (fun z hz => ?_) (fun z hz => ?_) T3 (by omega)
      · rcases sa_more B (by omega) hz with q | q
        · exact Or.inl (A1 z q)
        · exact Or.inr q
      · rcases sa_more B (by omega) hz with q | q
        · rcases pA z (A1 z q) with y | y
          · exact Or.inl (Or.inl y)
          · exact Or.inr (y.jf pC F3)
        · exact Or.inl (Or.inr q)
  · exact rsf_some ⟨⟨by decide, by decide⟩, Ms.le (by omega) hR, F1, es, fun q => absurd (q1.symm.trans q) c1⟩
end RJP
