section RJD
variable {σ σ' σ'' σ0 σh s : RS} {d : Nat} {S V T U A : Int → Prop} {r w w' lo hi sc ch l R : Int} {Q : RS → Int → Prop}
/-- what a tree is, by its kind -/
theorem TR.inv {a : Nat → Nat → Int} {h : Nat} {t lo hi : Int} (T : TR a h t lo hi) : (NMr a t ∧ lo = t ∧ hi = t + 1) ∨ a 30 t.toNat = 7 ∨ (∃ (k j : Nat) (x y m : Int), TR a k x lo m ∧ TR a j y m t ∧ k < h ∧ j < h ∧ a 30 t.toNat = 5 ∧ a 31 t.toNat = -1 ∧ a 32 t.toNat = x ∧ a 33 t.toNat = y ∧ a 38 t.toNat = t ∧ hi = t + 1) ∨ (∃ (k j : Nat) (x y m : Int), TR a k x (t + 2) m ∧ TR a j y m hi ∧ k + 2 ≤ h ∧ j + 2 ≤ h ∧ (4 ≤ a 30 t.toNat ∧ a 30 t.toNat ≤ 6) ∧ a 31 t.toNat = t + 1 ∧ NMr a (t + 1) ∧ a 32 t.toNat = x ∧ a 33 t.toNat = y ∧ a 38 t.toNat = t ∧ lo = t) := by
  obtain ⟨n, T⟩ := T
  cases n with
  | zero => exact False.elim T
  | succ n =>
    rcases T with ⟨h0, q, e1, e2⟩ | ⟨k, x, y, m, T1, T2, hk, e1, e2, e3, e4, e5⟩ | ⟨k, j, x, y, m, T1, T2, hk, hj, e1, e0, e2, e3, e4, e5⟩ | ⟨k, j, x, y, m, h0, T1, T2, hk, hj, e1, e2, e3, e4, e5, e6, e7⟩
    · exact Or.inl ⟨q, e1, e2⟩
    · exact Or.inr (Or.inl e1)
    · exact Or.inr (Or.inr (Or.inl ⟨k, j, x, y, m, ⟨n, T1⟩, ⟨n, T2⟩, hk, hj, e1, e0, e2, e3, e4, e5⟩))
    · exact Or.inr (Or.inr (Or.inr ⟨k, j, x, y, m, ⟨n, T1⟩, ⟨n, T2⟩, hk, hj, e1, e2, e3, e4, e5, e6, e7⟩))
/-- a local definition -/
theorem q_judgeLet {k j h : Nat} {n x y m c : Int} {K : RS → RO} (J1 : JC k) (J2 : JC j) (hk : k + 2 ≤ h) (hj : j + 2 ≤ h) (hd : 6 * h + 220 ≤ d) (P : JPre R S h n n hi c σ) (T1 : TR σ.2 k x (n + 2) m) (T2 : TR σ.2 j y m hi) (e30 : σ.2 30 n.toNat = 6) (e31 : σ.2 31 n.toNat = n + 1) (nm : NMr σ.2 (n + 1)) (e32 : σ.2 32 n.toNat = x) (e33 : σ.2 33 n.toNat = y) (e38 : σ.2 38 n.toNat = n) (hK : ∀ s, JPost R S n hi σ n s → rsf (K s) Q) : rsf (rf_rd σ 32 n (fun z11 => rf_cl (RF d 49 σ [z11, c]) (fun σ12 z13 => rf_gi σ12 72 (fun z14 => (if z14 = 0 then rf_gi σ12 60 (fun z16 => rf_gi σ12 61 (fun z17 => rf_cl (RF d 48 σ12 [n, z16, z17]) (fun σ18 z19 => rf_rd σ18 33 n (fun z20 => rf_rd σ18 32 n (fun z21 => rf_cl (RF d 30 σ18 [c, n, z21, c]) (fun σ22 z23 => rf_cl (RF d 49 σ22 [z20, z23]) (fun σ24 z25 => rf_gi σ24 43 (fun z26 => rf_ck (z26 - 1) (fun z27 => rf_pi σ24 43 z27 K)))))))))  else K σ12))))) Q := by
  obtain ⟨⟨M, hR⟩, p15, p51, pT, ⟨p8, p39⟩, pS, p43, p59, pC, pA⟩ := P
  obtain ⟨b1, b2, b3, b4, b5, b6, b7, b8, b9, b10, b11⟩ := M.2.1
  have g1 := T1.rg
  have g2 := T2.rg
  have h0 : 0 ≤ n ∧ n < σ.1 39 := ⟨by omega, by omega⟩
  have hk0 : σ.2 30 n.toNat ≠ 0 := by omega
  have rc := WC.rg pC
  refine rsf_rd ⟨by omega, by show _ < ((140000 : Nat) : Int); omega⟩ (fun z11 q11 => ?_)
  have q11' : z11 = x := by rw [← q11]; exact e32
  rw [q11']
  have P1 : JPre (R + 2 + (hi - m)) S k x (n + 2) m c σ := ⟨⟨M.le (by omega) (by omega), by omega⟩, p15, p51, T1, ⟨by omega, by omega⟩, pS.nar (by omega) (by omega), ⟨p43.1, by omega⟩, ⟨p59.1, by omega⟩, pC, pA⟩
  refine rsf_cl (J1 (by omega) P1) (fun s z13 u => ?_)
  obtain ⟨Ms, Fs, es, gs⟩ := u
  have F1 : JF n hi (σ.1 43) (σ.1 59) σ s := Fs.wide (by omega) (by omega) (Int.le_refl _) (Int.le_refl _)
  refine rsf_gi (fun z14 q14 => rsf_if (fun c14 => ?_) (fun c14 => ?_))
  · obtain ⟨s51, sx, st⟩ := gs (q14.trans c14)
    have rt := (WS.out st.1).1
    have l39 := Fs.2.2.1.1
    have c7 := Ms.2.1.2.2.2.2.2.2.1
    have c6 := Ms.2.1.2.2.2.2.2.1
    have c3 := Ms.2.1.2.2.1
    refine rsf_gi (fun z16 q16 => rsf_gi (fun z17 q17 => ?_))
    refine rsf_cl (q_bind (by omega) Ms ⟨by omega, by omega⟩ (q16 ▸ Ms.1.1 _) (q17 ▸ Ms.1.1 _) ⟨by omega, by omega⟩) (fun s3 z4 f => ?_)
    obtain ⟨M3, B⟩ := f
    have e43 := B.2.1
    obtain ⟨f30, f31, f32, f33, f38⟩ := Fs.2.2.2.1 n h0.1 h0.2 (fun z => hk0 z.1)
    obtain ⟨y30, y31, y32, y33, y38⟩ := Fs.2.2.2.1 (n + 1) (by omega) (by omega) (fun z => by omega)
    have FB : JF n hi (σ.1 43) (σ.1 59) s s3 := B.jf (by omega) h0.1 ⟨by omega, by omega⟩ p43.1
    have F3 : JF n hi (σ.1 43) (σ.1 59) σ s3 := F1.trans FB
    have ek := fun k p q r => B.2.2.1 k p q r
    have n39 := B.1 39 (by decide)
    have n48 := B.1 48 (by decide)
    have n64 := B.1 64 (by decide)
    refine rsf_rd ⟨by omega, by show _ < ((140000 : Nat) : Int); omega⟩ (fun z20 q20 => ?_)
    refine rsf_rd ⟨by omega, by show _ < ((140000 : Nat) : Int); omega⟩ (fun z21 q21 => ?_)
    have q20' : z20 = y := by rw [← q20, ek 33 (by decide) (by decide) (by decide), f33]; exact e33
    have q21' : z21 = x := by rw [← q21, ek 32 (by decide) (by decide) (by decide), f32]; exact e32
    rw [q20', q21']
    have sx3 : WSs s3 x (SA σ) := sx.jf FB
    have rx := (WS.out sx3).1
    have C3 : COs s3 S none0 x c := co_of sx3 pC pA F3
    refine rsf_cl (q_cell (S := S) (V := none0) (by omega) (M3.le (w := R + 1 + (hi - m)) (by omega) (by omega)) (pC.jf F3 (fun _ q => q)) ⟨by omega, by omega⟩ ⟨by omega, by omega⟩ C3 (by omega)) (fun s4 z23 f => ?_)
    obtain ⟨f1, M4, F4, n4, f48, k4, W4, D4⟩ := f
    have F04 : JF n hi (σ.1 43) (σ.1 59) σ s4 := F3.trans ((F4 0).jf (n4 75 (by decide)))
    have T4 : TR s4.2 j y m hi := by
      refine (T2.ag (Fs.ag (by omega) p39 (Or.inr (Int.le_refl _)))).ag (fun q q1 q2 => ?_)
      rw [k4 30 (by omega), k4 31 (by omega), k4 32 (by omega), k4 33 (by omega), k4 38 (by omega), ek 30 (by decide) (by decide) (by decide), ek 31 (by decide) (by decide) (by decide), ek 32 (by decide) (by decide) (by decide), ek 33 (by decide) (by decide) (by decide), ek 38 (by decide) (by decide) (by decide)]
      exact ⟨rfl, rfl, rfl, rfl, rfl⟩
    have S1 : SC S n hi s := pS.jf F1 (Int.le_refl _) (Int.le_refl _) es.1 (Int.le_refl _) (fun _ q => q)
    have nm' : NMr s.2 (s.2 31 n.toNat) := by
      rw [f31, e31]
      unfold NMr at nm ⊢
      rw [y30, y31, y32]; exact nm
    have S3 : SC S m hi s3 := sc_more B S1 (by omega) ⟨by omega, by omega⟩ (fun _ q => q) ⟨by omega, by omega⟩ (by omega) ⟨by omega, by omega⟩ (by omega) ⟨by rw [f31, e31]; omega, nm', by rw [f31, e31]; omega⟩ (by rw [← q16]; exact st.1) (by rw [← q17]; exact st.2)
    have S4 : SC S m hi s4 := S3.jf ((F4 0).jf (lo := m) (hi := hi) (sc := s3.1 43) (ch := 0) (n4 75 (by decide))) (Int.le_refl _) (Int.le_refl _) (n4 43 (by decide)) (Int.le_refl _) (fun _ q => q)
    have sa4 : ∀ z, SA s4 z → SA σ z ∨ z = n := fun z hz => by
      have : SA s3 z := (SA.jf ((F4 0).jf (lo := 0) (hi := 0) (sc := s3.1 43) (ch := 0) (n4 75 (by decide))) (n4 43 (by decide)) (Int.le_refl _)).mp hz
      rcases sa_more B (by omega) this with q | q
      · exact Or.inl ((SA.jf F1 es.1 (Int.le_refl _)).mp q)
      · exact Or.inr q
    have A4 : ∀ z, SA s4 z → S z ∨ Dom s4.2 z23 z := fun z hz => by
      rcases sa4 z hz with q | q
      · rcases pA z q with y | y
        · exact Or.inl y
        · exact Or.inr (D4 z (Or.inl (y.jf pC F3)))
      · exact Or.inr (D4 z (Or.inr q))
    have P2 : JPre (R + 1) S j y m hi z23 s4 := by
      refine ⟨⟨M4, by omega⟩, ?_, ?_, T4, ⟨by omega, ?_⟩, S4, ⟨?_, ?_⟩, ⟨?_, ?_⟩, W4, A4⟩
      · rw [F04.1 15 rfl]; exact p15
      · rw [n4 51 (by decide), B.1 51 (by decide)]; exact s51
      · rw [n4 39 (by decide)]; omega
      · rw [n4 43 (by decide)]; omega
      · rw [n4 43 (by decide)]; omega
      · rw [n4 59 (by decide), B.1 59 (by decide)]; omega
      · rw [n4 59 (by decide), B.1 59 (by decide)]; omega
    refine rsf_cl (J2 (by omega) P2) (fun s6 z25 g => ?_)
    obtain ⟨M6, F6, e6, g6⟩ := g
    rw [n4 43 (by decide), n4 59 (by decide), B.1 59 (by decide)] at e6
    refine rsf_gi (fun z26 q26 => rsf_ck ⟨by omega, by omega⟩ (fun z27 q27 => rsf_pi (fun s10 w10 => ?_)))
    have M10 := M6.pj w10 (by omega) ⟨by omega, by omega⟩
    have n10 := fun j (hj : j ≠ 43) => rs_i_n w10 hj
    have F6' : JF n hi (σ.1 43) (σ.1 59) s4 s6 := F6.wide (by omega) (by omega) (by rw [n4 43 (by decide)]; omega) (by rw [n4 59 (by decide), B.1 59 (by decide)]; omega)
    have F10 : JF n hi (σ.1 43) (σ.1 59) σ s10 := (F04.trans F6').trans (JF.p w10 (by omega))
    refine hK s10 ⟨M10.le (by omega) hR, F10, ⟨by rw [rs_i_e w10]; omega, by rw [n10 59 (by decide)]; omega⟩, fun q => ?_⟩
    rw [n10 72 (by decide)] at q
    obtain ⟨y1, y2, y3⟩ := g6 q
    have Fp : JF 0 0 0 0 s6 s10 := JF.p w10 (by omega)
    obtain ⟨i30, i31, i32, i33, i38⟩ := F10.2.2.2.1 n h0.1 h0.2 (fun z => hk0 z.1)
    have l10 := F10.2.2.1.1
    refine ⟨by rw [n10 51 (by decide)]; exact y1, ?_, ?_, ?_⟩
    · refine WS.mk ⟨⟨by omega, by omega⟩, Or.inr (Or.inr (Or.inr (Or.inr ⟨by omega, ?_, ?_⟩)))⟩
      · rw [i32, e32]; exact ((sx3.mf (F4 0)).jf F6').jf Fp
      · rw [i33, e33, i38, e38]; exact (y2.jf Fp).sub (fun z hz => sa4 z hz)
    · rw [n10 60 (by decide)]; exact y3.1.jf Fp
    · rw [n10 61 (by decide)]; exact y3.2
  · exact hK s ⟨Ms.le (by omega) hR, F1, es, fun q => absurd (q14.symm.trans q) c14⟩
theorem JPost.bad {n : Int} (M : M0 r σ) (hR : 0 ≤ R ∧ R ≤ r) (h : σ.1 72 ≠ 0) : JPost R S lo hi σ n σ := ⟨M.le hR.2 hR.1, JF.refl, ⟨rfl, rfl⟩, fun q => absurd q h⟩
/-- judging a tree that is no use -/
theorem q_judgeN {h : Nat} (JK : ∀ k, k < h → JC k) : JN h := by
  intro d R n lo hi c S σ hd P h7
  rw [rq_judge (by omega)]
  refine rsf_fin ?_
  unfold pf_judge_0
  have P' := P
  obtain ⟨⟨M, hR⟩, p15, p51, pT, ⟨p8, p39⟩, pS, p43, p59, pC, pA⟩ := P'
  obtain ⟨b1, b2, b3, b4, b5, b6, b7, b8, b9, b10, b11⟩ := M.2.1
  have g := pT.rg
  have K : ∀ (s : RS), JPost R S lo hi σ n s → rsf (some (s, (0 : Int))) (fun s b => inR b ∧ JPost R S lo hi σ n s) := fun s q => rsf_some ⟨⟨by decide, by decide⟩, q⟩
  refine rsf_gi (fun z1 q1 => rsf_if (fun c1 => ?_) (fun c1 => ?_))
  · refine rsf_rd ⟨by omega, by show _ < ((140000 : Nat) : Int); omega⟩ (fun z3 q3 => ?_)
    rcases pT.inv with ⟨nm, e1, e2⟩ | q7 | ⟨k, j, x, y, m, T1, T2, hk, hj, e30, e31, e32, e33, e38, eh⟩ | ⟨k, j, x, y, m, T1, T2, hk, hj, e30, e31, nm, e32, e33, e38, el⟩
    · have k0 := nm.1
      refine rsf_if (fun c => by omega) (fun _ => rsf_if (fun c => by omega) (fun _ => rsf_if (fun c => by omega) (fun _ => rsf_if (fun c => by omega) (fun _ => ?_))))
      exact rsf_cl (q_judgeName (by omega) hR (M.le (by omega) hR) ⟨by omega, by omega⟩ nm ⟨by omega, by omega⟩ p51 pS ⟨by omega, by omega⟩) (fun s z u => K s u)
    · exact absurd q7 h7
    · have t1 := T1.rg
      have t2 := T2.rg
      refine rsf_if (fun c => by omega) (fun _ => rsf_if (fun _ => ?_) (fun c => by omega))
      exact rsf_cl (q_judgeProduct (JK k hk) (JK j hj) (by omega) (by omega) (by omega) P T1 T2 ⟨by omega, by omega⟩ ⟨by omega, by omega, Or.inr (by omega)⟩ (by omega) e30 (Or.inl (by omega)) e32 e33 e38) (fun s z u => K s u)
    · subst el
      have t1 := T1.rg
      have t2 := T2.rg
      refine rsf_if (fun c => ?_) (fun c4 => rsf_if (fun c => ?_) (fun c5 => rsf_if (fun c => ?_) (fun c => by omega)))
      · exact rsf_cl (q_judgeLambda (JK k (by omega)) (JK j (by omega)) hk hj (by omega) P T1 T2 (by omega) e31 nm e32 e33 e38) (fun s z u => K s u)
      · refine rsf_cl (q_judgeProduct (JK k (by omega)) (JK j (by omega)) (by omega) (by omega) (by omega) P T1 T2 ⟨by omega, by omega⟩ ⟨by omega, by omega, Or.inl (by omega)⟩ (by omega) (by omega) (Or.inr ⟨hj, by omega, by rw [e31]; exact nm, Or.inl (by omega)⟩) e32 e33 e38) (fun s z u => K s u)
      · exact q_judgeLet (JK k (by omega)) (JK j (by omega)) hk hj (by omega) P T1 T2 (by omega) e31 nm e32 e33 e38 K
  · exact K σ (JPost.bad M ⟨hR, by omega⟩ (by omega))
/-- judging is safe -/
theorem q_judge : ∀ h : Nat, JC h := by
  intro h
  induction h using Nat.strongRecOn with
  | _ h ih =>
    intro d R n lo hi c S σ hd P
    by_cases c7 : σ.2 30 n.toNat = 7
    · rw [rq_judge (by omega)]
      refine rsf_fin ?_
      unfold pf_judge_0
      have P' := P
      obtain ⟨⟨M, hR⟩, p15, p51, pT, ⟨p8, p39⟩, pS, p43, p59, pC, pA⟩ := P'
      obtain ⟨b1, b2, b3, b4, b5, b6, b7, b8, b9, b10, b11⟩ := M.2.1
      have g := pT.rg
      refine rsf_gi (fun z1 q1 => rsf_if (fun c1 => ?_) (fun c1 => ?_))
      · refine rsf_rd ⟨by omega, by show _ < ((140000 : Nat) : Int); omega⟩ (fun z3 q3 => ?_)
        refine rsf_if (fun c => by omega) (fun _ => rsf_if (fun c => by omega) (fun _ => rsf_if (fun c => by omega) (fun _ => rsf_if (fun _ => ?_) (fun c => by omega))))
        exact rsf_cl (q_judgeUse ih (q_judgeN ih) (by omega) P) (fun s z u => rsf_some ⟨⟨by decide, by decide⟩, u⟩)
      · exact rsf_some ⟨⟨by decide, by decide⟩, JPost.bad M ⟨hR, by omega⟩ (by omega)⟩
    · exact q_judgeN ih (by omega) P c7
end RJD
