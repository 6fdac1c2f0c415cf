section RTP
variable {σ σ' σ'' σ0 s : RS} {d : Nat} {Q : RS → Int → Prop}
/-- so far in a statement: the lexer, the frame, the nodes' count -/
def SQ (e : Int) (σ0 σ : RS) : Prop := LZ σ ∧ SF σ0 σ ∧ (σ0.1 15 = 0 → σ.1 39 = σ0.1 39) ∧ σ.1 39 ≤ σ0.1 39 + 2 * (σ.1 9 - σ0.1 9) + e
def KP (k : Nat) (σ s : RS) : Prop := ∀ j, ((76 ≤ j ∧ j ≤ 82) ∨ j = 15) → j ≠ k → s.1 j = σ.1 j
def MV (σ s : RS) : Prop := (σ.1 9 ≤ s.1 9 ∧ σ.1 39 ≤ s.1 39) ∧ AG σ.2 s.2 0 (σ.1 39) ∧ (σ.1 72 ≠ 0 → s.1 72 ≠ 0)
theorem lxs_st {j : Nat} (h : (76 ≤ j ∧ j ≤ 82) ∨ j = 15) : lxs j = false := by
  unfold lxs
  simp only [Bool.or_eq_false_iff, beq_eq_false_iff_ne]
  omega
theorem KP.of {k : Nat} {x : Int} (h : PF σ σ') (w : s = rs_i σ' k x) : KP k σ s := fun j hj hk => by
  rw [rs_i_n w hk, h.at (lxs_st hj) (by omega)]
theorem KP.pf {k : Nat} (h : PF σ σ') : KP k σ σ' := fun j hj _ => h.at (lxs_st hj) (by omega)
theorem KP.p {k : Nat} {x : Int} (w : s = rs_i σ k x) : KP k σ s := fun j _ hk => rs_i_n w hk
theorem SQ.le {e e' : Int} (S : SQ e σ0 σ) (h : e ≤ e') : SQ e' σ0 σ := ⟨S.1, S.2.1, S.2.2.1, by have := S.2.2.2; omega⟩
theorem SQ.put {e : Int} (S : SQ e σ0 σ) {k : Nat} {x : Int} (w : s = rs_i σ k x) (hk : 76 ≤ k ∧ k ≤ 82) (hx : inR x) : SQ e σ0 s := by
  have n9 := rs_i_n (j := 9) w (by omega)
  have n39 := rs_i_n (j := 39) w (by omega)
  exact ⟨S.1.p w hx hk, S.2.1.trans (SF.p w hk), by rw [n39]; exact S.2.2.1, by rw [n9, n39]; exact S.2.2.2⟩
theorem SQ.go {e e' : Int} (S : SQ e σ0 σ) (L : LZ σ') (P : PF σ σ') (h0 : σ.1 15 = 0 → σ'.1 39 = σ.1 39) (h : σ'.1 39 + e ≤ σ.1 39 + 2 * (σ'.1 9 - σ.1 9) + e') : SQ e' σ0 σ' := by
  have b := S.2.1.1 15 rfl (by omega) (by omega)
  refine ⟨L, S.2.1.trans P.s, fun q => ?_, ?_⟩
  · rw [h0 (by rw [b]; exact q), S.2.2.1 q]
  · have := S.2.2.2; omega
theorem AG.put {a : Nat → Nat → Int} {k : Nat} {x lo hi : Int} (A : AG a σ.2 lo hi) (w : s = rs_i σ k x) : AG a s.2 lo hi := by rw [rs_i_2 w]; exact A
theorem SQ.b {e : Int} (S : SQ e σ0 σ) (B : BU σ0) (he : e ≤ 0) : BU σ := by
  have h1 := S.2.1.2.2.1
  have h2 := S.2.1.2.2.2.2.1
  have h3 := S.2.2.2
  obtain ⟨b1, b2⟩ := B
  exact ⟨by omega, by omega⟩
theorem SQ.n {e : Int} (S : SQ e σ0 σ) (B : BU σ0) (he : e ≤ 5) : 0 ≤ σ.1 39 ∧ σ.1 39 < 139999 := by
  have h1 := S.2.1.2.2.1
  have h2 := S.2.1.2.2.2.2.1
  have h3 := S.2.2.2
  have h5 := S.1.1.2.2.1
  have h6 := S.1.1.2.2.2.2.1
  obtain ⟨b1, b2⟩ := B
  exact ⟨by omega, by omega⟩
theorem MV.pf (P : PF σ σ') : MV σ σ' := ⟨⟨P.2.2.2.2.2.1, P.2.2.1⟩, AG.of P (Int.le_refl _) (Int.le_refl _), fun q => by rw [P.2.2.2.2.2.2 q]; exact q⟩
theorem MV.of {k : Nat} {x : Int} (P : PF σ σ') (w : s = rs_i σ' k x) (hk : 76 ≤ k ∧ k ≤ 82) : MV σ s := by
  have m := MV.pf P
  have e9 := rs_i_n (j := 9) w (by omega)
  have e72 := rs_i_n (j := 72) w (by omega)
  have e39 := rs_i_n (j := 39) w (by omega)
  exact ⟨by rw [e9, e39]; exact m.1, m.2.1.put w, by rw [e72]; exact m.2.2⟩
theorem MV.trans (h : MV σ σ') (k : MV σ' σ'') : MV σ σ'' := by
  obtain ⟨a1, a2, a3⟩ := h
  obtain ⟨b1, b2, b3⟩ := k
  refine ⟨by omega, fun q q1 q2 => ?_, fun q => b3 (a3 q)⟩
  obtain ⟨c1, c2, c3, c4, c5⟩ := a2 q q1 q2
  obtain ⟨d1, d2, d3, d4, d5⟩ := b2 q q1 (by omega)
  exact ⟨d1.trans c1, d2.trans c2, d3.trans c3, d4.trans c4, d5.trans c5⟩
/-- a name into a field -/
theorem sq_nm {e : Int} (hd : 7 ≤ d) (S : SQ e σ0 σ) (B : BU σ0) (he : e ≤ 5) {k : Nat} (hk : 76 ≤ k ∧ k ≤ 82) {f : RS → RO} (h : ∀ s, SQ (e + 1) σ0 s → KP k σ s → MV σ s → (s.1 72 = 0 → SQ (e - 1) σ0 s ∧ σ.1 9 < s.1 9 ∧ (σ.1 15 ≠ 0 → s.1 k = σ.1 39 ∧ s.1 39 = σ.1 39 + 1 ∧ NMr s.2 (s.1 k))) → rsf (f s) Q) : rsf (rf_cl (RF d 19 σ []) (fun s1 z => rf_pi s1 k z f)) Q := by
  have hn := S.n B he
  refine rsf_cl (q_nameNode hd S.1.1 hn) (fun s1 z f1 => rsf_pi (fun s2 w2 => ?_))
  obtain ⟨L1, P1, g1, k1⟩ := f1
  have hz : inR z := by
    rcases k1 with ⟨_, q, _⟩ | ⟨_, q, _⟩ <;> exact ⟨by omega, by omega⟩
  have c9 := P1.2.2.2.2.2.1
  have c72 := P1.2.2.2.2.2.2
  have e9 := rs_i_n (j := 9) w2 (by omega)
  have e72 := rs_i_n (j := 72) w2 (by omega)
  have e39 := rs_i_n (j := 39) w2 (by omega)
  have n39 : σ.1 15 = 0 → s1.1 39 = σ.1 39 := fun q => by
    rcases k1 with ⟨_, _, q1, _⟩ | ⟨q1, _⟩
    · exact q1
    · exact absurd q q1
  have m39 : s1.1 39 ≤ σ.1 39 + 1 := by
    rcases k1 with ⟨_, _, q1, _⟩ | ⟨_, _, q1, _⟩ <;> omega
  refine h s2 ((S.go L1 P1 n39 (by omega)).put w2 hk hz) (KP.of P1 w2) (MV.of P1 w2 hk) (fun q => ?_)
  rw [e72] at q
  have g := g1 q
  refine ⟨(S.go L1 P1 n39 (by omega)).put w2 hk hz, by omega, fun c => ?_⟩
  rcases k1 with ⟨c', _⟩ | ⟨_, e0, e1, e2, e3, e4, e5, e6⟩
  · exact absurd c' c
  · have ek := rs_i_e w2
    have hs : σ.1 72 = 0 := by
      by_cases q0 : σ.1 72 = 0
      · exact q0
      · exact absurd ((c72 q0).symm.trans q) q0
    have t1 := S.1.1.2.2.2.2.2.2.2.2.1 g.2.1
    have t2 := S.1.2 g.2.1 hs
    have l10 := S.1.1.2.2.2.2.2.1
    have l9 := S.1.1.2.2.2.2.1
    refine ⟨by rw [ek]; exact e0, by rw [e39]; exact e1, ?_⟩
    rw [ek, rs_i_2 w2]
    exact ⟨e2, by omega, by omega, by omega⟩
/-- a term into a field -/
theorem sq_tm {e : Int} (hd : 131 ≤ d) (S : SQ e σ0 σ) (B : BU σ0) (he : e ≤ 0) {k : Nat} (hk : 76 ≤ k ∧ k ≤ 82) {f : RS → RO} (h : ∀ s, SQ (e + 1) σ0 s → KP k σ s → MV σ s → (σ.1 72 ≠ 0 → SQ e σ0 s) → (s.1 72 = 0 → SQ (e - 1) σ0 s ∧ (σ.1 15 ≠ 0 → TM s k (σ.1 39) (s.1 39))) → rsf (f s) Q) : rsf (rf_cl (RF d 20 σ [0]) (fun s1 z => rf_pi s1 k z f)) Q := by
  refine rsf_cl (q_top hd S.1 (S.b B he)) (fun s1 z f1 => rsf_pi (fun s2 w2 => ?_))
  obtain ⟨⟨L1, P1, R1, T0, T1, T2, T3⟩, T4⟩ := f1
  have hz : inR z := ⟨by omega, by omega⟩
  have c9 := P1.2.2.2.2.2.1
  have c72 := P1.2.2.2.2.2.2
  have e72 := rs_i_n (j := 72) w2 (by omega)
  have e39 := rs_i_n (j := 39) w2 (by omega)
  refine h s2 ((S.go L1 P1 T0 (by omega)).put w2 hk hz) (KP.of P1 w2) (MV.of P1 w2 hk) (fun q => (S.go L1 P1 T0 (by rw [T4 q]; omega)).put w2 hk hz) (fun q => ?_)
  rw [e72] at q
  refine ⟨(S.go L1 P1 T0 (by have := T2 q; omega)).put w2 hk hz, fun c => ?_⟩
  unfold TM
  rw [rs_i_e w2, rs_i_2 w2, e39]
  exact T3 q c
/-- a sign that must stand there -/
theorem sq_need {e x : Int} (hd : 6 ≤ d) (S : SQ e σ0 σ) {f : RS → Int → RO} (h : ∀ s r, SQ e σ0 s → KP 0 σ s → MV σ s → s.2 = σ.2 → s.1 39 = σ.1 39 → rsf (f s r) Q) : rsf (rf_cl (RF d 16 σ [x]) f) Q := by
  refine rsf_cl (q_need hd S.1.1) (fun s1 z f1 => ?_)
  obtain ⟨_, n, _⟩ := f1
  have P1 := PF.ofFL n.2.1 n.2.2.1 n.2.2.2.1 n.2.2.2.2.1
  have n39 := n.2.1.2 39 rfl
  have m9 := n.2.2.2.1
  exact h s1 z (S.go ⟨n.1, n.2.2.2.2.2.2⟩ P1 (fun _ => n39) (by omega)) (KP.pf P1) (MV.pf P1) n.2.1.1 n39
theorem sq_next {e : Int} (hd : 5 ≤ d) (S : SQ e σ0 σ) (h7 : σ.1 7 = 1 ∨ σ.1 7 = 2) {f : RS → Int → RO} (h : ∀ s r, SQ (e - 2) σ0 s → KP 0 σ s → MV σ s → s.2 = σ.2 → s.1 39 = σ.1 39 → σ.1 9 < s.1 9 → rsf (f s r) Q) : rsf (rf_cl (RF d 10 σ []) f) Q := by
  refine rsf_cl (q_step hd S.1 h7) (fun s1 z f1 => ?_)
  obtain ⟨L1, P1, F1, g1⟩ := f1
  have n39 := F1.2 39 rfl
  exact h s1 z (S.go L1 P1 (fun _ => n39) (by omega)) (KP.pf P1) (MV.pf P1) F1.1 n39 g1
theorem TM.ag {k : Nat} {l m : Int} (T : TM σ k l m) (A : AG σ.2 s.2 0 (σ.1 39)) (e : s.1 k = σ.1 k) (h : m ≤ σ.1 39) : TM s k l m := by
  unfold TM at *
  rw [e]
  have r := T.rg
  exact T.ag (A.sub r.1 h)
theorem NM1.ag {k : Nat} {l m : Int} (T : NM1 σ k l m) (A : AG σ.2 s.2 0 (σ.1 39)) (e : s.1 k = σ.1 k) (h0 : 0 ≤ l) (h : m ≤ σ.1 39) : NM1 s k l m := by
  obtain ⟨t1, t2, t3⟩ := T
  exact ⟨by rw [e]; exact t1, by rw [e]; exact t2, by rw [e]; exact t3.ag A (by omega) (by omega)⟩
/-- what reading a statement comes to -/
def RD (σ s : RS) : Prop := SQ 1 σ s ∧ (s.1 72 = 0 → SQ 0 σ s ∧ σ.1 9 < s.1 9 ∧ (σ.1 15 ≠ 0 → SO s (σ.1 39) (s.1 39)))
theorem SQ.refl (L : LZ σ) : SQ 0 σ σ := ⟨L, PF.refl.s, fun _ => rfl, by omega⟩
theorem q_readTold (hd : 132 ≤ d) (L : LZ σ) (B : BU σ) (h76 : σ.1 76 = -1) (h78 : σ.1 78 = -1) (h79 : σ.1 79 = -1) : rsf (RF d 26 σ []) (fun s _ => RD σ s) := by
  rw [rq_readTold (by omega)]
  refine rsf_fin ?_
  unfold pf_readTold_0
  have S0 := SQ.refl L
  have B0 := B.1
  refine sq_nm (by omega) S0 B (by decide) ⟨by omega, by omega⟩ (fun s3 S3 K3 M3 g3 => ?_)
  refine rsf_gi (fun z4 q4 => rsf_if (fun c4 => ?_) (fun c4 => ?_))
  · obtain ⟨S3', l3, G3⟩ := g3 (q4.trans c4)
    have k15 := K3 15 (by omega) (by omega)
    have k78 := K3 78 (by omega) (by omega)
    have k79 := K3 79 (by omega) (by omega)
    have k76 := K3 76 (by omega) (by omega)
    have N3 : σ.1 15 ≠ 0 → NM1 s3 80 (σ.1 39) (σ.1 39 + 1) ∧ s3.1 39 = σ.1 39 + 1 := fun c => by
      obtain ⟨q1, q2, q3⟩ := G3 c
      exact ⟨⟨by omega, by omega, q3⟩, q2⟩
    refine rsf_cl (q_isSign (by omega) S3.1.1.1) (fun s6 z7 f7 => ?_)
    obtain ⟨e6, f7⟩ := f7
    subst e6
    refine rsf_if (fun c7 => ?_) (fun c7 => ?_)
    · refine sq_need (by omega) S3' (fun s9 z10 S9 K9 M9 E9 n9 => ?_)
      refine sq_tm (by omega) S9 B (by omega) ⟨by omega, by omega⟩ (fun s13 S13 K13 M13 _ g13 => ?_)
      refine rsf_some ⟨⟨by decide, by decide⟩, S13.le (by omega), fun q => ?_⟩
      obtain ⟨S13', T13⟩ := g13 q
      have M := M9.trans M13
      have m1 := M.1.1
      refine ⟨S13'.le (by omega), by omega, fun c => ?_⟩
      obtain ⟨N3, e39⟩ := N3 c
      refine Or.inl ⟨?_, N3.ag M.2.1 ?_ B0 (by omega), Or.inr (Or.inl ⟨?_, ?_⟩)⟩
      · rw [K13 76 (by omega) (by omega), K9 76 (by omega) (by omega), k76, h76]
      · rw [K13 80 (by omega) (by omega), K9 80 (by omega) (by omega)]
      · rw [K13 79 (by omega) (by omega), K9 79 (by omega) (by omega), k79, h79]
      · have t := T13 (by rw [K9 15 (by omega) (by omega), k15]; exact c)
        rw [n9, e39] at t; exact t
    · have h7 : s6.1 7 = 2 := by rcases f7 with q | q <;> omega
      refine sq_next (by omega) S3' (Or.inr h7) (fun s14 z15 S14 K14 M14 E14 n14 g14 => ?_)
      refine sq_tm (by omega) S14 B (by omega) ⟨by omega, by omega⟩ (fun s18 S18 K18 M18 _ g18 => ?_)
      have M := M14.trans M18
      have m1 := M.1.1
      refine rsf_gi (fun z19 q19 => rsf_if (fun c19 => ?_) (fun c19 => ?_))
      · exact rsf_some ⟨⟨by decide, by decide⟩, S18.le (by omega), fun q => absurd (q19.symm.trans q) c19⟩
      · obtain ⟨S18', T18⟩ := g18 (by omega)
        have a76 : s18.1 76 = -1 := by rw [K18 76 (by omega) (by omega), K14 76 (by omega) (by omega), k76, h76]
        have a78 : s18.1 78 = -1 := by rw [K18 78 (by omega) (by omega), K14 78 (by omega) (by omega), k78, h78]
        have a80 : s18.1 80 = s6.1 80 := by rw [K18 80 (by omega) (by omega), K14 80 (by omega) (by omega)]
        have a15 : s14.1 15 = σ.1 15 := by rw [K14 15 (by omega) (by omega), k15]
        have b15 : s18.1 15 = σ.1 15 := by rw [K18 15 (by omega) (by omega), a15]
        have X : σ.1 15 ≠ 0 → NM1 s18 80 (σ.1 39) (σ.1 39 + 1) ∧ TM s18 79 (σ.1 39 + 1) (s18.1 39) := fun c => by
          obtain ⟨N3, e39⟩ := N3 c
          have t := T18 (by rw [a15]; exact c)
          rw [n14, e39] at t
          exact ⟨N3.ag M.2.1 a80 B0 (by omega), t⟩
        refine rsf_cl (q_isSign (by omega) S18.1.1.1) (fun s21 z22 f22 => ?_)
        obtain ⟨e21, f22⟩ := f22
        subst e21
        refine rsf_if (fun c22 => ?_) (fun c22 => ?_)
        · refine rsf_some ⟨⟨by decide, by decide⟩, S18.le (by omega), fun q => ⟨S18'.le (by omega), by omega, fun c => ?_⟩⟩
          obtain ⟨X1, X2⟩ := X c
          exact Or.inl ⟨a76, X1, Or.inl ⟨a78, X2⟩⟩
        · have h7' : s21.1 7 = 2 := by rcases f22 with q | q <;> omega
          refine sq_next (by omega) S18' (Or.inr h7') (fun s24 z25 S24 K24 M24 E24 n24 g24 => ?_)
          refine sq_tm (by omega) S24 B (by omega) ⟨by omega, by omega⟩ (fun s28 S28 K28 M28 _ g28 => ?_)
          have M' := M24.trans M28
          have m2 := M'.1.1
          refine rsf_some ⟨⟨by decide, by decide⟩, S28.le (by omega), fun q => ?_⟩
          obtain ⟨S28', T28⟩ := g28 q
          refine ⟨S28'.le (by omega), by omega, fun c => ?_⟩
          obtain ⟨X1, X2⟩ := X c
          obtain ⟨_, e39⟩ := N3 c
          have le := M.1.2
          have t := T28 (by rw [K24 15 (by omega) (by omega), b15]; exact c)
          rw [n24] at t
          refine Or.inl ⟨?_, X1.ag M'.2.1 ?_ B0 (by omega), Or.inr (Or.inr ⟨_, X2.ag M'.2.1 ?_ (Int.le_refl _), t⟩)⟩
          · rw [K28 76 (by omega) (by omega), K24 76 (by omega) (by omega), a76]
          · rw [K28 80 (by omega) (by omega), K24 80 (by omega) (by omega)]
          · rw [K28 79 (by omega) (by omega), K24 79 (by omega) (by omega)]
  · exact rsf_some ⟨⟨by decide, by decide⟩, S3.le (by omega), fun q => absurd (q4.symm.trans q) c4⟩
end RTP
