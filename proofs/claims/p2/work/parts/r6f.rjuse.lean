section RJU
variable {σ σ' σ'' σ0 σh s : RS} {d : Nat} {S V T U A : Int → Prop} {r w w' lo hi sc ch l R : Int} {Q : RS → Int → Prop}
theorem TR.inv7 {a : Nat → Nat → Int} {h : Nat} {t lo hi : Int} (T : TR a h t lo hi) (k7 : a 30 t.toNat = 7) : ∃ (k : Nat) (x y m : Int), TR a h x lo m ∧ TR a k y m t ∧ k < h ∧ a 32 t.toNat = x ∧ a 33 t.toNat = y ∧ a 38 t.toNat = t ∧ hi = t + 1 := by
  obtain ⟨n, T⟩ := T
  cases n with
  | zero => exact False.elim T
  | succ n =>
    rcases T with ⟨h0, q, e1, e2⟩ | ⟨k, x, y, m, T1, T2, hk, e1, e2, e3, e4, e5⟩ | ⟨k, j, x, y, m, T1, T2, hk, hj, e1, e0, e2, e3, e4, e5⟩ | ⟨k, j, x, y, m, h0, T1, T2, hk, hj, e1, e2, e3, e4, e5, e6, e7⟩
    · have := q.1; omega
    · exact ⟨k, x, y, m, ⟨n, T1⟩, ⟨n, T2⟩, hk, e2, e3, e4, e5⟩
    · omega
    · omega
/-- the uses that wait: what they are applied to, from the inner to the outer -/
def SPc (σ : RS) (h : Nat) (base n hi : Int) : Nat → Int → Int → Prop
  | 0, x, m => x = n ∧ m = hi
  | i + 1, x, m => ∃ (k : Nat) (t y : Int), σ.2 58 (base + i).toNat = t ∧ TR σ.2 k y m t ∧ k < h ∧ σ.2 30 t.toNat = 7 ∧ σ.2 32 t.toNat = x ∧ σ.2 33 t.toNat = y ∧ SPc σ h base n hi i t (t + 1)
theorem SPc.le {h : Nat} {base n : Int} : ∀ {i : Nat} {x m : Int}, SPc σ h base n hi i x m → m + 2 * i ≤ hi := by
  intro i
  induction i with
  | zero => intro x m P; have := P.2; omega
  | succ i ih =>
    intro x m P
    obtain ⟨k, t, y, _, T, _, _, _, _, P⟩ := P
    have := ih P
    have := T.rg
    omega
theorem SPc.jf {h : Nat} {base n l' h' : Int} (F : JF l' h' sc ch σ s) (hb : 0 ≤ base) (h39 : hi ≤ σ.1 39) : ∀ {i : Nat} {x m : Int}, base + i ≤ ch → h' ≤ m → SPc σ h base n hi i x m → SPc s h base n hi i x m := by
  intro i
  induction i with
  | zero => intro x m _ _ P; exact P
  | succ i ih =>
    intro x m hc hm P
    obtain ⟨k, t, y, e0, T, hk, e1, e2, e3, P⟩ := P
    have g := T.rg
    have q := P.le
    obtain ⟨f30, f31, f32, f33, f38⟩ := F.2.2.2.1 t (by omega) (by omega) (fun z => by omega)
    exact ⟨k, t, y, by rw [F.2.2.2.2.2.2.2.1 _ (by omega) (by omega)]; exact e0, T.ag (F.ag (by omega) (by omega) (Or.inr (by omega))), hk, f30.trans e1, f32.trans e2, f33.trans e3, ih (by omega) (by omega) P⟩
/-- what stays true while a use is judged -/
def UC (S : Int → Prop) (h : Nat) (lo hi c : Int) (σ0 : RS) : Prop := σ0.1 15 ≠ 0 ∧ (8 ≤ lo ∧ hi ≤ σ0.1 39) ∧ SC S lo hi σ0 ∧ (0 ≤ σ0.1 43 ∧ 2 * σ0.1 43 + h ≤ 80) ∧ (0 ≤ σ0.1 59 ∧ 2 * σ0.1 59 + (hi - lo) ≤ 8000) ∧ WCs σ0 S none0 c ∧ (∀ x, SA σ0 x → S x ∨ Dom σ0.2 c x)
theorem UC.pre {h k : Nat} {y m t c : Int} (H : UC S h lo hi c σ0) (F : JF lo hi (σ0.1 43) (σ0.1 59) σ0 σ) (h43 : σ.1 43 = σ0.1 43) (hk : k ≤ h) (T : TR σ.2 k y m t) (hl : lo ≤ m ∧ t ≤ hi) (M : M0 (R + (t - m)) σ) (hR : 0 ≤ R) (h51 : σ.1 51 = 0) (h59 : 0 ≤ σ.1 59 ∧ 2 * σ.1 59 + (t - m) ≤ 8000) : JPre R S k y m t c σ := by
  obtain ⟨p15, ⟨p8, p39⟩, pS, p43, p59, pC, pA⟩ := H
  have l39 := F.2.2.1.1
  refine ⟨⟨M, hR⟩, by rw [F.1 15 rfl]; exact p15, h51, T, ⟨by omega, by omega⟩, (pS.jf F (Int.le_refl _) (Int.le_refl _) h43 (Int.le_refl _) (fun _ q => q)).nar hl.1 hl.2, ⟨by omega, by omega⟩, h59, pC.jf F (fun _ q => q), fun x hx => ?_⟩
  rcases pA x ((SA.jf F h43 (Int.le_refl _)).mp hx) with q | q
  · exact Or.inl q
  · exact Or.inr (q.jf pC F)
theorem q_use68 {h : Nat} {n c : Int} (JK : ∀ k, k < h → JC k) (hd : 6 * h + 226 ≤ d) (hR : 0 ≤ R) (H : UC S h lo hi c σ0) (tot : Int) : ∀ (f i : Nat) {σ : RS} {x m x5 : Int}, i + 2 ≤ f → M0 (R + (hi - m)) σ → JF lo hi (σ0.1 43) (σ0.1 59) σ0 σ → σ.1 43 = σ0.1 43 → σ.1 59 = σ0.1 59 + tot → (i : Int) ≤ tot → 2 * (tot - i) + 1 ≤ m - lo → SPc σ h (σ0.1 59) n hi i x m → (σ.1 72 = 0 → σ.1 51 = 0 ∧ WSs σ x (SA σ0) ∧ TY S σ) → x5 = σ0.1 59 + i - 1 → rsf (pf_judgeUse_68 (RF d) f σ c (σ0.1 59) x5) (fun s b => inR b ∧ JPost R S lo hi σ0 n s) := by
  intro f
  have H' := H
  obtain ⟨p15, ⟨p8, p39⟩, pS, p43, p59, pC, pA⟩ := H'
  induction f with
  | zero => intro i σ x m x5 h; omega
  | succ f ih =>
    intro i σ x m x5 hf M F h43 h59 hi' hsz P hgood hx5
    have hle := P.le
    unfold pf_judgeUse_68
    have fin : (σ.1 72 = 0 → i = 0) → rsf (rf_pi σ 59 (σ0.1 59) (fun s3 => some (s3, 0))) (fun s b => inR b ∧ JPost R S lo hi σ0 n s) := fun hi0 => by
      refine rsf_pi (fun s3 w3 => ?_)
      have M3 := M.pj w3 (by omega) ⟨by omega, by omega⟩
      have F3 : JF lo hi (σ0.1 43) (σ0.1 59) σ0 s3 := F.trans (JF.p w3 (by omega))
      refine rsf_some ⟨⟨by decide, by decide⟩, M3.le (by omega) hR, F3, ⟨by rw [rs_i_n w3 (by decide)]; exact h43, rs_i_e w3⟩, fun q => ?_⟩
      rw [rs_i_n w3 (by decide)] at q
      obtain ⟨g1, g2, g3⟩ := hgood q
      have i0 := hi0 q
      subst i0
      have ex : x = n := P.1
      subst ex
      have Fp : JF 0 0 0 0 σ s3 := JF.p w3 (by omega)
      refine ⟨by rw [rs_i_n w3 (by decide)]; exact g1, g2.jf Fp, ?_, ?_⟩
      · rw [rs_i_n w3 (by decide)]; exact g3.1.jf Fp
      · rw [rs_i_n w3 (by decide)]; exact g3.2
    refine rsf_gi (fun z1 q1 => rsf_if (fun c1 => fin (fun q => absurd (q1.symm.trans q) c1)) (fun c1 => ?_))
    refine rsf_if (fun c2 => fin (fun _ => by omega)) (fun c2 => ?_)
    cases i with
    | zero => omega
    | succ i =>
      obtain ⟨g51, gx, gt⟩ := hgood (by omega)
      obtain ⟨k, t, y, e0, T, hk, e1, e2, e3, P'⟩ := P
      have g := T.rg
      have hle' := P'.le
      have l39 := F.2.2.1.1
      refine rsf_rd ⟨by omega, by show _ < ((4000 : Nat) : Int); omega⟩ (fun z6 q6 => ?_)
      have e5' : x5 = σ0.1 59 + (i : Int) := by omega
      have q6' : z6 = t := by rw [← q6, ← e0, e5']
      rw [q6']
      have rx := (WS.out gx).1
      have PP : JPre (R + (hi - (t + 1)) + 1) S k y m t c σ := H.pre F h43 (by omega) T ⟨by omega, by omega⟩ (M.le (by omega) (by omega)) (by omega) g51 ⟨by omega, by omega⟩
      refine rsf_cl (q_applied (JK k hk) (by omega) PP (by omega) gt ⟨by omega, by omega⟩ e1 e3 (by rw [e2]; omega)) (fun s7 z8 u => ?_)
      obtain ⟨M7, F7, u7, g7⟩ := u
      have F7' : JF lo hi (σ0.1 43) (σ0.1 59) σ s7 := F7.wide (by omega) (by omega) (by omega) (by omega)
      refine rsf_ck ⟨by omega, by omega⟩ (fun z9 q9 => ?_)
      have P7 : SPc s7 h (σ0.1 59) n hi i t (t + 1) := P'.jf F7 (by omega) (by omega) (by omega) (by omega)
      refine ih i (by omega) M7 (F.trans F7') (by omega) (by omega) (by omega) (by omega) P7 (fun q => ?_) (by omega)
      obtain ⟨y1, y2, y3⟩ := g7 q
      obtain ⟨f30, f31, f32, f33, f38⟩ := F7.2.2.2.1 t (by omega) (by omega) (fun z => by omega)
      have l7 := F7.2.2.1.1
      refine ⟨y1, ?_, y3⟩
      refine WS.mk ⟨⟨by omega, by omega⟩, Or.inr (Or.inr (Or.inr (Or.inl ⟨f30.trans e1, ?_, ?_⟩)))⟩
      · rw [f32, e2]; exact gx.jf F7
      · rw [f33, e3]; exact y2.sub (fun z hz => (SA.jf F h43 (Int.le_refl _)).mp hz)
theorem JF.a58 {i x : Int} (q : s = rs_a σ 58 i x) (hi' : ch ≤ i) : JF lo hi sc ch σ s := by
  have e := rs_a_1 q
  have ek := fun k (h : k ≠ 58) => rs_a_k q h
  refine ⟨fun j _ => by rw [e], fun k hk => ek k (by rintro rfl; cases hk), by rw [e]; exact ⟨Int.le_refl _, Int.le_refl _⟩, fun p _ _ _ => ?_, fun p _ _ => ?_, fun p _ _ => ?_, fun p _ _ => ?_, fun p p0 p1 => rs_a_i q (by omega), fun _ => by rw [e], by rw [e]⟩
  · rw [ek 30 (by decide), ek 31 (by decide), ek 32 (by decide), ek 33 (by decide), ek 38 (by decide)]; exact ⟨rfl, rfl, rfl, rfl, rfl⟩
  · rw [ek 44 (by decide), ek 45 (by decide), ek 46 (by decide), ek 47 (by decide)]; exact ⟨rfl, rfl, rfl, rfl⟩
  · rw [ek 40 (by decide), ek 41 (by decide)]; exact ⟨rfl, rfl⟩
  · rw [ek 42 (by decide)]
theorem M0.a58 {i x : Int} (M : M0 r σ) (q : s = rs_a σ 58 i x) (hx : inR x) (h0 : 0 ≤ i) : M0 r s := by
  have e := rs_a_1 q
  exact M.jf (JF.a58 (lo := 0) (hi := 0) (sc := 0) (ch := 0) q h0) (M.1.a q hx) (M.2.1.j (fun j _ => by rw [e])) (M.2.2.2.2.eq (rs_a_k q (by decide)) (rs_a_k q (by decide)))
/-- judging, at trees of height k that are no uses -/
def JN (k : Nat) : Prop := ∀ {d : Nat} {R n lo hi c : Int} {S : Int → Prop} {σ : RS}, 6 * k + 228 ≤ d → JPre R S k n lo hi c σ → σ.2 30 n.toNat ≠ 7 → rsf (RF d 49 σ [n, c]) (fun s _ => JPost R S lo hi σ n s)
theorem q_use8 {h : Nat} {n c : Int} (JK : ∀ k, k < h → JC k) (J : JN h) (hd : 6 * h + 228 ≤ d) (hR : 0 ≤ R) (H : UC S h lo hi c σ0) : ∀ (f i : Nat) {σ : RS} {x m : Int}, m - lo + 2 ≤ (f : Int) → M0 (R + (hi - lo)) σ → JF lo hi (σ0.1 43) (σ0.1 59) σ0 σ → σ.1 43 = σ0.1 43 → σ.1 59 = σ0.1 59 + i → σ.1 51 = 0 → TR σ.2 h x lo m → SPc σ h (σ0.1 59) n hi i x m → rsf (pf_judgeUse_8 (RF d) f σ c (σ0.1 59) x) (fun s b => inR b ∧ JPost R S lo hi σ0 n s) := by
  intro f
  have H' := H
  obtain ⟨p15, ⟨p8, p39⟩, pS, p43, p59, pC, pA⟩ := H'
  induction f with
  | zero => intro i σ x m h _ _ _ _ _ T; have := T.rg; omega
  | succ f ih =>
    intro i σ x m hf M F h43 h59 h51 T P
    have hle := P.le
    have g := T.rg
    have l39 := F.2.2.1.1
    obtain ⟨b1, b2, b3, b4, b5, b6, b7, b8, b9, b10, b11⟩ := M.2.1
    unfold pf_judgeUse_8
    refine rsf_rd ⟨by omega, by show _ < ((140000 : Nat) : Int); omega⟩ (fun z1 q1 => rsf_if (fun c1 => ?_) (fun c1 => ?_))
    · have PP : JPre (R + (hi - m)) S h x lo m c σ := H.pre F h43 (Nat.le_refl _) T ⟨by omega, by omega⟩ (M.le (by omega) (by omega)) (by omega) h51 ⟨by omega, by omega⟩
      refine rsf_cl (J hd PP (by omega)) (fun s3 z4 u => ?_)
      obtain ⟨M3, F3, u3, g3⟩ := u
      refine rsf_gi (fun z5 q5 => rsf_ck ⟨by omega, by omega⟩ (fun z6 q6 => ?_))
      have F3' : JF lo hi (σ0.1 43) (σ0.1 59) σ s3 := F3.wide (by omega) (by omega) (by omega) (by omega)
      refine q_use68 JK (by omega) hR H i 200000 i ?_ M3 (F.trans F3') (by omega) (by omega) (by omega) (by omega) (P.jf F3 (by omega) (by omega) (by omega) (by omega)) (fun q => ?_) (by omega)
      · omega
      · obtain ⟨y1, y2, y3⟩ := g3 q
        exact ⟨y1, y2.sub (fun z hz => (SA.jf F h43 (Int.le_refl _)).mp hz), y3⟩
    · have k7 : σ.2 30 x.toNat = 7 := by omega
      obtain ⟨k, x1, y1, m1, T1, T2, hk, e2, e3, e4, e5⟩ := T.inv7 k7
      have r1 := T1.rg
      have r2 := T2.rg
      refine rsf_gi (fun z7 q7 => ?_)
      refine rsf_wr ⟨by omega, by show _ < ((4000 : Nat) : Int); omega⟩ (fun s8 w8 => ?_)
      have e8 := rs_a_1 w8
      have ek := fun k (h : k ≠ 58) => rs_a_k w8 h
      have M8 := M.a58 w8 ⟨by omega, by omega⟩ (by omega)
      refine rsf_gi (fun z9 q9 => ?_)
      have q9' : z9 = z7 := by rw [← q9, e8]; exact q7
      refine rsf_ck ⟨by omega, by omega⟩ (fun z10 q10 => rsf_pi (fun s11 w11 => ?_))
      have M11 := M8.pj w11 (by omega) ⟨by omega, by omega⟩
      have e11 := rs_i_2 w11
      have n11 : ∀ j, j ≠ 59 → s11.1 j = σ.1 j := fun j hj => by rw [rs_i_n w11 hj, e8]
      have ek' : ∀ k, k ≠ 58 → s11.2 k = σ.2 k := fun k h => by rw [e11]; exact ek k h
      have Fs : JF 0 0 0 (σ.1 59) σ s11 := (JF.a58 w8 (by omega)).trans (JF.p w11 (by omega))
      have Fl : JF lo hi (σ0.1 43) (σ0.1 59) σ s11 := (JF.a58 w8 (by omega)).trans (JF.p w11 (by omega))
      have n39 := n11 39 (by decide)
      refine rsf_rd ⟨by omega, by show _ < ((140000 : Nat) : Int); omega⟩ (fun z12 q12 => ?_)
      rw [ek' 32 (by decide)] at q12
      have q12' : z12 = x1 := by rw [← q12]; exact e2
      rw [q12']
      refine ih (i + 1) (by omega) M11 (F.trans Fl) (by rw [n11 43 (by decide)]; exact h43) (by rw [rs_i_e w11]; omega) (by rw [n11 51 (by decide)]; exact h51) (T1.ag (Fs.ag (by omega) (by omega) (Or.inr (by omega)))) ?_
      refine ⟨k, x, y1, ?_, T2.ag (Fs.ag (by omega) (by omega) (Or.inr (by omega))), hk, by rw [ek' 30 (by decide)]; exact k7, by rw [ek' 32 (by decide)]; exact e2, by rw [ek' 33 (by decide)]; exact e3, ?_⟩
      · rw [e11]
        have : (σ0.1 59 + (i : Int)).toNat = z7.toNat := by omega
        rw [this]; exact rs_a_e w8
      · rw [e5] at P
        exact P.jf Fs (by omega) (by omega) (by omega) (by omega)
/-- a use -/
theorem q_judgeUse {h : Nat} {n c : Int} (JK : ∀ k, k < h → JC k) (J : JN h) (hd : 6 * h + 229 ≤ d) (P : JPre R S h n lo hi c σ) : rsf (RF d 52 σ [n, c]) (fun s _ => JPost R S lo hi σ n s) := by
  rw [rq_judgeUse (by omega)]
  refine rsf_fin ?_
  unfold pf_judgeUse_0
  obtain ⟨⟨M, hR⟩, p15, p51, pT, ⟨p8, p39⟩, pS, p43, p59, pC, pA⟩ := P
  have g := pT.rg
  refine rsf_gi (fun z1 q1 => ?_)
  subst q1
  exact q_use8 JK J (by omega) hR ⟨p15, ⟨p8, p39⟩, pS, p43, p59, pC, pA⟩ 200000 0 (by omega) M JF.refl rfl (by omega) p51 pT ⟨rfl, rfl⟩
end RJU
