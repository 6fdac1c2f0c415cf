section CIN
variable {bd : cBd} {b d : Nat} {σ σ1 σ2 σ3 : CS} {Q : CS → Nat → Int → Prop} {k s o z : Nat}
/-- a house that is being made: its first n cells, their fields -/
def cs_t (σ : CS) (n : Nat) (F : Nat → Nat → Int) : CS := (fun a => if a < c_hp σ then c_tg σ a else if a < c_hp σ + n then gT.getD (a - c_hp σ) 0 else c_tg σ a, fun a f => if a < c_hp σ then c_pv σ a f else if a < c_hp σ + n then F (a - c_hp σ) f else c_pv σ a f, fun a => if a < c_hp σ then c_ln σ a else if a < c_hp σ + n then gL.getD (a - c_hp σ) 0 else c_ln σ a, c_hp σ + n, c_sl σ + (gL.take n).sum)
def iu (F : Nat → Nat → Int) (i f : Nat) (y : Int) : Nat → Nat → Int := fun a g => if a = i ∧ g = f then y else F a g
def iF0 : Nat → Nat → Int := fun i f => if cw_isR (gT.getD i 0) f = true then -1 else 0
variable {n i f : Nat} {F : Nat → Nat → Int} {y v : Int}
theorem ct_hp : c_hp (cs_t σ n F) = c_hp σ + n := rfl
theorem ct_sl : c_sl (cs_t σ n F) = c_sl σ + (gL.take n).sum := rfl
theorem ct_tg (hi : i < n) : c_tg (cs_t σ n F) (c_hp σ + i) = gT.getD i 0 := by
  show (if _ then _ else if _ then _ else _) = _
  rw [if_neg (by omega), if_pos (by omega)]
  congr 1; omega
theorem ct_ln (hi : i < n) : c_ln (cs_t σ n F) (c_hp σ + i) = gL.getD i 0 := by
  show (if _ then _ else if _ then _ else _) = _
  rw [if_neg (by omega), if_pos (by omega)]
  congr 1; omega
theorem ct_pv (hi : i < n) : c_pv (cs_t σ n F) (c_hp σ + i) f = F i f := by
  show (if _ then _ else if _ then _ else _) = _
  rw [if_neg (by omega), if_pos (by omega)]
  congr 1; omega
theorem ct_p (hi : i < n) : cs_p (cs_t σ n F) (c_hp σ + i) f y = cs_t σ n (iu F i f y) := by
  unfold cs_p
  refine Prod.ext rfl (Prod.ext ?_ rfl)
  funext a g
  show (if a = c_hp σ + i then (if g = f then y else c_pv (cs_t σ n F) a g) else c_pv (cs_t σ n F) a g) = c_pv (cs_t σ n (iu F i f y)) a g
  by_cases c : a < c_hp σ
  · rw [if_neg (by omega)]
    show (if _ then _ else _) = (if _ then _ else _)
    rw [if_pos c, if_pos c]
  · by_cases c2 : a < c_hp σ + n
    · obtain ⟨j, rfl⟩ : ∃ j, a = c_hp σ + j := ⟨a - c_hp σ, by omega⟩
      rw [ct_pv (by omega), ct_pv (by omega)]
      unfold iu
      by_cases c3 : j = i
      · subst c3
        by_cases c4 : g = f
        · rw [if_pos rfl, if_pos c4, if_pos ⟨rfl, c4⟩]
        · rw [if_pos rfl, if_neg c4, if_neg (fun q => c4 q.2)]
      · rw [if_neg (by omega), if_neg (fun q => c3 q.1)]
    · rw [if_neg (by omega)]
      show (if _ then _ else if _ then _ else _) = (if _ then _ else if _ then _ else _)
      rw [if_neg c, if_neg c2, if_neg c, if_neg c2]
theorem gL_take (hn : n < 24) : (gL.take (n + 1)).sum = (gL.take n).sum + gL.getD n 0 := (by decide : ∀ n, n < 24 → (gL.take (n + 1)).sum = (gL.take n).sum + gL.getD n 0) n hn
theorem ct_n {t N : Nat} (hn : n < 24) (ht : gT.getD n 0 = t) (hl : gL.getD n 0 = N) (hF : ∀ f, F n f = if cw_isR t f = true then -1 else 0) : cs_n (cs_t σ n F) t N = cs_t σ (n + 1) F := by
  unfold cs_n
  have e : c_sl (cs_t σ n F) + N = c_sl (cs_t σ (n + 1) F) := by rw [ct_sl, ct_sl, gL_take hn, hl]; omega
  refine Prod.ext ?_ (Prod.ext ?_ (Prod.ext ?_ (Prod.ext rfl e)))
  · funext a
    show (if a = c_hp σ + n then t else c_tg (cs_t σ n F) a) = c_tg (cs_t σ (n + 1) F) a
    by_cases c : a = c_hp σ + n
    · rw [if_pos c, c, ct_tg (by omega), ht]
    · rw [if_neg c]
      show (if _ then _ else if _ then _ else _) = (if _ then _ else if _ then _ else _)
      by_cases c1 : a < c_hp σ
      · rw [if_pos c1, if_pos c1]
      · rw [if_neg c1, if_neg c1]
        by_cases c2 : a < c_hp σ + n
        · rw [if_pos c2, if_pos (by omega)]
        · rw [if_neg c2, if_neg (by omega)]
  · funext a g
    show (if a = c_hp σ + n then (if cw_isR t g = true then -1 else 0) else c_pv (cs_t σ n F) a g) = c_pv (cs_t σ (n + 1) F) a g
    by_cases c : a = c_hp σ + n
    · rw [if_pos c, c, ct_pv (by omega), hF]
    · rw [if_neg c]
      show (if _ then _ else if _ then _ else _) = (if _ then _ else if _ then _ else _)
      by_cases c1 : a < c_hp σ
      · rw [if_pos c1, if_pos c1]
      · rw [if_neg c1, if_neg c1]
        by_cases c2 : a < c_hp σ + n
        · rw [if_pos c2, if_pos (by omega)]
        · rw [if_neg c2, if_neg (by omega)]
  · funext a
    show (if a = c_hp σ + n then N else c_ln (cs_t σ n F) a) = c_ln (cs_t σ (n + 1) F) a
    by_cases c : a = c_hp σ + n
    · rw [if_pos c, c, ct_ln (by omega), hl]
    · rw [if_neg c]
      show (if _ then _ else if _ then _ else _) = (if _ then _ else if _ then _ else _)
      by_cases c1 : a < c_hp σ
      · rw [if_pos c1, if_pos c1]
      · rw [if_neg c1, if_neg c1]
        by_cases c2 : a < c_hp σ + n
        · rw [if_pos c2, if_pos (by omega)]
        · rw [if_neg c2, if_neg (by omega)]
/-- the room of a house -/
def iRm (bd : cBd) (σ : CS) : Prop := c_hp σ + 24 ≤ bd.1 ∧ c_sl σ + 26000 ≤ bd.2.1 ∧ bd.1 < 1000000
theorem gL_sum (hn : n ≤ 24) : (gL.take n).sum ≤ 26000 := (by decide : ∀ n, n < 25 → (gL.take n).sum ≤ 26000) n (by omega)
theorem it_n {t N : Nat} {K : CS → Int → CO} (hm : iRm bd σ) (hn : n < 24) (ht : gT.getD n 0 = t) (hl : gL.getD n 0 = N) (hF : ∀ f, F n f = if cw_isR t f = true then -1 else 0) (h : sf (K (cs_t σ (n + 1) F) ((c_hp σ + n : Nat) : Int)) Q) : sf (cc_n (cs_t σ n F) bd t N K) Q := by
  have h1 := gL_take hn
  have h2 := gL_sum (n := n + 1) (by omega)
  refine sf_n ⟨by rw [ct_hp]; have := hm.1; omega, by rw [ct_sl]; have := hm.2.1; omega, by rw [ct_hp]; have := hm.1; have := hm.2.2; omega⟩ ?_
  rw [ct_n hn ht hl hF]
  exact h
theorem it_na {t : Nat} {x : Int} {K : CS → Int → CO} (hm : iRm bd σ) (hn : n < 24) (ht : gT.getD n 0 = t) (hl : gL.getD n 0 = x.toNat) (hx : 0 ≤ x ∧ x ≤ 100000) (hF : ∀ f, F n f = if cw_isR t f = true then -1 else 0) (h : sf (K (cs_t σ (n + 1) F) ((c_hp σ + n : Nat) : Int)) Q) : sf (cc_na (cs_t σ n F) bd t x K) Q := by
  have h1 := gL_take hn
  have h2 := gL_sum (n := n + 1) (by omega)
  refine sf_na ⟨hx.1, by omega⟩ ⟨by rw [ct_hp]; have := hm.1; omega, by rw [ct_sl]; have := hm.2.1; omega, by rw [ct_hp]; have := hm.1; have := hm.2.2; omega⟩ ?_
  rw [ct_n hn ht hl hF]
  exact h
theorem it_p {t : Nat} {K : CS → CO} (hi : i < n) (ht : gT.getD i 0 = t) (h : sf (K (cs_t σ n (iu F i f y))) Q) : sf (cc_p (cs_t σ n F) t f ((c_hp σ + i : Nat) : Int) y K) Q := by
  refine wpN ((ct_tg hi).trans ht) (fun σ1 w1 => ?_)
  rw [ct_p hi] at w1
  rw [w1]; exact h
theorem it_t {t : Nat} {K : CO} (hi : i < n) (ht : gT.getD i 0 = t) (h : sf K Q) : sf (cc_t (cs_t σ n F) t ((c_hp σ + i : Nat) : Int) K) Q := wtN ((ct_tg hi).trans ht) h
theorem it_g {t : Nat} {K : Int → CO} (hi : i < n) (ht : gT.getD i 0 = t) (hv : F i f = v) (h : sf (K v) Q) : sf (cc_g (cs_t σ n F) t f ((c_hp σ + i : Nat) : Int) K) Q := wgF ((ct_tg hi).trans ht) ((ct_pv hi).trans hv) h
theorem it_l {t m : Nat} {K : Int → CO} (hi : i < n) (ht : gT.getD i 0 = t) (hl : gL.getD i 0 = m) (hm : m ≤ 100000) (h : sf (K (m : Int)) Q) : sf (cc_l (cs_t σ n F) t ((c_hp σ + i : Nat) : Int) K) Q := wlN ((ct_tg hi).trans ht) ((ct_ln hi).trans hl) (by omega) (fun z hz => by rw [hz]; exact h)
theorem ci_b {p : CO} {K : CS → CO} (h : sf p (fun σ' kd r => inR r ∧ kd = 0 ∧ sf (K σ') Q)) : sf (cc_ci (cc_fin p) K) Q := sf_ci (sf_fin h) (fun _ _ _ q => q)
theorem rc_X10_init_d {d : Nat} {σ : CS} {a0 : Int} (h : 6 ≤ d) : RC bd d 29 σ [a0] = cc_fin (pc_X10_init_0 (RC bd (d - 1)) bd σ a0) := by
  obtain ⟨d, rfl⟩ : ∃ d0, d = d0 + 1 := ⟨d - 1, by omega⟩
  exact rc_X10_init (by omega)
theorem rc_X0_init_d {d : Nat} {σ : CS} {a0 : Int} (h : 6 ≤ d) : RC bd d 19 σ [a0] = cc_fin (pc_X0_init_0 (RC bd (d - 1)) bd σ a0) := by
  obtain ⟨d, rfl⟩ : ∃ d0, d = d0 + 1 := ⟨d - 1, by omega⟩
  exact rc_X0_init (by omega)
theorem rc_X5_init_d {d : Nat} {σ : CS} {a0 a1 : Int} (h : 6 ≤ d) : RC bd d 101 σ [a0, a1] = cc_fin (pc_X5_init_0 (RC bd (d - 1)) bd σ a0 a1) := by
  obtain ⟨d, rfl⟩ : ∃ d0, d = d0 + 1 := ⟨d - 1, by omega⟩
  exact rc_X5_init (by omega)
theorem rc_X4_init_d {d : Nat} {σ : CS} {a0 a1 a2 : Int} (h : 6 ≤ d) : RC bd d 84 σ [a0, a1, a2] = cc_fin (pc_X4_init_0 (RC bd (d - 1)) bd σ a0 a1 a2) := by
  obtain ⟨d, rfl⟩ : ∃ d0, d = d0 + 1 := ⟨d - 1, by omega⟩
  exact rc_X4_init (by omega)
theorem rc_X7_init_d {d : Nat} {σ : CS} {a0 a1 a2 : Int} (h : 6 ≤ d) : RC bd d 117 σ [a0, a1, a2] = cc_fin (pc_X7_init_0 (RC bd (d - 1)) bd σ a0 a1 a2) := by
  obtain ⟨d, rfl⟩ : ∃ d0, d = d0 + 1 := ⟨d - 1, by omega⟩
  exact rc_X7_init (by omega)
theorem rc_X2_init_d {d : Nat} {σ : CS} {a0 a1 a2 a3 a4 : Int} (h : 6 ≤ d) : RC bd d 64 σ [a0, a1, a2, a3, a4] = cc_fin (pc_X2_init_0 (RC bd (d - 1)) bd σ a0 a1 a2 a3 a4) := by
  obtain ⟨d, rfl⟩ : ∃ d0, d = d0 + 1 := ⟨d - 1, by omega⟩
  exact rc_X2_init (by omega)
def iFn (b : Nat) : Nat → Nat → Int := (iu (iu (iu (iu (iu (iu (iu (iu (iu (iu (iu (iu (iu (iu (iu (iu (iu (iu (iu (iu (iu (iu (iu (iu (iu (iu (iu (iu (iu (iu (iu (iu (iu (iu (iu (iu (iu (iu (iu (iu (iu (iu (iu (iu (iu (iu (iu (iu (iu (iu (iu (iu (iu iF0 0 0 ((b + 1 : Nat) : Int)) 2 0 0) 2 1 (-1)) 0 1 ((b + 2 : Nat) : Int)) 4 2 0) 4 0 ((b + 5 : Nat) : Int)) 4 1 ((b + 6 : Nat) : Int)) 3 0 ((b + 4 : Nat) : Int)) 3 1 ((b + 7 : Nat) : Int)) 3 2 ((b + 8 : Nat) : Int)) 3 3 0) 3 4 0) 9 2 0) 9 0 ((b + 10 : Nat) : Int)) 9 1 ((b + 11 : Nat) : Int)) 3 5 ((b + 9 : Nat) : Int)) 3 6 ((b + 12 : Nat) : Int)) 3 7 ((b + 13 : Nat) : Int)) 3 8 ((b + 14 : Nat) : Int)) 3 9 ((b + 15 : Nat) : Int)) 3 10 0) 0 2 ((b + 3 : Nat) : Int)) 16 2 ((b + 17 : Nat) : Int)) 16 3 0) 16 4 5000) 16 5 0) 16 6 ((b + 18 : Nat) : Int)) 16 7 0) 16 0 ((b + 3 : Nat) : Int)) 16 1 ((b + 2 : Nat) : Int)) 0 3 ((b + 16 : Nat) : Int)) 19 5 0) 19 6 0) 19 7 261) 19 8 0) 19 9 0) 19 10 0) 19 0 ((b + 1 : Nat) : Int)) 19 1 ((b + 2 : Nat) : Int)) 19 2 ((b + 20 : Nat) : Int)) 19 3 ((b + 21 : Nat) : Int)) 19 4 ((b + 22 : Nat) : Int)) 0 4 ((b + 19 : Nat) : Int)) 23 4 (-1)) 23 0 ((b + 1 : Nat) : Int)) 23 1 ((b + 3 : Nat) : Int)) 23 2 ((b + 16 : Nat) : Int)) 23 3 ((b + 2 : Nat) : Int)) 0 5 ((b + 23 : Nat) : Int)) 0 6 0) 0 7 0) 0 8 (-1)) 0 9 0)
theorem s_init45 (hd : 20 ≤ d) (hm : iRm bd σ) {Q : CS → Nat → Int → Prop} (kk : sf (cc_cl (RC bd d 20 (cs_t σ 24 (iFn (c_hp σ))) [((c_hp σ + 3 : Nat) : Int), 7]) (fun σ47 z49 => some (σ47, 0, 0))) Q) : sf (pc_X11_init_0 (RC bd d) bd (cs_t σ 1 iF0) ((c_hp σ + 0 : Nat) : Int)) Q := by
  unfold pc_X11_init_0
  refine it_t (i := 0) (by decide) rfl ?_
  refine it_na (n := 1) hm (by decide) rfl rfl ⟨by decide, by decide⟩ (fun _ => rfl) ?_
  refine it_p (i := 0) (by decide) rfl ?_
  refine it_n (n := 2) hm (by decide) rfl rfl (fun _ => rfl) ?_
  refine it_t (i := 2) (by decide) rfl ?_
  rw [rc_X10_init_d (by omega)]
  refine ci_b ?_
  unfold pc_X10_init_0
  refine it_t (i := 2) (by decide) rfl ?_
  refine it_p (i := 2) (by decide) rfl ?_
  refine it_p (i := 2) (by decide) rfl ?_
  refine sf_some ⟨⟨by decide, by decide⟩, rfl, ?_⟩
  refine it_p (i := 0) (by decide) rfl ?_
  refine it_n (n := 3) hm (by decide) rfl rfl (fun _ => rfl) ?_
  refine it_t (i := 3) (by decide) rfl ?_
  rw [rc_X0_init_d (by omega)]
  refine ci_b ?_
  unfold pc_X0_init_0
  refine it_t (i := 3) (by decide) rfl ?_
  refine it_n (n := 4) hm (by decide) rfl rfl (fun _ => rfl) ?_
  refine it_t (i := 4) (by decide) rfl ?_
  rw [rc_X5_init_d (by omega)]
  refine ci_b ?_
  unfold pc_X5_init_0
  refine it_t (i := 4) (by decide) rfl ?_
  refine it_p (i := 4) (by decide) rfl ?_
  refine wck ⟨by decide, by decide⟩ (fun q5 hq5 => ?_)
  obtain rfl : q5 = 96 := hq5
  refine it_na (n := 5) hm (by decide) rfl rfl ⟨by decide, by decide⟩ (fun _ => rfl) ?_
  refine it_p (i := 4) (by decide) rfl ?_
  refine it_na (n := 6) hm (by decide) rfl rfl ⟨by decide, by decide⟩ (fun _ => rfl) ?_
  refine it_p (i := 4) (by decide) rfl ?_
  refine sf_some ⟨⟨by decide, by decide⟩, rfl, ?_⟩
  refine it_p (i := 3) (by decide) rfl ?_
  refine it_na (n := 7) hm (by decide) rfl rfl ⟨by decide, by decide⟩ (fun _ => rfl) ?_
  refine it_p (i := 3) (by decide) rfl ?_
  refine it_na (n := 8) hm (by decide) rfl rfl ⟨by decide, by decide⟩ (fun _ => rfl) ?_
  refine it_p (i := 3) (by decide) rfl ?_
  refine it_p (i := 3) (by decide) rfl ?_
  refine it_p (i := 3) (by decide) rfl ?_
  refine it_n (n := 9) hm (by decide) rfl rfl (fun _ => rfl) ?_
  refine it_t (i := 9) (by decide) rfl ?_
  rw [rc_X5_init_d (by omega)]
  refine ci_b ?_
  unfold pc_X5_init_0
  refine it_t (i := 9) (by decide) rfl ?_
  refine it_p (i := 9) (by decide) rfl ?_
  refine wck ⟨by decide, by decide⟩ (fun q10 hq10 => ?_)
  obtain rfl : q10 = 1200 := hq10
  refine it_na (n := 10) hm (by decide) rfl rfl ⟨by decide, by decide⟩ (fun _ => rfl) ?_
  refine it_p (i := 9) (by decide) rfl ?_
  refine it_na (n := 11) hm (by decide) rfl rfl ⟨by decide, by decide⟩ (fun _ => rfl) ?_
  refine it_p (i := 9) (by decide) rfl ?_
  refine sf_some ⟨⟨by decide, by decide⟩, rfl, ?_⟩
  refine it_p (i := 3) (by decide) rfl ?_
  refine it_na (n := 12) hm (by decide) rfl rfl ⟨by decide, by decide⟩ (fun _ => rfl) ?_
  refine it_p (i := 3) (by decide) rfl ?_
  refine it_na (n := 13) hm (by decide) rfl rfl ⟨by decide, by decide⟩ (fun _ => rfl) ?_
  refine it_p (i := 3) (by decide) rfl ?_
  refine it_na (n := 14) hm (by decide) rfl rfl ⟨by decide, by decide⟩ (fun _ => rfl) ?_
  refine it_p (i := 3) (by decide) rfl ?_
  refine it_na (n := 15) hm (by decide) rfl rfl ⟨by decide, by decide⟩ (fun _ => rfl) ?_
  refine it_p (i := 3) (by decide) rfl ?_
  refine it_p (i := 3) (by decide) rfl ?_
  refine sf_some ⟨⟨by decide, by decide⟩, rfl, ?_⟩
  refine it_p (i := 0) (by decide) rfl ?_
  refine it_n (n := 16) hm (by decide) rfl rfl (fun _ => rfl) ?_
  refine it_g (i := 0) (v := ((c_hp σ + 3 : Nat) : Int)) (by decide) rfl rfl ?_
  refine it_g (i := 0) (v := ((c_hp σ + 2 : Nat) : Int)) (by decide) rfl rfl ?_
  refine it_t (i := 16) (by decide) rfl ?_
  rw [rc_X4_init_d (by omega)]
  refine ci_b ?_
  unfold pc_X4_init_0
  refine it_t (i := 16) (by decide) rfl ?_
  refine it_na (n := 17) hm (by decide) rfl rfl ⟨by decide, by decide⟩ (fun _ => rfl) ?_
  refine it_p (i := 16) (by decide) rfl ?_
  refine it_p (i := 16) (by decide) rfl ?_
  refine it_p (i := 16) (by decide) rfl ?_
  refine it_p (i := 16) (by decide) rfl ?_
  refine it_na (n := 18) hm (by decide) rfl rfl ⟨by decide, by decide⟩ (fun _ => rfl) ?_
  refine it_p (i := 16) (by decide) rfl ?_
  refine it_p (i := 16) (by decide) rfl ?_
  refine it_p (i := 16) (by decide) rfl ?_
  refine it_p (i := 16) (by decide) rfl ?_
  refine sf_some ⟨⟨by decide, by decide⟩, rfl, ?_⟩
  refine it_p (i := 0) (by decide) rfl ?_
  refine it_n (n := 19) hm (by decide) rfl rfl (fun _ => rfl) ?_
  refine it_g (i := 0) (v := ((c_hp σ + 1 : Nat) : Int)) (by decide) rfl rfl ?_
  refine it_g (i := 0) (v := ((c_hp σ + 2 : Nat) : Int)) (by decide) rfl rfl ?_
  refine it_t (i := 19) (by decide) rfl ?_
  rw [rc_X7_init_d (by omega)]
  refine ci_b ?_
  unfold pc_X7_init_0
  refine it_t (i := 19) (by decide) rfl ?_
  refine it_p (i := 19) (by decide) rfl ?_
  refine it_p (i := 19) (by decide) rfl ?_
  refine it_p (i := 19) (by decide) rfl ?_
  refine it_p (i := 19) (by decide) rfl ?_
  refine it_p (i := 19) (by decide) rfl ?_
  refine it_p (i := 19) (by decide) rfl ?_
  refine it_p (i := 19) (by decide) rfl ?_
  refine it_p (i := 19) (by decide) rfl ?_
  refine it_l (i := 1) (m := 4000) (by decide) rfl rfl (by decide) ?_
  refine wck ⟨by decide, by decide⟩ (fun q20 hq20 => ?_)
  obtain rfl : q20 = 4001 := hq20
  refine it_na (n := 20) hm (by decide) rfl rfl ⟨by decide, by decide⟩ (fun _ => rfl) ?_
  refine it_p (i := 19) (by decide) rfl ?_
  refine it_l (i := 1) (m := 4000) (by decide) rfl rfl (by decide) ?_
  refine wck ⟨by decide, by decide⟩ (fun q21 hq21 => ?_)
  obtain rfl : q21 = 4001 := hq21
  refine it_na (n := 21) hm (by decide) rfl rfl ⟨by decide, by decide⟩ (fun _ => rfl) ?_
  refine it_p (i := 19) (by decide) rfl ?_
  refine it_l (i := 1) (m := 4000) (by decide) rfl rfl (by decide) ?_
  refine wck ⟨by decide, by decide⟩ (fun q22 hq22 => ?_)
  obtain rfl : q22 = 4001 := hq22
  refine it_na (n := 22) hm (by decide) rfl rfl ⟨by decide, by decide⟩ (fun _ => rfl) ?_
  refine it_p (i := 19) (by decide) rfl ?_
  refine sf_some ⟨⟨by decide, by decide⟩, rfl, ?_⟩
  refine it_p (i := 0) (by decide) rfl ?_
  refine it_n (n := 23) hm (by decide) rfl rfl (fun _ => rfl) ?_
  refine it_g (i := 0) (v := ((c_hp σ + 1 : Nat) : Int)) (by decide) rfl rfl ?_
  refine it_g (i := 0) (v := ((c_hp σ + 3 : Nat) : Int)) (by decide) rfl rfl ?_
  refine it_g (i := 0) (v := ((c_hp σ + 16 : Nat) : Int)) (by decide) rfl rfl ?_
  refine it_g (i := 0) (v := ((c_hp σ + 2 : Nat) : Int)) (by decide) rfl rfl ?_
  refine it_t (i := 23) (by decide) rfl ?_
  rw [rc_X2_init_d (by omega)]
  refine ci_b ?_
  unfold pc_X2_init_0
  refine it_t (i := 23) (by decide) rfl ?_
  refine it_p (i := 23) (by decide) rfl ?_
  refine it_p (i := 23) (by decide) rfl ?_
  refine it_p (i := 23) (by decide) rfl ?_
  refine it_p (i := 23) (by decide) rfl ?_
  refine it_p (i := 23) (by decide) rfl ?_
  refine sf_some ⟨⟨by decide, by decide⟩, rfl, ?_⟩
  refine it_p (i := 0) (by decide) rfl ?_
  refine it_p (i := 0) (by decide) rfl ?_
  refine it_p (i := 0) (by decide) rfl ?_
  refine it_p (i := 0) (by decide) rfl ?_
  refine it_p (i := 0) (by decide) rfl ?_
  refine it_g (i := 0) (v := ((c_hp σ + 3 : Nat) : Int)) (by decide) rfl rfl ?_
  refine it_t (i := 3) (by decide) rfl ?_
  exact kk
theorem iu_R {F : Nat → Nat → Int} {i f : Nat} {y : Int} (hy : inR y) (hF : ∀ a g, inR (F a g)) : ∀ a g, inR (iu F i f y a g) := by
  intro a g
  unfold iu
  split
  · exact hy
  · exact hF a g
theorem iF0_R : ∀ a g, inR (iF0 a g) := by
  intro a g
  unfold iF0
  split <;> exact ⟨by decide, by decide⟩
theorem iFn_R {b : Nat} (hb : b < 1000000) : ∀ a g, inR (iFn b a g) := by
  unfold iFn
  repeat (first | refine iu_R ⟨by omega, by omega⟩ ?_ | exact iF0_R)
theorem iFn_f {b : Nat} : ∀ q ∈ gF, q.1 < 24 ∧ iFn b q.1 q.2.1 = ((b + q.2.2 : Nat) : Int) := by
  unfold gF
  refine List.forall_mem_cons.mpr ⟨⟨by decide, rfl⟩, ?_⟩
  refine List.forall_mem_cons.mpr ⟨⟨by decide, rfl⟩, ?_⟩
  refine List.forall_mem_cons.mpr ⟨⟨by decide, rfl⟩, ?_⟩
  refine List.forall_mem_cons.mpr ⟨⟨by decide, rfl⟩, ?_⟩
  refine List.forall_mem_cons.mpr ⟨⟨by decide, rfl⟩, ?_⟩
  refine List.forall_mem_cons.mpr ⟨⟨by decide, rfl⟩, ?_⟩
  refine List.forall_mem_cons.mpr ⟨⟨by decide, rfl⟩, ?_⟩
  refine List.forall_mem_cons.mpr ⟨⟨by decide, rfl⟩, ?_⟩
  refine List.forall_mem_cons.mpr ⟨⟨by decide, rfl⟩, ?_⟩
  refine List.forall_mem_cons.mpr ⟨⟨by decide, rfl⟩, ?_⟩
  refine List.forall_mem_cons.mpr ⟨⟨by decide, rfl⟩, ?_⟩
  refine List.forall_mem_cons.mpr ⟨⟨by decide, rfl⟩, ?_⟩
  refine List.forall_mem_cons.mpr ⟨⟨by decide, rfl⟩, ?_⟩
  refine List.forall_mem_cons.mpr ⟨⟨by decide, rfl⟩, ?_⟩
  refine List.forall_mem_cons.mpr ⟨⟨by decide, rfl⟩, ?_⟩
  refine List.forall_mem_cons.mpr ⟨⟨by decide, rfl⟩, ?_⟩
  refine List.forall_mem_cons.mpr ⟨⟨by decide, rfl⟩, ?_⟩
  refine List.forall_mem_cons.mpr ⟨⟨by decide, rfl⟩, ?_⟩
  refine List.forall_mem_cons.mpr ⟨⟨by decide, rfl⟩, ?_⟩
  refine List.forall_mem_cons.mpr ⟨⟨by decide, rfl⟩, ?_⟩
  refine List.forall_mem_cons.mpr ⟨⟨by decide, rfl⟩, ?_⟩
  refine List.forall_mem_cons.mpr ⟨⟨by decide, rfl⟩, ?_⟩
  refine List.forall_mem_cons.mpr ⟨⟨by decide, rfl⟩, ?_⟩
  refine List.forall_mem_cons.mpr ⟨⟨by decide, rfl⟩, ?_⟩
  refine List.forall_mem_cons.mpr ⟨⟨by decide, rfl⟩, ?_⟩
  refine List.forall_mem_cons.mpr ⟨⟨by decide, rfl⟩, ?_⟩
  refine List.forall_mem_cons.mpr ⟨⟨by decide, rfl⟩, ?_⟩
  refine List.forall_mem_cons.mpr ⟨⟨by decide, rfl⟩, ?_⟩
  refine List.forall_mem_cons.mpr ⟨⟨by decide, rfl⟩, ?_⟩
  refine List.forall_mem_cons.mpr ⟨⟨by decide, rfl⟩, ?_⟩
  refine List.forall_mem_cons.mpr ⟨⟨by decide, rfl⟩, ?_⟩
  exact List.forall_mem_nil _
theorem gr_init {i f : Nat} {lo hi : Int} (h : gr i f = some (lo, hi)) : lo ≤ iFn (c_hp σ) i f ∧ iFn (c_hp σ) i f ≤ hi := by
  unfold gr at h
  split at h
  · cases h
    rw [show iFn (c_hp σ) 16 3 = 0 from rfl]
    exact ⟨by decide, by decide⟩
  · cases h
    rw [show iFn (c_hp σ) 16 4 = 5000 from rfl]
    exact ⟨by decide, by decide⟩
  · cases h
    rw [show iFn (c_hp σ) 16 7 = 0 from rfl]
    exact ⟨by decide, by decide⟩
  · cases h
    rw [show iFn (c_hp σ) 17 _ = 0 from rfl]
    exact ⟨by decide, by decide⟩
  · cases h
    rw [show iFn (c_hp σ) 4 2 = 0 from rfl]
    exact ⟨by decide, by decide⟩
  · cases h
    rw [show iFn (c_hp σ) 9 2 = 0 from rfl]
    exact ⟨by decide, by decide⟩
  · cases h
    rw [show iFn (c_hp σ) 6 _ = 0 from rfl]
    exact ⟨by decide, by decide⟩
  · cases h
    rw [show iFn (c_hp σ) 11 _ = 0 from rfl]
    exact ⟨by decide, by decide⟩
  · cases h
    rw [show iFn (c_hp σ) 3 10 = 0 from rfl]
    exact ⟨by decide, by decide⟩
  · cases h
    rw [show iFn (c_hp σ) 3 3 = 0 from rfl]
    exact ⟨by decide, by decide⟩
  · cases h
    rw [show iFn (c_hp σ) 3 4 = 0 from rfl]
    exact ⟨by decide, by decide⟩
  · cases h
    rw [show iFn (c_hp σ) 15 _ = 0 from rfl]
    exact ⟨by decide, by decide⟩
  · cases h
    rw [show iFn (c_hp σ) 19 5 = 0 from rfl]
    exact ⟨by decide, by decide⟩
  · cases h
    rw [show iFn (c_hp σ) 19 6 = 0 from rfl]
    exact ⟨by decide, by decide⟩
  · cases h
    rw [show iFn (c_hp σ) 19 8 = 0 from rfl]
    exact ⟨by decide, by decide⟩
  · cases h
    rw [show iFn (c_hp σ) 19 9 = 0 from rfl]
    exact ⟨by decide, by decide⟩
  · cases h
    rw [show iFn (c_hp σ) 19 10 = 0 from rfl]
    exact ⟨by decide, by decide⟩
  · cases h
    rw [show iFn (c_hp σ) 19 7 = 261 from rfl]
    exact ⟨by decide, by decide⟩
  · cases h
    rw [show iFn (c_hp σ) 20 _ = 0 from rfl]
    exact ⟨by decide, by decide⟩
  · cases h
    rw [show iFn (c_hp σ) 0 9 = 0 from rfl]
    exact ⟨by decide, by decide⟩
  · cases h
    rw [show iFn (c_hp σ) 7 _ = 0 from rfl]
    exact ⟨by decide, by decide⟩
  · cases h
    rw [show iFn (c_hp σ) 8 _ = 0 from rfl]
    exact ⟨by decide, by decide⟩
  · cases h
    rw [show iFn (c_hp σ) 21 _ = 0 from rfl]
    exact ⟨by decide, by decide⟩
  · cases h
    rw [show iFn (c_hp σ) 22 _ = 0 from rfl]
    exact ⟨by decide, by decide⟩
  · cases h
    rw [show iFn (c_hp σ) 0 6 = 0 from rfl]
    exact ⟨by decide, by decide⟩
  · cases h
    rw [show iFn (c_hp σ) 2 0 = 0 from rfl]
    exact ⟨by decide, by decide⟩
  · cases h
/-- what a house wants of what was there before it -/
def iOld (bd : cBd) (σ : CS) : Prop := (∀ a, c_tg σ a ≠ 0 → a < c_hp σ) ∧ (∀ a, c_tg σ a ≠ 0 → c_tg σ a = 20 ∨ c_tg σ a = 23) ∧ (∀ a f, inR (c_pv σ a f)) ∧ (c_tg σ (bd.2.2 20) = 20 ∧ c_ln σ (bd.2.2 20) = 8 ∧ ∀ i, i < 8 → c_pv σ (bd.2.2 20) i = gC.getD i 0) ∧ (c_tg σ (bd.2.2 21) = 23 ∧ c_ln σ (bd.2.2 21) = 0) ∧ (∀ i, bd.2.2 i < 2147483647) ∧ (bd.2.2 0 ≠ bd.2.2 1 ∧ bd.2.2 0 ≠ bd.2.2 2 ∧ bd.2.2 1 ≠ bd.2.2 2)
theorem ct_old {a : Nat} (ha : a < c_hp σ) : c_tg (cs_t σ n F) a = c_tg σ a ∧ c_ln (cs_t σ n F) a = c_ln σ a ∧ ∀ f, c_pv (cs_t σ n F) a f = c_pv σ a f := ⟨if_pos ha, if_pos ha, fun _ => if_pos ha⟩
theorem ct_new {a : Nat} (ha : c_hp σ + n ≤ a) : c_tg (cs_t σ n F) a = c_tg σ a ∧ ∀ f, c_pv (cs_t σ n F) a f = c_pv σ a f := by
  refine ⟨?_, fun f => ?_⟩
  · show (if _ then _ else if _ then _ else _) = _
    rw [if_neg (by omega), if_neg (by omega)]
  · show (if _ then _ else if _ then _ else _) = _
    rw [if_neg (by omega), if_neg (by omega)]
theorem gg_init (hm : iRm bd σ) (ho : iOld bd σ) : GG bd (c_hp σ) (cs_t σ 24 (iFn (c_hp σ))) := by
  obtain ⟨o1, o2, o3, o4, o5, o6, o7⟩ := ho
  have hb : c_hp σ < 1000000 := by have := hm.1; have := hm.2.2; omega
  have h20 := o1 (bd.2.2 20) (by rw [o4.1]; decide)
  have h21 := o1 (bd.2.2 21) (by rw [o5.1]; decide)
  have hnew : ∀ a, c_hp σ + 24 ≤ a → c_tg (cs_t σ 24 (iFn (c_hp σ))) a = 0 := fun a ha => by
    rw [(ct_new ha).1]
    by_cases c : c_tg σ a = 0
    · exact c
    · have := o1 a c
      omega
  refine ⟨fun i hi => ⟨ct_tg hi, ct_ln hi⟩, fun q hq => ?_, ⟨fun i f lo hi h24 hr => ?_, fun i => ?_⟩, ?_, fun a => ?_, fun a f => ?_, ?_⟩
  · obtain ⟨q1, q2⟩ := iFn_f (b := c_hp σ) q hq
    rw [ct_pv q1]; exact q2
  · rw [ct_pv h24]; exact gr_init hr
  · rw [ct_pv (by decide), ct_pv (by decide)]
    exact Int.le_refl 0
  · refine ⟨fun i hi => Or.inl ?_, fun i hi => Or.inl ?_, 0, by decide, ?_, fun i hi => ?_, fun i hi => by omega⟩
    · rw [ct_pv (by decide)]; exact (by decide : (-1 : Int) < 0)
    · rw [ct_pv (by decide)]; exact (by decide : (-1 : Int) < 0)
    · rw [ct_pv (by decide)]; exact Int.le_refl 0
    · rw [ct_pv (by decide)]; exact ⟨Int.le_refl 0, Int.le_refl 0⟩
  · have key : c_tg (cs_t σ 24 (iFn (c_hp σ))) a ≠ 2 ∧ c_tg (cs_t σ 24 (iFn (c_hp σ))) a ≠ 4 ∧ c_tg (cs_t σ 24 (iFn (c_hp σ))) a ≠ 7 ∧ c_tg (cs_t σ 24 (iFn (c_hp σ))) a ≠ 9 ∧ c_tg (cs_t σ 24 (iFn (c_hp σ))) a ≠ 10 := by
      by_cases c : a < c_hp σ
      · rw [(ct_old c).1]
        by_cases c0 : c_tg σ a = 0
        · omega
        · have := o2 a c0
          omega
      · by_cases c2 : a < c_hp σ + 24
        · obtain ⟨j, rfl⟩ : ∃ j, a = c_hp σ + j := ⟨a - c_hp σ, by omega⟩
          rw [ct_tg (by omega)]
          have := gt_ne j (by omega)
          omega
        · rw [hnew a (by omega)]; decide
    exact ⟨fun q => absurd q key.1, fun q => absurd q key.2.1, fun q => absurd q key.2.2.1, fun q => absurd q key.2.2.2.1, fun q => absurd q key.2.2.2.2⟩
  · by_cases c : a < c_hp σ
    · rw [(ct_old c).2.2]; exact o3 a f
    · by_cases c2 : a < c_hp σ + 24
      · obtain ⟨j, rfl⟩ : ∃ j, a = c_hp σ + j := ⟨a - c_hp σ, by omega⟩
        rw [ct_pv (by omega)]
        exact iFn_R hb _ _
      · rw [(ct_new (by omega)).2]; exact o3 a f
  · refine ⟨⟨by rw [(ct_old h20).1]; exact o4.1, by rw [(ct_old h20).2.1]; exact o4.2.1, h20, fun i hi => ((ct_old h20).2.2 i).trans (o4.2.2 i hi)⟩, ⟨by rw [(ct_old h21).1]; exact o5.1, by rw [(ct_old h21).2.1]; exact o5.2, h21⟩, o6, fun a ha => ?_, Nat.le_refl _, hm.2.2, o7⟩
    show a < c_hp σ + 24
    by_cases c : a < c_hp σ + 24
    · exact c
    · exact absurd (hnew a (by omega)) ha
theorem ct_0 : cs_t σ 0 F = σ := by
  refine Prod.ext ?_ (Prod.ext ?_ (Prod.ext ?_ (Prod.ext rfl ?_)))
  · funext a
    show (if _ then _ else if _ then _ else _) = _
    split
    · rfl
    · rw [if_neg (by omega)]
  · funext a f
    show (if _ then _ else if _ then _ else _) = _
    split
    · rfl
    · rw [if_neg (by omega)]
  · funext a
    show (if _ then _ else if _ then _ else _) = _
    split
    · rfl
    · rw [if_neg (by omega)]
  · show c_sl σ + (gL.take 0).sum = c_sl σ
    rfl
theorem ct_1 : cs_n σ 12 10 = cs_t σ 1 iF0 := by
  have h := ct_n (σ := σ) (n := 0) (F := iF0) (t := 12) (N := 10) (by decide) rfl rfl (fun f => rfl)
  rw [ct_0] at h
  exact h
/-- a new house -/
theorem s_new (hd : 22 ≤ d) (ho : iOld bd σ) (h1 : c_hp σ + 24 + 360000 + k ≤ bd.1) (h2 : c_sl σ + 26000 + 3600000 + s ≤ bd.2.1) (h3 : bd.1 < 1000000) (hz : z ≤ 100000000) : sf (RC bd d 45 (cs_n σ 12 10) [((c_hp σ + 0 : Nat) : Int)]) (fun σ' kd r => kd = 0 ∧ inR r ∧ GG bd (c_hp σ) σ' ∧ RR bd (c_hp σ) σ' k s 0 z ∧ c_pv σ' (c_hp σ + 16) 4 = 5000 ∧ c_pv σ' (c_hp σ + 3) 10 = 0 ∧ c_pv σ' (c_hp σ + 0) 6 = 0) := by
  have hm : iRm bd σ := ⟨by omega, by omega, h3⟩
  have G := gg_init hm ho
  obtain ⟨d, rfl⟩ : ∃ d0, d = d0 + 1 := ⟨d - 1, by omega⟩
  rw [rc_X11_init (by omega), ct_1]
  refine sf_fin ?_
  refine s_init45 (by omega) hm ?_
  have hsum := gL_sum (n := 24) (by decide)
  have e3 : c_pv (cs_t σ 24 (iFn (c_hp σ))) (c_hp σ + 16) 3 = 0 := (ct_pv (by decide)).trans rfl
  have e7 : c_pv (cs_t σ 24 (iFn (c_hp σ))) (c_hp σ + 16) 7 = 0 := (ct_pv (by decide)).trans rfl
  have e10 : c_pv (cs_t σ 24 (iFn (c_hp σ))) (c_hp σ + 19) 10 = 0 := (ct_pv (by decide)).trans rfl
  have e33 : c_pv (cs_t σ 24 (iFn (c_hp σ))) (c_hp σ + 3) 3 = 0 := (ct_pv (by decide)).trans rfl
  have e34 : c_pv (cs_t σ 24 (iFn (c_hp σ))) (c_hp σ + 3) 4 = 0 := (ct_pv (by decide)).trans rfl
  have e09 : c_pv (cs_t σ 24 (iFn (c_hp σ))) (c_hp σ + 0) 9 = 0 := (ct_pv (by decide)).trans rfl
  have e4 : c_pv (cs_t σ 24 (iFn (c_hp σ))) (c_hp σ + 16) 4 = 5000 := (ct_pv (by decide)).trans rfl
  have e6 : c_pv (cs_t σ 24 (iFn (c_hp σ))) (c_hp σ + 0) 6 = 0 := (ct_pv (by decide)).trans rfl
  have R : RR bd (c_hp σ) (cs_t σ 24 (iFn (c_hp σ))) k s 0 (z + 10) := by
    unfold RR
    rw [ct_hp, ct_sl, e3, e7, e10, e33, e34, e09]
    exact ⟨by omega, by omega, by omega, by omega⟩
  refine cl_C (s_loadCorner (by omega) G R) (fun σ1 u ru G1 e1 R1 f1 => ?_)
  exact sf_some ⟨⟨by decide, by decide⟩, rfl, ⟨by decide, by decide⟩, G1, R1, e1.1.trans e4, f1, e1.2.trans e6⟩

end CIN
