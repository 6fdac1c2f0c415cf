section CIN
variable {bd : cBd} {b d : Nat} {σ σ1 σ2 σ3 : CS} {Q : CS → Nat → Int → Prop} {k s o z : Nat}
/-- a house that is being made: its first n cells, their fields -/
def cs_t (σ : CS) (n : Nat) (F : Nat → Nat → Int) : CS := (fun a => if a < c_hp σ then c_tg σ a else if a < c_hp σ + n then gT.getD (a - c_hp σ) 0 else c_tg σ a, fun a f => if a < c_hp σ then c_pv σ a f else if a < c_hp σ + n then F (a - c_hp σ) f else c_pv σ a f, fun a => if a < c_hp σ then c_ln σ a else if a < c_hp σ + n then gL.getD (a - c_hp σ) 0 else c_ln σ a, c_hp σ + n, c_sl σ + (gL.take n).sum)
def iu (F : Nat → Nat → Int) (i f : Nat) (y : Int) : Nat → Nat → Int := fun a g => if a = i ∧ g = f then y else F a g
def iF0 : Nat → Nat → Int := fun i f => if cw_isR (gT.getD i 0) f = true then -1 else 0
variable {n i f : Nat} {F : Nat → Nat → Int} {y v : Int}
theorem ct_hp : c_hp (cs_t σ n F) = c_hp σ + n := rfl
theorem ct_sl : c_sl (cs_t σ n F) = c_sl σ + (gL.take n).sum := rfl
theorem ct_tg (hi : i < n) : c_tg (cs_t σ n F) (c_hp σ + i) = gT.getD i 0 := by
  show (if _ then _ else if _ then _ else _) = _
  rw [if_neg (by omega), if_pos (by omega)]
  congr 1; omega
theorem ct_ln (hi : i < n) : c_ln (cs_t σ n F) (c_hp σ + i) = gL.getD i 0 := by
  show (if _ then _ else if _ then _ else _) = _
  rw [if_neg (by omega), if_pos (by omega)]
  congr 1; omega
theorem ct_pv (hi : i < n) : c_pv (cs_t σ n F) (c_hp σ + i) f = F i f := by
  show (if _ then _ else if _ then _ else _) = _
  rw [if_neg (by omega), if_pos (by omega)]
  congr 1; omega
theorem ct_p (hi : i < n) : cs_p (cs_t σ n F) (c_hp σ + i) f y = cs_t σ n (iu F i f y) := by
  unfold cs_p
  refine Prod.ext rfl (Prod.ext ?_ rfl)
  funext a g
  show (if a = c_hp σ + i then (if g = f then y else c_pv (cs_t σ n F) a g) else c_pv (cs_t σ n F) a g) = c_pv (cs_t σ n (iu F i f y)) a g
  by_cases c : a < c_hp σ
  · rw [if_neg (by omega)]
    show (if _ then _ else _) = (if _ then _ else _)
    rw [if_pos c, if_pos c]
  · by_cases c2 : a < c_hp σ + n
    · obtain ⟨j, rfl⟩ : ∃ j, a = c_hp σ + j := ⟨a - c_hp σ, by omega⟩
      rw [ct_pv (by omega), ct_pv (by omega)]
      unfold iu
      by_cases c3 : j = i
      · subst c3
        by_cases c4 : g = f
        · rw [if_pos rfl, if_pos c4, if_pos ⟨rfl, c4⟩]
        · rw [if_pos rfl, if_neg c4, if_neg (fun q => c4 q.2)]
      · rw [if_neg (by omega), if_neg (fun q => c3 q.1)]
    · rw [if_neg (by omega)]
      show (if _ then _ else if _ then _ else _) = (if _ then _ else if _ then _ else _)
      rw [if_neg c, if_neg c2, if_neg c, if_neg c2]
theorem gL_take (hn : n < 24) : (gL.take (n + 1)).sum = (gL.take n).sum + gL.getD n 0 := (by decide : ∀ n, n < 24 → (gL.take (n + 1)).sum = (gL.take n).sum + gL.getD n 0) n hn
theorem ct_n {t N : Nat} (hn : n < 24) (ht : gT.getD n 0 = t) (hl : gL.getD n 0 = N) (hF : ∀ f, F n f = if cw_isR t f = true then -1 else 0) : cs_n (cs_t σ n F) t N = cs_t σ (n + 1) F := by
  unfold cs_n
  have e : c_sl (cs_t σ n F) + N = c_sl (cs_t σ (n + 1) F) := by rw [ct_sl, ct_sl, gL_take hn, hl]; omega
  refine Prod.ext ?_ (Prod.ext ?_ (Prod.ext ?_ (Prod.ext rfl e)))
  · funext a
    show (if a = c_hp σ + n then t else c_tg (cs_t σ n F) a) = c_tg (cs_t σ (n + 1) F) a
    by_cases c : a = c_hp σ + n
    · rw [if_pos c, c, ct_tg (by omega), ht]
    · rw [if_neg c]
      show (if _ then _ else if _ then _ else _) = (if _ then _ else if _ then _ else _)
      by_cases c1 : a < c_hp σ
      · rw [if_pos c1, if_pos c1]
      · rw [if_neg c1, if_neg c1]
        by_cases c2 : a < c_hp σ + n
        · rw [if_pos c2, if_pos (by omega)]
        · rw [if_neg c2, if_neg (by omega)]
  · funext a g
    show (if a = c_hp σ + n then (if cw_isR t g = true then -1 else 0) else c_pv (cs_t σ n F) a g) = c_pv (cs_t σ (n + 1) F) a g
    by_cases c : a = c_hp σ + n
    · rw [if_pos c, c, ct_pv (by omega), hF]
    · rw [if_neg c]
      show (if _ then _ else if _ then _ else _) = (if _ then _ else if _ then _ else _)
      by_cases c1 : a < c_hp σ
      · rw [if_pos c1, if_pos c1]
      · rw [if_neg c1, if_neg c1]
        by_cases c2 : a < c_hp σ + n
        · rw [if_pos c2, if_pos (by omega)]
        · rw [if_neg c2, if_neg (by omega)]
  · funext a
    show (if a = c_hp σ + n then N else c_ln (cs_t σ n F) a) = c_ln (cs_t σ (n + 1) F) a
    by_cases c : a = c_hp σ + n
    · rw [if_pos c, c, ct_ln (by omega), hl]
    · rw [if_neg c]
      show (if _ then _ else if _ then _ else _) = (if _ then _ else if _ then _ else _)
      by_cases c1 : a < c_hp σ
      · rw [if_pos c1, if_pos c1]
      · rw [if_neg c1, if_neg c1]
        by_cases c2 : a < c_hp σ + n
        · rw [if_pos c2, if_pos (by omega)]
        · rw [if_neg c2, if_neg (by omega)]
/-- the room of a house -/
def iRm (bd : cBd) (σ : CS) : Prop := c_hp σ + 24 ≤ bd.1 ∧ c_sl σ + 26000 ≤ bd.2.1 ∧ bd.1 < 1000000
theorem gL_sum (hn : n ≤ 24) : (gL.take n).sum ≤ 26000 := (by decide : ∀ n, n < 25 → (gL.take n).sum ≤ 26000) n (by omega)
theorem it_n {t N : Nat} {K : CS → Int → CO} (hm : iRm bd σ) (hn : n < 24) (ht : gT.getD n 0 = t) (hl : gL.getD n 0 = N) (hF : ∀ f, F n f = if cw_isR t f = true then -1 else 0) (h : sf (K (cs_t σ (n + 1) F) ((c_hp σ + n : Nat) : Int)) Q) : sf (cc_n (cs_t σ n F) bd t N K) Q := by
  have h1 := gL_take hn
  have h2 := gL_sum (n := n + 1) (by omega)
  refine sf_n ⟨by rw [ct_hp]; have := hm.1; omega, by rw [ct_sl]; have := hm.2.1; omega, by rw [ct_hp]; have := hm.1; have := hm.2.2; omega⟩ ?_
  rw [ct_n hn ht hl hF]
  exact h
theorem it_na {t : Nat} {x : Int} {K : CS → Int → CO} (hm : iRm bd σ) (hn : n < 24) (ht : gT.getD n 0 = t) (hl : gL.getD n 0 = x.toNat) (hx : 0 ≤ x ∧ x ≤ 100000) (hF : ∀ f, F n f = if cw_isR t f = true then -1 else 0) (h : sf (K (cs_t σ (n + 1) F) ((c_hp σ + n : Nat) : Int)) Q) : sf (cc_na (cs_t σ n F) bd t x K) Q := by
  have h1 := gL_take hn
  have h2 := gL_sum (n := n + 1) (by omega)
  refine sf_na ⟨hx.1, by omega⟩ ⟨by rw [ct_hp]; have := hm.1; omega, by rw [ct_sl]; have := hm.2.1; omega, by rw [ct_hp]; have := hm.1; have := hm.2.2; omega⟩ ?_
  rw [ct_n hn ht hl hF]
  exact h
theorem it_p {t : Nat} {K : CS → CO} (hi : i < n) (ht : gT.getD i 0 = t) (h : sf (K (cs_t σ n (iu F i f y))) Q) : sf (cc_p (cs_t σ n F) t f ((c_hp σ + i : Nat) : Int) y K) Q := by
  refine wpN ((ct_tg hi).trans ht) (fun σ1 w1 => ?_)
  rw [ct_p hi] at w1
  rw [w1]; exact h
theorem it_t {t : Nat} {K : CO} (hi : i < n) (ht : gT.getD i 0 = t) (h : sf K Q) : sf (cc_t (cs_t σ n F) t ((c_hp σ + i : Nat) : Int) K) Q := wtN ((ct_tg hi).trans ht) h
theorem it_g {t : Nat} {K : Int → CO} (hi : i < n) (ht : gT.getD i 0 = t) (hv : F i f = v) (h : sf (K v) Q) : sf (cc_g (cs_t σ n F) t f ((c_hp σ + i : Nat) : Int) K) Q := wgF ((ct_tg hi).trans ht) ((ct_pv hi).trans hv) h
theorem it_l {t m : Nat} {K : Int → CO} (hi : i < n) (ht : gT.getD i 0 = t) (hl : gL.getD i 0 = m) (hm : m ≤ 100000) (h : sf (K (m : Int)) Q) : sf (cc_l (cs_t σ n F) t ((c_hp σ + i : Nat) : Int) K) Q := wlN ((ct_tg hi).trans ht) ((ct_ln hi).trans hl) (by omega) (fun z hz => by rw [hz]; exact h)
theorem ci_b {p : CO} {K : CS → CO} (h : sf p (fun σ' kd r => inR r ∧ kd = 0 ∧ sf (K σ') Q)) : sf (cc_ci (cc_fin p) K) Q := sf_ci (sf_fin h) (fun _ _ _ q => q)
theorem rc_X10_init_d {d : Nat} {σ : CS} {a0 : Int} (h : 6 ≤ d) : RC bd d 29 σ [a0] = cc_fin (pc_X10_init_0 (RC bd (d - 1)) bd σ a0) := by
  obtain ⟨d, rfl⟩ : ∃ d0, d = d0 + 1 := ⟨d - 1, by omega⟩
  exact rc_X10_init (by omega)
theorem rc_X0_init_d {d : Nat} {σ : CS} {a0 : Int} (h : 6 ≤ d) : RC bd d 19 σ [a0] = cc_fin (pc_X0_init_0 (RC bd (d - 1)) bd σ a0) := by
  obtain ⟨d, rfl⟩ : ∃ d0, d = d0 + 1 := ⟨d - 1, by omega⟩
  exact rc_X0_init (by omega)
theorem rc_X5_init_d {d : Nat} {σ : CS} {a0 a1 : Int} (h : 6 ≤ d) : RC bd d 101 σ [a0, a1] = cc_fin (pc_X5_init_0 (RC bd (d - 1)) bd σ a0 a1) := by
  obtain ⟨d, rfl⟩ : ∃ d0, d = d0 + 1 := ⟨d - 1, by omega⟩
  exact rc_X5_init (by omega)
theorem rc_X4_init_d {d : Nat} {σ : CS} {a0 a1 a2 : Int} (h : 6 ≤ d) : RC bd d 84 σ [a0, a1, a2] = cc_fin (pc_X4_init_0 (RC bd (d - 1)) bd σ a0 a1 a2) := by
  obtain ⟨d, rfl⟩ : ∃ d0, d = d0 + 1 := ⟨d - 1, by omega⟩
  exact rc_X4_init (by omega)
theorem rc_X7_init_d {d : Nat} {σ : CS} {a0 a1 a2 : Int} (h : 6 ≤ d) : RC bd d 117 σ [a0, a1, a2] = cc_fin (pc_X7_init_0 (RC bd (d - 1)) bd σ a0 a1 a2) := by
  obtain ⟨d, rfl⟩ : ∃ d0, d = d0 + 1 := ⟨d - 1, by omega⟩
  exact rc_X7_init (by omega)
theorem rc_X2_init_d {d : Nat} {σ : CS} {a0 a1 a2 a3 a4 : Int} (h : 6 ≤ d) : RC bd d 64 σ [a0, a1, a2, a3, a4] = cc_fin (pc_X2_init_0 (RC bd (d - 1)) bd σ a0 a1 a2 a3 a4) := by
  obtain ⟨d, rfl⟩ : ∃ d0, d = d0 + 1 := ⟨d - 1, by omega⟩
  exact rc_X2_init (by omega)
def iFn (b : Nat) : Nat → Nat → Int := (iu (iu (iu (iu (iu (iu (iu (iu (iu (iu (iu (iu (iu (iu (iu (iu (iu (iu (iu (iu (iu (iu (iu (iu (iu (iu (iu (iu (iu (iu (iu (iu (iu (iu (iu (iu (iu (iu (iu (iu (iu (iu (iu (iu (iu (iu (iu (iu (iu (iu (iu (iu (iu iF0 0 0 ((b + 1 : Nat) : Int)) 2 0 0) 2 1 (-1)) 0 1 ((b + 2 : Nat) : Int)) 4 2 0) 4 0 ((b + 5 : Nat) : Int)) 4 1 ((b + 6 : Nat) : Int)) 3 0 ((b + 4 : Nat) : Int)) 3 1 ((b + 7 : Nat) : Int)) 3 2 ((b + 8 : Nat) : Int)) 3 3 0) 3 4 0) 9 2 0) 9 0 ((b + 10 : Nat) : Int)) 9 1 ((b + 11 : Nat) : Int)) 3 5 ((b + 9 : Nat) : Int)) 3 6 ((b + 12 : Nat) : Int)) 3 7 ((b + 13 : Nat) : Int)) 3 8 ((b + 14 : Nat) : Int)) 3 9 ((b + 15 : Nat) : Int)) 3 10 0) 0 2 ((b + 3 : Nat) : Int)) 16 2 ((b + 17 : Nat) : Int)) 16 3 0) 16 4 5000) 16 5 0) 16 6 ((b + 18 : Nat) : Int)) 16 7 0) 16 0 ((b + 3 : Nat) : Int)) 16 1 ((b + 2 : Nat) : Int)) 0 3 ((b + 16 : Nat) : Int)) 19 5 0) 19 6 0) 19 7 261) 19 8 0) 19 9 0) 19 10 0) 19 0 ((b + 1 : Nat) : Int)) 19 1 ((b + 2 : Nat) : Int)) 19 2 ((b + 20 : Nat) : Int)) 19 3 ((b + 21 : Nat) : Int)) 19 4 ((b + 22 : Nat) : Int)) 0 4 ((b + 19 : Nat) : Int)) 23 4 (-1)) 23 0 ((b + 1 : Nat) : Int)) 23 1 ((b + 3 : Nat) : Int)) 23 2 ((b + 16 : Nat) : Int)) 23 3 ((b + 2 : Nat) : Int)) 0 5 ((b + 23 : Nat) : Int)) 0 6 0) 0 7 0) 0 8 (-1)) 0 9 0)
theorem s_init45 (hd : 20 ≤ d) (hm : iRm bd σ) {Q : CS → Nat → Int → Prop} (kk : sf (cc_cl (RC bd d 20 (cs_t σ 24 (iFn (c_hp σ))) [((c_hp σ + 3 : Nat) : Int), 7]) (fun σ47 z49 => some (σ47, 0, 0))) Q) : sf (pc_X11_init_0 (RC bd d) bd (cs_t σ 1 iF0) ((c_hp σ + 0 : Nat) : Int)) Q := by
  unfold pc_X11_init_0
  refine it_t (i := 0) (by decide) rfl ?_
  refine it_na (n := 1) hm (by decide) rfl rfl ⟨by decide, by decide⟩ (fun _ => rfl) ?_
  refine it_p (i := 0) (by decide) rfl ?_
  refine it_n (n := 2) hm (by decide) rfl rfl (fun _ => rfl) ?_
  refine it_t (i := 2) (by decide) rfl ?_
  rw [rc_X10_init_d (by omega)]
  refine ci_b ?_
  unfold pc_X10_init_0
  refine it_t (i := 2) (by decide) rfl ?_
  refine it_p (i := 2) (by decide) rfl ?_
  refine it_p (i := 2) (by decide) rfl ?_
  refine sf_some ⟨⟨by decide, by decide⟩, rfl, ?_⟩
  refine it_p (i := 0) (by decide) rfl ?_
  refine it_n (n := 3) hm (by decide) rfl rfl (fun _ => rfl) ?_
  refine it_t (i := 3) (by decide) rfl ?_
  rw [rc_X0_init_d (by omega)]
  refine ci_b ?_
  unfold pc_X0_init_0
  refine it_t (i := 3) (by decide) rfl ?_
  refine it_n (n := 4) hm (by decide) rfl rfl (fun _ => rfl) ?_
  refine it_t (i := 4) (by decide) rfl ?_
  rw [rc_X5_init_d (by omega)]
  refine ci_b ?_
  unfold pc_X5_init_0
  refine it_t (i := 4) (by decide) rfl ?_
  refine it_p (i := 4) (by decide) rfl ?_
  refine wck ⟨by decide, by decide⟩ (fun q5 hq5 => ?_)
  obtain rfl : q5 = 96 := hq5
  refine it_na (n := 5) hm (by decide) rfl rfl ⟨by decide, by decide⟩ (fun _ => rfl) ?_
  refine it_p (i := 4) (by decide) rfl ?_
  refine it_na (n := 6) hm (by decide) rfl rfl ⟨by decide, by decide⟩ (fun _ => rfl) ?_
  refine it_p (i := 4) (by decide) rfl ?_
  refine sf_some ⟨⟨by decide, by decide⟩, rfl, ?_⟩
  refine it_p (i := 3) (by decide) rfl ?_
  refine it_na (n := 7) hm (by decide) rfl rfl ⟨by decide, by decide⟩ (fun _ => rfl) ?_
  refine it_p (i := 3) (by decide) rfl ?_
  refine it_na (n := 8) hm (by decide) rfl rfl ⟨by decide, by decide⟩ (fun _ => rfl) ?_
  refine it_p (i := 3) (by decide) rfl ?_
  refine it_p (i := 3) (by decide) rfl ?_
  refine it_p (i := 3) (by decide) rfl ?_
  refine it_n (n := 9) hm (by decide) rfl rfl (fun _ => rfl) ?_
  refine it_t (i := 9) (by decide) rfl ?_
  rw [rc_X5_init_d (by omega)]
  refine ci_b ?_
  unfold pc_X5_init_0
  refine it_t (i := 9) (by decide) rfl ?_
  refine it_p (i := 9) (by decide) rfl ?_
  refine wck ⟨by decide, by decide⟩ (fun q10 hq10 => ?_)
  obtain rfl : q10 = 1200 := hq10
  refine it_na (n := 10) hm (by decide) rfl rfl ⟨by decide, by decide⟩ (fun _ => rfl) ?_
  refine it_p (i := 9) (by decide) rfl ?_
  refine it_na (n := 11) hm (by decide) rfl rfl ⟨by decide, by decide⟩ (fun _ => rfl) ?_
  refine it_p (i := 9) (by decide) rfl ?_
  refine sf_some ⟨⟨by decide, by decide⟩, rfl, ?_⟩
  refine it_p (i := 3) (by decide) rfl ?_
  refine it_na (n := 12) hm (by decide) rfl rfl ⟨by decide, by decide⟩ (fun _ => rfl) ?_
  refine it_p (i := 3) (by decide) rfl ?_
  refine it_na (n := 13) hm (by decide) rfl rfl ⟨by decide, by decide⟩ (fun _ => rfl) ?_
  refine it_p (i := 3) (by decide) rfl ?_
  refine it_na (n := 14) hm (by decide) rfl rfl ⟨by decide, by decide⟩ (fun _ => rfl) ?_
  refine it_p (i := 3) (by decide) rfl ?_
  refine it_na (n := 15) hm (by decide) rfl rfl ⟨by decide, by decide⟩ (fun _ => rfl) ?_
  refine it_p (i := 3) (by decide) rfl ?_
  refine it_p (i := 3) (by decide) rfl ?_
  refine sf_some ⟨⟨by decide, by decide⟩, rfl, ?_⟩
  refine it_p (i := 0) (by decide) rfl ?_
  refine it_n (n := 16) hm (by decide) rfl rfl (fun _ => rfl) ?_
  refine it_g (i := 0) (v := ((c_hp σ + 3 : Nat) : Int)) (by decide) rfl rfl ?_
  refine it_g (i := 0) (v := ((c_hp σ + 2 : Nat) : Int)) (by decide) rfl rfl ?_
  refine it_t (i := 16) (by decide) rfl ?_
  rw [rc_X4_init_d (by omega)]
  refine ci_b ?_
  unfold pc_X4_init_0
  refine it_t (i := 16) (by decide) rfl ?_
  refine it_na (n := 17) hm (by decide) rfl rfl ⟨by decide, by decide⟩ (fun _ => rfl) ?_
  refine it_p (i := 16) (by decide) rfl ?_
  refine it_p (i := 16) (by decide) rfl ?_
  refine it_p (i := 16) (by decide) rfl ?_
  refine it_p (i := 16) (by decide) rfl ?_
  refine it_na (n := 18) hm (by decide) rfl rfl ⟨by decide, by decide⟩ (fun _ => rfl) ?_
  refine it_p (i := 16) (by decide) rfl ?_
  refine it_p (i := 16) (by decide) rfl ?_
  refine it_p (i := 16) (by decide) rfl ?_
  refine it_p (i := 16) (by decide) rfl ?_
  refine sf_some ⟨⟨by decide, by decide⟩, rfl, ?_⟩
  refine it_p (i := 0) (by decide) rfl ?_
  refine it_n (n := 19) hm (by decide) rfl rfl (fun _ => rfl) ?_
  refine it_g (i := 0) (v := ((c_hp σ + 1 : Nat) : Int)) (by decide) rfl rfl ?_
  refine it_g (i := 0) (v := ((c_hp σ + 2 : Nat) : Int)) (by decide) rfl rfl ?_
  refine it_t (i := 19) (by decide) rfl ?_
  rw [rc_X7_init_d (by omega)]
  refine ci_b ?_
  unfold pc_X7_init_0
  refine it_t (i := 19) (by decide) rfl ?_
  refine it_p (i := 19) (by decide) rfl ?_
  refine it_p (i := 19) (by decide) rfl ?_
  refine it_p (i := 19) (by decide) rfl ?_
  refine it_p (i := 19) (by decide) rfl ?_
  refine it_p (i := 19) (by decide) rfl ?_
  refine it_p (i := 19) (by decide) rfl ?_
  refine it_p (i := 19) (by decide) rfl ?_
  refine it_p (i := 19) (by decide) rfl ?_
  refine it_l (i := 1) (m := 4000) (by decide) rfl rfl (by decide) ?_
  refine wck ⟨by decide, by decide⟩ (fun q20 hq20 => ?_)
  obtain rfl : q20 = 4001 := hq20
  refine it_na (n := 20) hm (by decide) rfl rfl ⟨by decide, by decide⟩ (fun _ => rfl) ?_
  refine it_p (i := 19) (by decide) rfl ?_
  refine it_l (i := 1) (m := 4000) (by decide) rfl rfl (by decide) ?_
  refine wck ⟨by decide, by decide⟩ (fun q21 hq21 => ?_)
  obtain rfl : q21 = 4001 := hq21
  refine it_na (n := 21) hm (by decide) rfl rfl ⟨by decide, by decide⟩ (fun _ => rfl) ?_
  refine it_p (i := 19) (by decide) rfl ?_
  refine it_l (i := 1) (m := 4000) (by decide) rfl rfl (by decide) ?_
  refine wck ⟨by decide, by decide⟩ (fun q22 hq22 => ?_)
  obtain rfl : q22 = 4001 := hq22
  refine it_na (n := 22) hm (by decide) rfl rfl ⟨by decide, by decide⟩ (fun _ => rfl) ?_
  refine it_p (i := 19) (by decide) rfl ?_
  refine sf_some ⟨⟨by decide, by decide⟩, rfl, ?_⟩
  refine it_p (i := 0) (by decide) rfl ?_
  refine it_n (n := 23) hm (by decide) rfl rfl (fun _ => rfl) ?_
  refine it_g (i := 0) (v := ((c_hp σ + 1 : Nat) : Int)) (by decide) rfl rfl ?_
  refine it_g (i := 0) (v := ((c_hp σ + 3 : Nat) : Int)) (by decide) rfl rfl ?_
  refine it_g (i := 0) (v := ((c_hp σ + 16 : Nat) : Int)) (by decide) rfl rfl ?_
  refine it_g (i := 0) (v := ((c_hp σ + 2 : Nat) : Int)) (by decide) rfl rfl ?_
  refine it_t (i := 23) (by decide) rfl ?_
  rw [rc_X2_init_d (by omega)]
  refine ci_b ?_
  unfold pc_X2_init_0
  refine it_t (i := 23) (by decide) rfl ?_
  refine it_p (i := 23) (by decide) rfl ?_
  refine it_p (i := 23) (by decide) rfl ?_
  refine it_p (i := 23) (by decide) rfl ?_
  refine it_p (i := 23) (by decide) rfl ?_
  refine it_p (i := 23) (by decide) rfl ?_
  refine sf_some ⟨⟨by decide, by decide⟩, rfl, ?_⟩
  refine it_p (i := 0) (by decide) rfl ?_
  refine it_p (i := 0) (by decide) rfl ?_
  refine it_p (i := 0) (by decide) rfl ?_
  refine it_p (i := 0) (by decide) rfl ?_
  refine it_p (i := 0) (by decide) rfl ?_
  refine it_g (i := 0) (v := ((c_hp σ + 3 : Nat) : Int)) (by decide) rfl rfl ?_
  refine it_t (i := 3) (by decide) rfl ?_
  exact kk
end CIN
