section CIC
variable {bd : cBd} {b : Nat} {σ σ' σ1 : CS} {Q : CS → Nat → Int → Prop}
/-- a new object whose fields are told -/
def cs_o (σ : CS) (t n : Nat) (F : Nat → Int) : CS := (fun a => if a = c_hp σ then t else c_tg σ a, fun a f => if a = c_hp σ then F f else c_pv σ a f, fun a => if a = c_hp σ then n else c_ln σ a, c_hp σ + 1, c_sl σ + n)
theorem cs_n_o {t n : Nat} : cs_n σ t n = cs_o σ t n (fun g => if cw_isR t g = true then -1 else 0) := rfl
theorem cs_o_p {t n f : Nat} {F : Nat → Int} {y : Int} : cs_p (cs_o σ t n F) (c_hp σ) f y = cs_o σ t n (fun g => if g = f then y else F g) := by
  unfold cs_p cs_o
  refine Prod.ext rfl (Prod.ext ?_ rfl)
  funext a g
  show (if a = c_hp σ then (if g = f then y else (if a = c_hp σ then F g else c_pv σ a g)) else (if a = c_hp σ then F g else c_pv σ a g)) = (if a = c_hp σ then (if g = f then y else F g) else c_pv σ a g)
  by_cases h : a = c_hp σ
  · simp [h]
  · simp [h]
theorem cs_o_tg {t n : Nat} {F : Nat → Int} : c_tg (cs_o σ t n F) (c_hp σ) = t := if_pos rfl
theorem cs_o_pv {t n f : Nat} {F : Nat → Int} : c_pv (cs_o σ t n F) (c_hp σ) f = F f := if_pos rfl
theorem cs_o_ln {t n : Nat} {F : Nat → Int} : c_ln (cs_o σ t n F) (c_hp σ) = n := if_pos rfl
theorem cs_o_tn {t n a : Nat} {F : Nat → Int} (h : a ≠ c_hp σ) : c_tg (cs_o σ t n F) a = c_tg σ a := if_neg h
theorem cs_o_pn {t n a f : Nat} {F : Nat → Int} (h : a ≠ c_hp σ) : c_pv (cs_o σ t n F) a f = c_pv σ a f := if_neg h
theorem cs_o_ne {t n a : Nat} {F : Nat → Int} (h : a ≠ c_hp σ) : c_ln (cs_o σ t n F) a = c_ln σ a := if_neg h
theorem ext_o (h : GG bd b σ) {t n : Nat} {F : Nat → Int} : Ext b σ (cs_o σ t n F) := by
  have hne : ∀ a, c_tg σ a ≠ 0 → a ≠ c_hp σ := fun a q e => by have := h.lt q; omega
  have hp := h.hp
  refine ⟨Nat.le_succ _, fun a q => ⟨cs_o_tn (hne a q), cs_o_ne (hne a q)⟩, fun a f q => cs_o_pn ?_⟩
  by_cases c : c_tg σ a = 0
  · intro e
    unfold fz fz0 at q
    omega
  · exact hne a c
theorem gg_new (h : GG bd b σ) {t n : Nat} {F : Nat → Int} (hF : ∀ f, inR (F f)) (ho : OI b (cs_o σ t n F) (c_hp σ)) : GG bd b (cs_o σ t n F) ∧ Ext b σ (cs_o σ t n F) := by
  have hE : Ext b σ (cs_o σ t n F) := ext_o h
  have hb : ∀ i, i < 24 → b + i ≠ c_hp σ := fun i hi => by have := h.hp; omega
  refine ⟨⟨fun i hi => ?_, fun q hq => ?_, ⟨fun i f lo hi h24 hr => ?_, fun i => ?_⟩, ?_, fun a => ?_, fun a f => ?_, ?_⟩, hE⟩
  · rw [cs_o_tn (hb i hi), cs_o_ne (hb i hi)]; exact h.1 i hi
  · have hq2 : q.1 < 24 := (by decide : ∀ q ∈ gF, q.1 < 24) q hq
    rw [cs_o_pn (hb _ hq2)]; exact h.2.1 q hq
  · rw [cs_o_pn (hb i h24)]; exact h.2.2.1.1 i f lo hi h24 hr
  · rw [cs_o_pn (hb 17 (by decide)), cs_o_pn (hb 16 (by decide))]; exact h.2.2.1.2 i
  · exact hw_same h.2.2.2.1 (fun j => cs_o_pn (hb 12 (by decide))) (fun j => cs_o_pn (hb 13 (by decide))) (fun j => cs_o_pn (hb 15 (by decide))) (cs_o_pn (hb 9 (by decide))) (fun x q => q.up hE)
  · by_cases e : a = c_hp σ
    · rw [e]; exact ho
    · exact (h.oi a).up hE.z (cs_o_tn e) (fun f => cs_o_pn e)
  · by_cases e : a = c_hp σ
    · rw [e, cs_o_pv]; exact hF f
    · rw [cs_o_pn e]; exact h.ir a f
  · obtain ⟨⟨s1, s2, s3, s3c⟩, ⟨s4, s5, s6⟩, s7, s8, s9, s10⟩ := h.st
    have hp := h.hp
    refine ⟨⟨?_, ?_, s3, fun i hi => (cs_o_pn (by omega)).trans (s3c i hi)⟩, ⟨?_, ?_, s6⟩, s7, fun a ha => ?_, by show b + 24 ≤ c_hp σ + 1; omega, s10⟩
    · rw [cs_o_tn (by omega)]; exact s1
    · rw [cs_o_ne (by omega)]; exact s2
    · rw [cs_o_tn (by omega)]; exact s4
    · rw [cs_o_ne (by omega)]; exact s5
    · show a < c_hp σ + 1
      by_cases e : a = c_hp σ
      · omega
      · rw [cs_o_tn e] at ha; have := s8 a ha; omega
theorem oi_new {t n : Nat} {F : Nat → Int} (h2 : t = 2 → oH (cs_o σ t n F) F) (h4 : t = 4 → oLk (c_hp σ) (cs_o σ t n F) F) (h7 : t = 7 → oNd b (cs_o σ t n F) F) (h9 : t = 9 → oSc (c_hp σ) (cs_o σ t n F) F) (h10 : t = 10 → oSt (cs_o σ t n F) F) : OI b (cs_o σ t n F) (c_hp σ) := by
  have e : c_pv (cs_o σ t n F) (c_hp σ) = F := funext fun f => cs_o_pv
  unfold OI
  rw [cs_o_tg, e]
  exact ⟨h2, h4, h7, h9, h10⟩
theorem gg_head (h : GG bd b σ) {F : Nat → Int} (hF : ∀ f, inR (F f)) (ho : oH σ F) : GG bd b (cs_o σ 2 4 F) ∧ Ext b σ (cs_o σ 2 4 F) := gg_new h hF (oi_new (fun _ => ho.up (ext_o h)) (fun q => by omega) (fun q => by omega) (fun q => by omega) (fun q => by omega))
theorem gg_link (h : GG bd b σ) {F : Nat → Int} (hF : ∀ f, inR (F f)) (ho : oLk (c_hp σ) σ F) : GG bd b (cs_o σ 4 5 F) ∧ Ext b σ (cs_o σ 4 5 F) := gg_new h hF (oi_new (fun q => by omega) (fun _ => ho.up (ext_o h)) (fun q => by omega) (fun q => by omega) (fun q => by omega))
theorem gg_nd (h : GG bd b σ) {F : Nat → Int} (hF : ∀ f, inR (F f)) (ho : oNd b σ F) : GG bd b (cs_o σ 7 11 F) ∧ Ext b σ (cs_o σ 7 11 F) := gg_new h hF (oi_new (fun q => by omega) (fun q => by omega) (fun _ => ho.up (ext_o h)) (fun q => by omega) (fun q => by omega))
theorem gg_scope (h : GG bd b σ) {F : Nat → Int} (hF : ∀ f, inR (F f)) (ho : oSc (c_hp σ) σ F) : GG bd b (cs_o σ 9 5 F) ∧ Ext b σ (cs_o σ 9 5 F) := gg_new h hF (oi_new (fun q => by omega) (fun q => by omega) (fun q => by omega) (fun _ => ho.up (ext_o h)) (fun q => by omega))
theorem gg_stm (h : GG bd b σ) {F : Nat → Int} (hF : ∀ f, inR (F f)) (ho : oSt σ F) : GG bd b (cs_o σ 10 5 F) ∧ Ext b σ (cs_o σ 10 5 F) := gg_new h hF (oi_new (fun q => by omega) (fun q => by omega) (fun q => by omega) (fun q => by omega) (fun _ => ho.up (ext_o h)))
/-- rows and lists: nothing is asked of them -/
theorem gg_row (h : GG bd b σ) {t n : Nat} {F : Nat → Int} (hF : ∀ f, inR (F f)) (ht : t = 13 ∨ (20 ≤ t ∧ t ≤ 23)) : GG bd b (cs_o σ t n F) ∧ Ext b σ (cs_o σ t n F) := gg_new h hF (oi_new (fun q => by omega) (fun q => by omega) (fun q => by omega) (fun q => by omega) (fun q => by omega))
/-- an exception -/
theorem gg_x (h : GG bd b σ) (n : Nat) : GG bd b (cs_x σ n) ∧ Ext b σ (cs_x σ n) := by
  have hE : Ext b σ (cs_x σ n) := ⟨Nat.le_succ _, fun _ _ => ⟨rfl, rfl⟩, fun _ _ _ => rfl⟩
  refine ⟨⟨h.1, h.2.1, h.2.2.1, h.2.2.2.1, h.oi, h.ir, ?_⟩, hE⟩
  obtain ⟨s1, s2, s7, s8, s9, s10⟩ := h.st
  exact ⟨s1, s2, s7, fun a ha => by have := s8 a ha; show a < c_hp σ + 1; omega, by show b + 24 ≤ c_hp σ + 1; omega, s10⟩
/-- the room that is left behind what the life's work may still take: cells, slots, signs put out, counters -/
def RR (bd : cBd) (b : Nat) (σ : CS) (k s o z : Nat) : Prop := (c_hp σ : Int) + 6 * (60000 - c_pv σ (b + 16) 3) + k ≤ bd.1 ∧ (c_sl σ : Int) + 60 * (60000 - c_pv σ (b + 16) 3) + s ≤ bd.2.1 ∧ c_pv σ (b + 16) 7 + 40 * (60000 - c_pv σ (b + 16) 3) + o ≤ 2000000000 ∧ c_pv σ (b + 19) 10 + c_pv σ (b + 3) 3 + c_pv σ (b + 3) 4 + c_pv σ (b + 0) 9 + z ≤ 1000000000
variable {k s o z : Nat}
theorem RR.le {k' s' o' z' : Nat} (h : RR bd b σ k s o z) (h1 : k' ≤ k) (h2 : s' ≤ s) (h3 : o' ≤ o) (h4 : z' ≤ z) : RR bd b σ k' s' o' z' := by
  obtain ⟨a1, a2, a3, a4⟩ := h
  exact ⟨by omega, by omega, by omega, by omega⟩
theorem rr_put (h : RR bd b σ k s o z) (i f : Nat) {y : Int} (hq : (i ≠ 16 ∨ (f ≠ 3 ∧ f ≠ 7)) ∧ (i ≠ 19 ∨ f ≠ 10) ∧ (i ≠ 3 ∨ (f ≠ 3 ∧ f ≠ 4)) ∧ (i ≠ 0 ∨ f ≠ 9)) : RR bd b (cs_p σ (b + i) f y) k s o z := by
  obtain ⟨a1, a2, a3, a4⟩ := h
  have e1 : c_pv (cs_p σ (b + i) f y) (b + 16) 3 = c_pv σ (b + 16) 3 := by
    rw [cs_p_pv]; split
    · rw [if_neg (by omega)]
    · rfl
  have e2 : c_pv (cs_p σ (b + i) f y) (b + 16) 7 = c_pv σ (b + 16) 7 := by
    rw [cs_p_pv]; split
    · rw [if_neg (by omega)]
    · rfl
  have e3 : c_pv (cs_p σ (b + i) f y) (b + 19) 10 = c_pv σ (b + 19) 10 := by
    rw [cs_p_pv]; split
    · rw [if_neg (by omega)]
    · rfl
  have e4 : c_pv (cs_p σ (b + i) f y) (b + 3) 3 = c_pv σ (b + 3) 3 := by
    rw [cs_p_pv]; split
    · rw [if_neg (by omega)]
    · rfl
  have e5 : c_pv (cs_p σ (b + i) f y) (b + 3) 4 = c_pv σ (b + 3) 4 := by
    rw [cs_p_pv]; split
    · rw [if_neg (by omega)]
    · rfl
  have e6 : c_pv (cs_p σ (b + i) f y) (b + 0) 9 = c_pv σ (b + 0) 9 := by
    rw [cs_p_pv]; split
    · rw [if_neg (by omega)]
    · rfl
  unfold RR
  rw [e1, e2, e3, e4, e5, e6]
  exact ⟨a1, a2, a3, a4⟩
theorem rr_far (h : RR bd b σ k s o z) {a f : Nat} {y : Int} (ha : ∀ i, i < 24 → b + i ≠ a) : RR bd b (cs_p σ a f y) k s o z := by
  unfold RR
  rw [cs_p_na (ha 16 (by decide)), cs_p_na (ha 16 (by decide)), cs_p_na (ha 19 (by decide)), cs_p_na (ha 3 (by decide)), cs_p_na (ha 3 (by decide)), cs_p_na (ha 0 (by decide))]
  exact h
theorem rr_life (h : RR bd b σ k s o z) : RR bd b (cs_p σ (b + 16) 3 (c_pv σ (b + 16) 3 + 1)) (k + 6) (s + 60) (o + 40) z := by
  obtain ⟨a1, a2, a3, a4⟩ := h
  unfold RR
  rw [cs_p_eq, cs_p_nf (g := 7) (by decide), cs_p_na (q := b + 19) (by omega), cs_p_na (q := b + 3) (by omega), cs_p_na (q := b + 3) (by omega), cs_p_na (q := b + 0) (by omega)]
  have e1 : c_hp (cs_p σ (b + 16) 3 (c_pv σ (b + 16) 3 + 1)) = c_hp σ := rfl
  have e2 : c_sl (cs_p σ (b + 16) 3 (c_pv σ (b + 16) 3 + 1)) = c_sl σ := rfl
  rw [e1, e2]
  exact ⟨by omega, by omega, by omega, by omega⟩
theorem rr_out (h : RR bd b σ k s (o + 1) z) : RR bd b (cs_p σ (b + 16) 7 (c_pv σ (b + 16) 7 + 1)) k s o z := by
  obtain ⟨a1, a2, a3, a4⟩ := h
  unfold RR
  rw [cs_p_eq, cs_p_nf (g := 3) (by decide), cs_p_na (q := b + 19) (by omega), cs_p_na (q := b + 3) (by omega), cs_p_na (q := b + 3) (by omega), cs_p_na (q := b + 0) (by omega)]
  exact ⟨a1, a2, by omega, a4⟩
theorem rr_new (hG : GG bd b σ) {t n : Nat} {F : Nat → Int} (h : RR bd b σ (k + 1) (s + n) o z) : RR bd b (cs_o σ t n F) k s o z := by
  have hb : ∀ i, i < 24 → b + i ≠ c_hp σ := fun i hi => by have := hG.hp; omega
  obtain ⟨a1, a2, a3, a4⟩ := h
  unfold RR
  rw [cs_o_pn (hb 16 (by decide)), cs_o_pn (hb 16 (by decide)), cs_o_pn (hb 19 (by decide)), cs_o_pn (hb 3 (by decide)), cs_o_pn (hb 3 (by decide)), cs_o_pn (hb 0 (by decide))]
  have e1 : c_hp (cs_o σ t n F) = c_hp σ + 1 := rfl
  have e2 : c_sl (cs_o σ t n F) = c_sl σ + n := rfl
  rw [e1, e2]
  exact ⟨by omega, by omega, a3, a4⟩
theorem rr_x {n : Nat} (h : RR bd b σ (k + 1) (s + n) o z) : RR bd b (cs_x σ n) k s o z := by
  obtain ⟨a1, a2, a3, a4⟩ := h
  have e1 : c_hp (cs_x σ n) = c_hp σ + 1 := rfl
  have e2 : c_sl (cs_x σ n) = c_sl σ + n := rfl
  unfold RR
  rw [e1, e2]
  exact ⟨by show _ + 6 * (60000 - c_pv σ (b + 16) 3) + _ ≤ _; omega, by show _ + 60 * (60000 - c_pv σ (b + 16) 3) + _ ≤ _; omega, a3, a4⟩
/-- room for one cell of n slots -/
theorem rr_room (hG : GG bd b σ) {n : Nat} (h : RR bd b σ (k + 1) (s + n) o z) : c_hp σ + 1 ≤ bd.1 ∧ c_sl σ + n ≤ bd.2.1 ∧ c_hp σ < 2147483648 := by
  obtain ⟨a1, a2, a3, a4⟩ := h
  have h1 := hG.nu 16 3
  have h2 := hG.bnd
  exact ⟨by omega, by omega, by omega⟩
theorem hp_R (h : GG bd b σ) (hr : RR bd b σ k s o z) : inR ((c_hp σ : Nat) : Int) := by
  have h1 := hr.1
  have h2 := h.nu 16 3
  have h3 := h.bnd
  exact ⟨by omega, by omega⟩
theorem hp_M (h : GG bd b σ) (hr : RR bd b σ k s o z) : c_hp σ < 1000000 := by
  have h1 := hr.1
  have h2 := h.nu 16 3
  have h3 := h.bnd
  omega
theorem ref_lt (h : GG bd b σ) {x : Int} {t : Nat} (hx : 0 ≤ x ∧ c_tg σ x.toNat = t) (ht : t ≠ 0) : x < (c_hp σ : Int) := by
  have := h.lt (a := x.toNat) (by rw [hx.2]; exact ht)
  omega
theorem ref_R (h : GG bd b σ) (hr : RR bd b σ k s o z) {x : Int} {t : Nat} (hx : 0 ≤ x ∧ c_tg σ x.toNat = t) (ht : t ≠ 0) : inR x := by
  have h1 := ref_lt h hx ht
  have h2 := hp_R h hr
  exact ⟨by omega, by have := h2.2; omega⟩
end CIC
section CID
variable {bd : cBd} {b d : Nat} {σ σ' σ1 : CS} {Q : CS → Nat → Int → Prop} {k s o z : Nat}
/-- numbers that may be put as they are -/
def gpc (i f : Nat) : Bool := decide (i < 24) && gF.all (fun q => !(q.1 == i && q.2.1 == f)) && !(i == 17) && !(i == 16 && (f == 3 || f == 4 || f == 7)) && !(i == 12) && !(i == 13) && !(i == 15) && !(i == 9 && f == 2) && !(i == 19 && f == 10) && !(i == 3 && (f == 3 || f == 4 || f == 10)) && !(i == 0 && (f == 6 || f == 9))
def gpr (i : Nat) : Bool := decide (i < 24) && gF.all (fun q => !(q.1 == i)) && !(i == 17) && !(i == 16) && !(i == 12) && !(i == 13) && !(i == 15) && !(i == 9) && !(i == 19) && !(i == 3) && !(i == 0)
theorem gpr_c {i f : Nat} (h : gpr i = true) : gpc i f = true := by
  unfold gpr at h
  simp only [Bool.and_eq_true, Bool.not_eq_true', decide_eq_true_eq, beq_eq_false_iff_ne] at h
  obtain ⟨⟨⟨⟨⟨⟨⟨⟨⟨⟨h1, h2⟩, h3⟩, h4⟩, h5⟩, h6⟩, h7⟩, h8⟩, h9⟩, h10⟩, h11⟩ := h
  have h2' : gF.all (fun q => !(q.1 == i && q.2.1 == f)) = true := by
    refine List.all_eq_true.mpr (fun q hq => ?_)
    have h1 := List.all_eq_true.mp h2 q hq
    simp at h1
    simp [h1]
  unfold gpc
  rw [h2']
  simp [h1, h3, h4, h5, h6, h7, h8, h9, h10, h11]
theorem fz_g (h : GG bd b σ) {i f : Nat} (hi : i < 24) (h16 : i ≠ 16 ∨ f ≠ 4) (h3 : i ≠ 3 ∨ f ≠ 10) (h0 : i ≠ 0 ∨ f ≠ 6) : ¬ fz b σ (b + i) f := by
  have ht := (h.1 i hi).1
  have hn := gt_ne i hi
  unfold fz fz0
  rw [ht]
  omega
theorem P0 (G : GG bd b σ) (R : RR bd b σ k s o z) {i f : Nat} {y : Int} (e : σ1 = cs_p σ (b + i) f y) (hc : gpc i f = true) (hy : inR y) (hr : ∀ lo hi, gr i f = some (lo, hi) → lo ≤ y ∧ y ≤ hi) : GG bd b σ1 ∧ Ext b σ σ1 ∧ RR bd b σ1 k s o z ∧ (∀ a g, (a ≠ b + i ∨ g ≠ f) → c_pv σ1 a g = c_pv σ a g) ∧ c_pv σ1 (b + i) f = y := by
  unfold gpc at hc
  simp only [Bool.and_eq_true, Bool.not_eq_true', Bool.and_eq_false_iff, Bool.or_eq_false_iff, decide_eq_true_eq, beq_eq_false_iff_ne] at hc
  obtain ⟨⟨⟨⟨⟨⟨⟨⟨⟨⟨h1, h2⟩, h3⟩, h4⟩, h5⟩, h6⟩, h7⟩, h8⟩, h9⟩, h10⟩, h11⟩ := hc
  subst e
  refine ⟨gg_put G i f hy h1 (by simpa using h2) hr (Or.inl ⟨h3, by omega⟩) (hw_put G (by omega)), ext_p (fz_g G h1 (by omega) (by omega) (by omega)), rr_put R i f (by omega), fun a g hq => ?_, cs_p_eq⟩
  rcases hq with hq | hq
  · exact cs_p_na hq
  · exact cs_p_nf hq
/-- a Node's number -/
theorem P7 (G : GG bd b σ) (R : RR bd b σ k s o z) {x : Int} (hx : oN σ x) {f : Nat} {y : Int} (e : σ1 = cs_p σ x.toNat f y) (hy : inR y) (hf : f = 2 ∨ f = 3 ∨ f = 9 ∨ f = 10 ∨ (f = 4 ∧ 0 ≤ y ∧ y ≤ 5000) ∨ (f = 5 ∧ 0 ≤ y ∧ y ≤ 5000) ∨ (c_pv σ x.toNat 6 < 0 ∧ ((f = 0 ∧ 0 ≤ y ∧ y ≤ 3) ∨ (f = 1 ∧ oid y)))) : GG bd b σ1 ∧ Ext b σ σ1 ∧ RR bd b σ1 k s o z ∧ (∀ a g, (a ≠ x.toNat ∨ g ≠ f) → c_pv σ1 a g = c_pv σ a g) := by
  subst e
  obtain ⟨h1, h2⟩ := gg_node G hx f hy hf
  refine ⟨h1, h2, rr_far R (fun i hi => G.ne i hi (by rw [hx.2]; exact fun e => (gt_ne i hi).2.2.2.1 e.symm)), fun a g hq => ?_⟩
  rcases hq with hq | hq
  · exact cs_p_na hq
  · exact cs_p_nf hq
/-- what a word comes to: it returns (0), or ends by a fault (1) -/
def PO (bd : cBd) (b : Nat) (σ : CS) (k s o z : Nat) (T : CS → Int → Prop) (σ' : CS) (kd : Nat) (r : Int) : Prop := (kd = 0 ∧ inR r ∧ GG bd b σ' ∧ Ext b σ σ' ∧ RR bd b σ' k s o z ∧ T σ' r) ∨ (kd = 1 ∧ r = 0 ∧ GG bd b σ' ∧ Ext b σ σ' ∧ RR bd b σ' k s o z)
def PZ (bd : cBd) (b : Nat) (σ : CS) (k s o z : Nat) (T : CS → Int → Prop) (σ' : CS) (kd : Nat) (r : Int) : Prop := kd = 0 ∧ inR r ∧ GG bd b σ' ∧ Ext b σ σ' ∧ RR bd b σ' k s o z ∧ T σ' r
def PU (σ : CS) (T : Int → Prop) (σ' : CS) (kd : Nat) (r : Int) : Prop := kd = 0 ∧ inR r ∧ σ' = σ ∧ T r
theorem fin_O {T : CS → Int → Prop} {p : CO} (h : sf p (PO bd b σ k s o z T)) : sf (cc_fin p) (PO bd b σ k s o z T) := by
  refine sf_fin (sf_mono h (fun σ' kd r q => ⟨?_, q⟩))
  rcases q with q | q
  · exact q.2.1
  · rw [q.2.1]; exact ⟨by decide, by decide⟩
theorem fin_Z {T : CS → Int → Prop} {p : CO} (h : sf p (PZ bd b σ k s o z T)) : sf (cc_fin p) (PZ bd b σ k s o z T) := sf_fin (sf_mono h (fun σ' kd r q => ⟨q.2.1, q⟩))
theorem fin_U {T : Int → Prop} {p : CO} (h : sf p (PU σ T)) : sf (cc_fin p) (PU σ T) := sf_fin (sf_mono h (fun σ' kd r q => ⟨q.2.1, q⟩))
theorem ret_O {T : CS → Int → Prop} {σ0 : CS} {r : Int} (hr : inR r) (G : GG bd b σ) (E : Ext b σ0 σ) (R : RR bd b σ k s o z) (t : T σ r) : sf (some (σ, 0, r)) (PO bd b σ0 k s o z T) := sf_some (Or.inl ⟨rfl, hr, G, E, R, t⟩)
theorem ret_Z {T : CS → Int → Prop} {σ0 : CS} {r : Int} (hr : inR r) (G : GG bd b σ) (E : Ext b σ0 σ) (R : RR bd b σ k s o z) (t : T σ r) : sf (some (σ, 0, r)) (PZ bd b σ0 k s o z T) := sf_some ⟨rfl, hr, G, E, R, t⟩
theorem ret_U {T : Int → Prop} {r : Int} (hr : inR r) (t : T r) : sf (some (σ, 0, r)) (PU σ T) := sf_some ⟨rfl, hr, rfl, t⟩
theorem thr_O {T : CS → Int → Prop} {σ0 : CS} (G : GG bd b σ) (E : Ext b σ0 σ) (R : RR bd b σ (k + 1) (s + 6) o z) : sf (cc_x σ bd 1) (PO bd b σ0 k s o z T) := by
  have hm := rr_room G R
  have h3 := gg_x G 6
  exact sf_x ⟨hm.1, hm.2.1⟩ (Or.inr ⟨rfl, rfl, h3.1, E.trans h3.2, rr_x R⟩)
theorem cl_U {o1 : CO} {K : CS → Int → CO} {T : Int → Prop} (h : sf o1 (PU σ T)) (h0 : ∀ r, inR r → T r → sf (K σ r) Q) : sf (cc_cl o1 K) Q := sf_cl h (fun σ' r hp => by obtain ⟨-, hi, rfl, hz⟩ := hp; exact h0 r hi hz) (fun σ' kd r hk hp => absurd hp.1 hk)
theorem cn_U {o1 : CO} {K : CS → Int → CO} {T : Int → Prop} (h : sf o1 (PU σ T)) (h0 : ∀ r, inR r → T r → sf (K σ r) Q) : sf (cc_cn o1 K) Q := sf_cn h (fun σ' kd r hp => by obtain ⟨hk, hi, rfl, hz⟩ := hp; exact ⟨hk, h0 r hi hz⟩)
theorem cl_Z {o1 : CO} {K : CS → Int → CO} {T : CS → Int → Prop} (h : sf o1 (PZ bd b σ k s o z T)) (h0 : ∀ σ' r, inR r → GG bd b σ' → Ext b σ σ' → RR bd b σ' k s o z → T σ' r → sf (K σ' r) Q) : sf (cc_cl o1 K) Q := sf_cl h (fun σ' r hp => h0 σ' r hp.2.1 hp.2.2.1 hp.2.2.2.1 hp.2.2.2.2.1 hp.2.2.2.2.2) (fun σ' kd r hk hp => absurd hp.1 hk)
theorem cn_Z {o1 : CO} {K : CS → Int → CO} {T : CS → Int → Prop} (h : sf o1 (PZ bd b σ k s o z T)) (h0 : ∀ σ' r, inR r → GG bd b σ' → Ext b σ σ' → RR bd b σ' k s o z → T σ' r → sf (K σ' r) Q) : sf (cc_cn o1 K) Q := sf_cn h (fun σ' kd r hp => ⟨hp.1, h0 σ' r hp.2.1 hp.2.2.1 hp.2.2.2.1 hp.2.2.2.2.1 hp.2.2.2.2.2⟩)
theorem ci_Z {o1 : CO} {K : CS → CO} {T : CS → Int → Prop} (h : sf o1 (PZ bd b σ k s o z T)) (h0 : ∀ σ' r, inR r → GG bd b σ' → Ext b σ σ' → RR bd b σ' k s o z → T σ' r → sf (K σ') Q) : sf (cc_ci o1 K) Q := sf_ci h (fun σ' kd r hp => ⟨hp.1, h0 σ' r hp.2.1 hp.2.2.1 hp.2.2.2.1 hp.2.2.2.2.1 hp.2.2.2.2.2⟩)
/-- a call within a word that has come from σ0 to σ -/
theorem cl_O {σ0 : CS} {k' s' o' z' : Nat} {o1 : CO} {K : CS → Int → CO} {T T' : CS → Int → Prop} (h : sf o1 (PO bd b σ k s o z T)) (e : Ext b σ0 σ) (hk : k' ≤ k) (hs : s' ≤ s) (ho : o' ≤ o) (hz : z' ≤ z) (h0 : ∀ σ' r, inR r → GG bd b σ' → Ext b σ σ' → RR bd b σ' k s o z → T σ' r → sf (K σ' r) (PO bd b σ0 k' s' o' z' T')) : sf (cc_cl o1 K) (PO bd b σ0 k' s' o' z' T') :=
  sf_cl h (fun σ' r hp => by
    rcases hp with q | q
    · exact h0 σ' r q.2.1 q.2.2.1 q.2.2.2.1 q.2.2.2.2.1 q.2.2.2.2.2
    · exact absurd q.1 (by decide)) (fun σ' kd r hk' hp => by
    rcases hp with q | q
    · exact absurd q.1 hk'
    · exact Or.inr ⟨q.1, q.2.1, q.2.2.1, e.trans q.2.2.2.1, q.2.2.2.2.le hk hs ho hz⟩)
theorem tr_Z {T : CS → Int → Prop} {σ0 : CS} {p : CO} (e : Ext b σ0 σ) (h : sf p (PZ bd b σ k s o z T)) : sf p (PZ bd b σ0 k s o z T) := sf_mono h (fun σ' kd r q => ⟨q.1, q.2.1, q.2.2.1, e.trans q.2.2.2.1, q.2.2.2.2⟩)
theorem tr_O {T : CS → Int → Prop} {σ0 : CS} {p : CO} (e : Ext b σ0 σ) (h : sf p (PO bd b σ k s o z T)) : sf p (PO bd b σ0 k s o z T) := sf_mono h (fun σ' kd r q => by
  rcases q with q | q
  · exact Or.inl ⟨q.1, q.2.1, q.2.2.1, e.trans q.2.2.2.1, q.2.2.2.2⟩
  · exact Or.inr ⟨q.1, q.2.1, q.2.2.1, e.trans q.2.2.2.1, q.2.2.2.2⟩)
/-- a call whose fault is caught -/
theorem ct_O {o1 : CO} {K : CS → Int → CO} {H9 : CS → CO} {T : CS → Int → Prop} (h : sf o1 (PO bd b σ k s o z T)) (h0 : ∀ σ' r, inR r → GG bd b σ' → Ext b σ σ' → RR bd b σ' k s o z → T σ' r → sf (K σ' r) Q) (h1 : ∀ σ', GG bd b σ' → Ext b σ σ' → RR bd b σ' k s o z → sf (H9 σ') Q) : sf (cc_ct o1 K H9) Q :=
  sf_ct h (fun σ' r hp => by
    rcases hp with q | q
    · exact h0 σ' r q.2.1 q.2.2.1 q.2.2.2.1 q.2.2.2.2.1 q.2.2.2.2.2
    · exact absurd q.1 (by decide)) (fun σ' kd r hk' hp => by
    rcases hp with q | q
    · exact absurd q.1 hk'
    · exact ⟨q.1, h1 σ' q.2.2.1 q.2.2.2.1 q.2.2.2.2⟩)
end CID
