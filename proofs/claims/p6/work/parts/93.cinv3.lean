section CIC
variable {bd : cBd} {b : Nat} {σ σ' : CS} {Q : CS → Nat → Int → Prop}
theorem sf_gN {n t f : Nat} {k : Int → CO} (hx : c_tg σ n = t) (h : sf (k (c_pv σ n f)) Q) : sf (cc_g σ t f ((n : Nat) : Int) k) Q := sf_g ⟨by omega, by rw [Int.toNat_natCast]; exact hx⟩ (by rw [Int.toNat_natCast]; exact h)
theorem sf_pN {n t f : Nat} {y : Int} {k : CS → CO} (hx : c_tg σ n = t) (h : sf (k (cs_p σ n f y)) Q) : sf (cc_p σ t f ((n : Nat) : Int) y k) Q := sf_p ⟨by omega, by rw [Int.toNat_natCast]; exact hx⟩ (by rw [Int.toNat_natCast]; exact h)
theorem sf_tN {n t : Nat} {k : CO} (hx : c_tg σ n = t) (h : sf k Q) : sf (cc_t σ t ((n : Nat) : Int) k) Q := sf_t ⟨by omega, by rw [Int.toNat_natCast]; exact hx⟩ h
theorem sf_lN {n t : Nat} {k : Int → CO} (hx : c_tg σ n = t) (hn : c_ln σ n ≤ 2147483647) (h : sf (k (c_ln σ n : Int)) Q) : sf (cc_l σ t ((n : Nat) : Int) k) Q := sf_l ⟨by omega, by rw [Int.toNat_natCast]; exact hx⟩ (by rw [Int.toNat_natCast]; exact hn) (by rw [Int.toNat_natCast]; exact h)
theorem sf_rN {n t : Nat} {i : Int} {k : Int → CO} (hx : c_tg σ n = t) (hi : 0 ≤ i ∧ i < (c_ln σ n : Int)) (h : sf (k (c_pv σ n i.toNat)) Q) : sf (cc_r σ t ((n : Nat) : Int) i k) Q := sf_r ⟨by omega, by rw [Int.toNat_natCast]; exact hx⟩ (by rw [Int.toNat_natCast]; exact hi) (by rw [Int.toNat_natCast]; exact h)
theorem sf_wN {n t : Nat} {i y : Int} {k : CS → CO} (hx : c_tg σ n = t) (hi : 0 ≤ i ∧ i < (c_ln σ n : Int)) (h : sf (k (cs_p σ n i.toNat y)) Q) : sf (cc_w σ t ((n : Nat) : Int) i y k) Q := sf_w ⟨by omega, by rw [Int.toNat_natCast]; exact hx⟩ (by rw [Int.toNat_natCast]; exact hi) (by rw [Int.toNat_natCast]; exact h)
/-- a new object whose fields are told -/
def cs_o (σ : CS) (t n : Nat) (F : Nat → Int) : CS := (fun a => if a = c_hp σ then t else c_tg σ a, fun a f => if a = c_hp σ then F f else c_pv σ a f, fun a => if a = c_hp σ then n else c_ln σ a, c_hp σ + 1, c_sl σ + n)
theorem cs_n_o {t n : Nat} : cs_n σ t n = cs_o σ t n (fun g => if cw_isR t g = true then -1 else 0) := rfl
theorem cs_o_p {t n f : Nat} {F : Nat → Int} {y : Int} : cs_p (cs_o σ t n F) (c_hp σ) f y = cs_o σ t n (fun g => if g = f then y else F g) := by
  unfold cs_p cs_o
  refine Prod.ext rfl (Prod.ext ?_ rfl)
  funext a g
  show (if a = c_hp σ then (if g = f then y else (if a = c_hp σ then F g else c_pv σ a g)) else (if a = c_hp σ then F g else c_pv σ a g)) = (if a = c_hp σ then (if g = f then y else F g) else c_pv σ a g)
  by_cases h : a = c_hp σ
  · simp [h]
  · simp [h]
theorem cs_o_tg {t n : Nat} {F : Nat → Int} : c_tg (cs_o σ t n F) (c_hp σ) = t := if_pos rfl
theorem cs_o_pv {t n f : Nat} {F : Nat → Int} : c_pv (cs_o σ t n F) (c_hp σ) f = F f := if_pos rfl
theorem cs_o_ln {t n : Nat} {F : Nat → Int} : c_ln (cs_o σ t n F) (c_hp σ) = n := if_pos rfl
theorem cs_o_tn {t n a : Nat} {F : Nat → Int} (h : a ≠ c_hp σ) : c_tg (cs_o σ t n F) a = c_tg σ a := if_neg h
theorem cs_o_pn {t n a f : Nat} {F : Nat → Int} (h : a ≠ c_hp σ) : c_pv (cs_o σ t n F) a f = c_pv σ a f := if_neg h
theorem cs_o_ne {t n a : Nat} {F : Nat → Int} (h : a ≠ c_hp σ) : c_ln (cs_o σ t n F) a = c_ln σ a := if_neg h
theorem ext_o (hl : ∀ a, c_tg σ a ≠ 0 → a < c_hp σ) {t n : Nat} {F : Nat → Int} : Ext b σ (cs_o σ t n F) := by
  have hne : ∀ a, c_tg σ a ≠ 0 → a ≠ c_hp σ := fun a h e => by have := hl a h; omega
  exact ⟨Nat.le_succ _, fun a h => ⟨cs_o_tn (hne a h), cs_o_ne (hne a h)⟩, fun a h f _ => cs_o_pn (hne a (by rw [h]; decide)), fun a h _ i => cs_o_pn (hne a (by rw [h]; decide)), fun a h f => cs_o_pn (hne a (by rw [h]; decide))⟩
theorem gg_new (h : GG bd b σ) {t n : Nat} {F : Nat → Int} (hF : ∀ f, inR (F f)) (ho : OI b (cs_o σ t n F) (c_hp σ)) : GG bd b (cs_o σ t n F) ∧ Ext b σ (cs_o σ t n F) := by
  have hE : Ext b σ (cs_o σ t n F) := ext_o (fun a => h.lt)
  have hb : ∀ i, i < 24 → b + i ≠ c_hp σ := fun i hi => by have := h.hp; omega
  refine ⟨⟨fun i hi => ?_, fun q hq => ?_, ⟨fun i f lo hi h24 hr => ?_, fun i => ?_⟩, ?_, fun a => ?_, fun a f => ?_, ?_⟩, hE⟩
  · rw [cs_o_tn (hb i hi), cs_o_ne (hb i hi)]; exact h.1 i hi
  · have hq2 : q.1 < 24 := (by decide : ∀ q ∈ gF, q.1 < 24) q hq
    rw [cs_o_pn (hb _ hq2)]; exact h.2.1 q hq
  · rw [cs_o_pn (hb i h24)]; exact h.2.2.1.1 i f lo hi h24 hr
  · rw [cs_o_pn (hb 17 (by decide)), cs_o_pn (hb 16 (by decide))]; exact h.2.2.1.2 i
  · obtain ⟨w1, w2, hw', w3, w4, w5, w6⟩ := h.2.2.2.1
    refine ⟨fun j hj => ?_, fun j hj => ?_, hw', w3, ?_, fun j hj => ?_, fun j hj => ?_⟩
    · rw [cs_o_pn (hb 12 (by decide))]; exact (w1 j hj).up hE
    · rw [cs_o_pn (hb 13 (by decide))]; exact (w2 j hj).up hE
    · rw [cs_o_pn (hb 9 (by decide))]; exact w4
    · rw [cs_o_pn (hb 15 (by decide))]; exact w5 j hj
    · rw [cs_o_pn (hb 12 (by decide))]; exact (w6 j hj).up hE
  · by_cases e : a = c_hp σ
    · rw [e]; exact ho
    · exact (h.oi a).up hE (cs_o_tn e) (fun _ f => cs_o_pn e)
  · by_cases e : a = c_hp σ
    · rw [e, cs_o_pv]; exact hF f
    · rw [cs_o_pn e]; exact h.ir a f
  · obtain ⟨⟨s1, s2, s3⟩, ⟨s4, s5, s6⟩, s7, s8, s9, s10⟩ := h.st
    have hp := h.hp
    refine ⟨⟨?_, ?_, s3⟩, ⟨?_, ?_, s6⟩, s7, fun a ha => ?_, by show b + 24 ≤ c_hp σ + 1; omega, s10⟩
    · rw [cs_o_tn (by omega)]; exact s1
    · rw [cs_o_ne (by omega)]; exact s2
    · rw [cs_o_tn (by omega)]; exact s4
    · rw [cs_o_ne (by omega)]; exact s5
    · show a < c_hp σ + 1
      by_cases e : a = c_hp σ
      · omega
      · rw [cs_o_tn e] at ha; have := s8 a ha; omega
theorem oi_new {t n : Nat} {F : Nat → Int} (h2 : t = 2 → oH (cs_o σ t n F) F) (h4 : t = 4 → oLk (c_hp σ) (cs_o σ t n F) F) (h7 : t = 7 → oNd b (cs_o σ t n F) F) (h9 : t = 9 → oSc (c_hp σ) (cs_o σ t n F) F) (h10 : t = 10 → oSt (cs_o σ t n F) F) : OI b (cs_o σ t n F) (c_hp σ) := by
  have e : c_pv (cs_o σ t n F) (c_hp σ) = F := funext fun f => cs_o_pv
  unfold OI
  rw [cs_o_tg, e]
  exact ⟨h2, h4, h7, h9, h10⟩
theorem gg_head (h : GG bd b σ) {F : Nat → Int} (hF : ∀ f, inR (F f)) (ho : oH σ F) : GG bd b (cs_o σ 2 4 F) ∧ Ext b σ (cs_o σ 2 4 F) := gg_new h hF (oi_new (fun _ => ho.up (ext_o (b := b) (fun a => h.lt))) (fun q => by omega) (fun q => by omega) (fun q => by omega) (fun q => by omega))
theorem gg_link (h : GG bd b σ) {F : Nat → Int} (hF : ∀ f, inR (F f)) (ho : oLk (c_hp σ) σ F) : GG bd b (cs_o σ 4 5 F) ∧ Ext b σ (cs_o σ 4 5 F) := gg_new h hF (oi_new (fun q => by omega) (fun _ => ho.up (ext_o (b := b) (fun a => h.lt))) (fun q => by omega) (fun q => by omega) (fun q => by omega))
theorem gg_nd (h : GG bd b σ) {F : Nat → Int} (hF : ∀ f, inR (F f)) (ho : oNd b σ F) : GG bd b (cs_o σ 7 11 F) ∧ Ext b σ (cs_o σ 7 11 F) := gg_new h hF (oi_new (fun q => by omega) (fun q => by omega) (fun _ => ho.up (ext_o (b := b) (fun a => h.lt))) (fun q => by omega) (fun q => by omega))
theorem gg_scope (h : GG bd b σ) {F : Nat → Int} (hF : ∀ f, inR (F f)) (ho : oSc (c_hp σ) σ F) : GG bd b (cs_o σ 9 5 F) ∧ Ext b σ (cs_o σ 9 5 F) := gg_new h hF (oi_new (fun q => by omega) (fun q => by omega) (fun q => by omega) (fun _ => ho.up (ext_o (b := b) (fun a => h.lt))) (fun q => by omega))
theorem gg_stm (h : GG bd b σ) {F : Nat → Int} (hF : ∀ f, inR (F f)) (ho : oSt σ F) : GG bd b (cs_o σ 10 5 F) ∧ Ext b σ (cs_o σ 10 5 F) := gg_new h hF (oi_new (fun q => by omega) (fun q => by omega) (fun q => by omega) (fun q => by omega) (fun _ => oK.up ho (ext_o (b := b) (fun a => h.lt))))
/-- an exception -/
theorem gg_x (h : GG bd b σ) (n : Nat) : GG bd b (cs_x σ n) ∧ Ext b σ (cs_x σ n) := by
  have hE : Ext b σ (cs_x σ n) := ⟨Nat.le_succ _, fun _ _ => ⟨rfl, rfl⟩, fun _ _ _ _ => rfl, fun _ _ _ _ => rfl, fun _ _ _ => rfl⟩
  refine ⟨⟨h.1, h.2.1, h.2.2.1, h.2.2.2.1, h.oi, h.ir, ?_⟩, hE⟩
  obtain ⟨s1, s2, s7, s8, s9, s10⟩ := h.st
  exact ⟨s1, s2, s7, fun a ha => by have := s8 a ha; show a < c_hp σ + 1; omega, by show b + 24 ≤ c_hp σ + 1; omega, s10⟩
/-- the room that is left behind what the life's work may still take: cells, slots, signs put out, counters -/
def RR (bd : cBd) (b : Nat) (σ : CS) (k s o z : Nat) : Prop := (c_hp σ : Int) + 6 * (60000 - c_pv σ (b + 16) 3) + k ≤ bd.1 ∧ (c_sl σ : Int) + 60 * (60000 - c_pv σ (b + 16) 3) + s ≤ bd.2.1 ∧ c_pv σ (b + 16) 7 + 40 * (60000 - c_pv σ (b + 16) 3) + o ≤ 2000000000 ∧ c_pv σ (b + 19) 10 + c_pv σ (b + 3) 3 + c_pv σ (b + 3) 4 + z ≤ 1000000000
variable {k s o z : Nat}
theorem RR.le {k' s' o' z' : Nat} (h : RR bd b σ k s o z) (h1 : k' ≤ k) (h2 : s' ≤ s) (h3 : o' ≤ o) (h4 : z' ≤ z) : RR bd b σ k' s' o' z' := by
  obtain ⟨a1, a2, a3, a4⟩ := h
  exact ⟨by omega, by omega, by omega, by omega⟩
theorem rr_put (h : RR bd b σ k s o z) (i f : Nat) {y : Int} (hq : (i ≠ 16 ∨ (f ≠ 3 ∧ f ≠ 7)) ∧ (i ≠ 19 ∨ f ≠ 10) ∧ (i ≠ 3 ∨ (f ≠ 3 ∧ f ≠ 4))) : RR bd b (cs_p σ (b + i) f y) k s o z := by
  obtain ⟨a1, a2, a3, a4⟩ := h
  have e1 : c_pv (cs_p σ (b + i) f y) (b + 16) 3 = c_pv σ (b + 16) 3 := by
    rw [cs_p_pv]; split
    · rw [if_neg (by omega)]
    · rfl
  have e2 : c_pv (cs_p σ (b + i) f y) (b + 16) 7 = c_pv σ (b + 16) 7 := by
    rw [cs_p_pv]; split
    · rw [if_neg (by omega)]
    · rfl
  have e3 : c_pv (cs_p σ (b + i) f y) (b + 19) 10 = c_pv σ (b + 19) 10 := by
    rw [cs_p_pv]; split
    · rw [if_neg (by omega)]
    · rfl
  have e4 : c_pv (cs_p σ (b + i) f y) (b + 3) 3 = c_pv σ (b + 3) 3 := by
    rw [cs_p_pv]; split
    · rw [if_neg (by omega)]
    · rfl
  have e5 : c_pv (cs_p σ (b + i) f y) (b + 3) 4 = c_pv σ (b + 3) 4 := by
    rw [cs_p_pv]; split
    · rw [if_neg (by omega)]
    · rfl
  unfold RR
  rw [e1, e2, e3, e4, e5]
  exact ⟨a1, a2, a3, a4⟩
theorem rr_far (h : RR bd b σ k s o z) {a f : Nat} {y : Int} (ha : ∀ i, i < 24 → b + i ≠ a) : RR bd b (cs_p σ a f y) k s o z := by
  unfold RR
  rw [cs_p_na (ha 16 (by decide)), cs_p_na (ha 16 (by decide)), cs_p_na (ha 19 (by decide)), cs_p_na (ha 3 (by decide)), cs_p_na (ha 3 (by decide))]
  exact h
theorem rr_life (h : RR bd b σ k s o z) : RR bd b (cs_p σ (b + 16) 3 (c_pv σ (b + 16) 3 + 1)) (k + 6) (s + 60) (o + 40) z := by
  obtain ⟨a1, a2, a3, a4⟩ := h
  unfold RR
  rw [cs_p_eq, cs_p_nf (g := 7) (by decide), cs_p_na (q := b + 19) (by omega), cs_p_na (q := b + 3) (by omega), cs_p_na (q := b + 3) (by omega)]
  have e1 : c_hp (cs_p σ (b + 16) 3 (c_pv σ (b + 16) 3 + 1)) = c_hp σ := rfl
  have e2 : c_sl (cs_p σ (b + 16) 3 (c_pv σ (b + 16) 3 + 1)) = c_sl σ := rfl
  rw [e1, e2]
  exact ⟨by omega, by omega, by omega, by omega⟩
theorem rr_out (h : RR bd b σ k s (o + 1) z) : RR bd b (cs_p σ (b + 16) 7 (c_pv σ (b + 16) 7 + 1)) k s o z := by
  obtain ⟨a1, a2, a3, a4⟩ := h
  unfold RR
  rw [cs_p_eq, cs_p_nf (g := 3) (by decide), cs_p_na (q := b + 19) (by omega), cs_p_na (q := b + 3) (by omega), cs_p_na (q := b + 3) (by omega)]
  exact ⟨a1, a2, by omega, a4⟩
theorem rr_new (hG : GG bd b σ) {t n : Nat} {F : Nat → Int} (h : RR bd b σ (k + 1) (s + n) o z) : RR bd b (cs_o σ t n F) k s o z := by
  have hb : ∀ i, i < 24 → b + i ≠ c_hp σ := fun i hi => by have := hG.hp; omega
  obtain ⟨a1, a2, a3, a4⟩ := h
  unfold RR
  rw [cs_o_pn (hb 16 (by decide)), cs_o_pn (hb 16 (by decide)), cs_o_pn (hb 19 (by decide)), cs_o_pn (hb 3 (by decide)), cs_o_pn (hb 3 (by decide))]
  have e1 : c_hp (cs_o σ t n F) = c_hp σ + 1 := rfl
  have e2 : c_sl (cs_o σ t n F) = c_sl σ + n := rfl
  rw [e1, e2]
  exact ⟨by omega, by omega, a3, a4⟩
theorem rr_x {n : Nat} (h : RR bd b σ (k + 1) (s + n) o z) : RR bd b (cs_x σ n) k s o z := by
  obtain ⟨a1, a2, a3, a4⟩ := h
  have e1 : c_hp (cs_x σ n) = c_hp σ + 1 := rfl
  have e2 : c_sl (cs_x σ n) = c_sl σ + n := rfl
  unfold RR
  rw [e1, e2]
  exact ⟨by show _ + 6 * (60000 - c_pv σ (b + 16) 3) + _ ≤ _; omega, by show _ + 60 * (60000 - c_pv σ (b + 16) 3) + _ ≤ _; omega, a3, a4⟩
/-- room for one cell of n slots -/
theorem rr_room (hG : GG bd b σ) {n : Nat} (h : RR bd b σ (k + 1) (s + n) o z) : c_hp σ + 1 ≤ bd.1 ∧ c_sl σ + n ≤ bd.2.1 ∧ c_hp σ < 2147483648 := by
  obtain ⟨a1, a2, a3, a4⟩ := h
  have h1 := hG.nu 16 3
  have h2 := hG.st.2.2.2.2.2.1
  exact ⟨by omega, by omega, by omega⟩
end CIC
