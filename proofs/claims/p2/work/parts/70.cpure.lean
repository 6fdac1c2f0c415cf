section CPA
abbrev CO : Type := Option (CS × Nat × Int)
/-- the room, and the places of what was there -/
abbrev cBd : Type := Nat × Nat × (Nat → Nat)
abbrev cw_bd (v : cwE) : cBd := (v.2.2.1, v.2.2.2.1, cw_pa)
def cc_ck (x : Int) (f : Int → CO) : CO := if -2147483648 ≤ x ∧ x ≤ 2147483647 then f x else none
def cc_nm (x : Int) (f : Int → CO) : CO := f x
def cc_bo (x : Int) (f : CO) : CO := if x = 0 ∨ x = 1 then f else none
def cc_g (σ : CS) (t f : Nat) (x : Int) (k : Int → CO) : CO := if 0 ≤ x ∧ c_tg σ x.toNat = t then k (c_pv σ x.toNat f) else none
def cc_p (σ : CS) (t f : Nat) (x y : Int) (k : CS → CO) : CO := if 0 ≤ x ∧ c_tg σ x.toNat = t then k (cs_p σ x.toNat f y) else none
def cc_l (σ : CS) (t : Nat) (x : Int) (k : Int → CO) : CO := if (0 ≤ x ∧ c_tg σ x.toNat = t) ∧ c_ln σ x.toNat ≤ 2147483647 then k (c_ln σ x.toNat : Int) else none
def cc_r (σ : CS) (t : Nat) (x i : Int) (k : Int → CO) : CO := if (0 ≤ x ∧ c_tg σ x.toNat = t) ∧ 0 ≤ i ∧ i < (c_ln σ x.toNat : Int) then k (c_pv σ x.toNat i.toNat) else none
def cc_w (σ : CS) (t : Nat) (x i y : Int) (k : CS → CO) : CO := if (0 ≤ x ∧ c_tg σ x.toNat = t) ∧ 0 ≤ i ∧ i < (c_ln σ x.toNat : Int) then k (cs_p σ x.toNat i.toNat y) else none
def cc_t (σ : CS) (t : Nat) (x : Int) (k : CO) : CO := if 0 ≤ x ∧ c_tg σ x.toNat = t then k else none
def cc_n (σ : CS) (b : cBd) (t N : Nat) (k : CS → Int → CO) : CO := if c_hp σ + 1 ≤ b.1 ∧ c_sl σ + N ≤ b.2.1 ∧ c_hp σ < 2147483648 then k (cs_n σ t N) (c_hp σ : Int) else none
def cc_na (σ : CS) (b : cBd) (t : Nat) (i : Int) (k : CS → Int → CO) : CO := if (0 ≤ i ∧ i.toNat * 4 ≤ 536870912) ∧ c_hp σ + 1 ≤ b.1 ∧ c_sl σ + i.toNat ≤ b.2.1 ∧ c_hp σ < 2147483648 then k (cs_n σ t i.toNat) (c_hp σ : Int) else none
def cc_x (σ : CS) (b : cBd) (kd : Nat) : CO := if c_hp σ + 1 ≤ b.1 ∧ c_sl σ + 6 ≤ b.2.1 then some (cs_x σ 6, kd, 0) else none
def cc_cl (o : CO) (k : CS → Int → CO) : CO := match o with
  | none => none
  | some q => if q.2.1 = 0 then k q.1 q.2.2 else some q
def cc_ci (o : CO) (k : CS → CO) : CO := match o with
  | none => none
  | some q => if q.2.1 = 0 then k q.1 else none
def cc_fin (o : CO) : CO := match o with
  | none => none
  | some q => if -2147483648 ≤ q.2.2 ∧ q.2.2 ≤ 2147483647 then some q else none
def cc_gs (b : cBd) (i : Nat) (k : Int → CO) : CO := if (b.2.2 i : Int) ≤ 2147483647 then k (b.2.2 i : Int) else none
def cc_mx (x y : Int) (k : Int → CO) : CO := k (if x < y then y else x)
def cc_mn (x y : Int) (k : Int → CO) : CO := k (if y < x then y else x)
def cc_tn (σ : CS) (t : Nat) (x : Int) (k : CO) : CO := if x < 0 ∨ (0 ≤ x ∧ c_tg σ x.toNat = t) then k else none
def cc_to (σ : CS) (x : Int) (k : CO) : CO := if x < 0 ∨ (0 ≤ x ∧ (c_tg σ x.toNat = 7 ∨ c_tg σ x.toNat = 10)) then k else none
def cc_ac (σ : CS) (x y : Int) (k : CO) : CO := if (0 ≤ x ∧ 0 ≤ y) ∧ (x = y ∨ (c_tg σ x.toNat ≠ 0 ∧ c_tg σ y.toNat ≠ 0)) then k else none
def cc_ay (σ : CS) (x y n : Int) (k : CS → CO) : CO := if cs_acok σ x y n then k (cs_ac σ x.toNat y.toNat n.toNat) else none
def cc_cn (o : CO) (k : CS → Int → CO) : CO := match o with
  | none => none
  | some q => if q.2.1 = 0 then k q.1 q.2.2 else none
def cc_ct (o : CO) (k : CS → Int → CO) (h : CS → CO) : CO := match o with
  | none => none
  | some q => if q.2.1 = 0 then k q.1 q.2.2 else if q.2.1 = 1 then h q.1 else none
/-- the three strings: their lengths and signs -/
def cs_len (i : Nat) : Int := ((cw_sl.getD i 0 : Nat) : Int)
def cs_chr (i k : Nat) : Int := ((cw_sb.getD i []).getD k 0 : Int32).toInt
def cc_sn (b : cBd) (x : Int) (k : Int → CO) : CO := if x = (b.2.2 0 : Int) then k (cs_len 0) else if x = (b.2.2 1 : Int) then k (cs_len 1) else if x = (b.2.2 2 : Int) then k (cs_len 2) else none
def cc_sc (b : cBd) (x i : Int) (k : Int → CO) : CO := if x = (b.2.2 0 : Int) ∧ 0 ≤ i ∧ i < cs_len 0 then k (cs_chr 0 i.toNat) else if x = (b.2.2 1 : Int) ∧ 0 ≤ i ∧ i < cs_len 1 then k (cs_chr 1 i.toNat) else if x = (b.2.2 2 : Int) ∧ 0 ≤ i ∧ i < cs_len 2 then k (cs_chr 2 i.toNat) else none
theorem cc_ck_s {x : Int} {f : Int → CO} {y : CS × Nat × Int} (h : cc_ck x f = some y) : ∃ z, z = x ∧ inR z ∧ f z = some y := by
  unfold cc_ck at h
  split at h
  · next c => exact ⟨x, rfl, c, h⟩
  · cases h
theorem cc_nm_s {x : Int32} {f : Int → CO} {y : CS × Nat × Int} (h : cc_nm x.toInt f = some y) : ∃ z, z = x.toInt ∧ inR z ∧ f z = some y := ⟨_, rfl, inR_of x, h⟩
theorem cc_bo_s {x : Int} {f : CO} {y : CS × Nat × Int} (h : cc_bo x f = some y) : (x = 0 ∨ x = 1) ∧ f = some y := by
  unfold cc_bo at h
  split at h
  · next c => exact ⟨c, h⟩
  · cases h
theorem cc_gs_s {b : cBd} {i : Nat} {k : Int → CO} {y : CS × Nat × Int} (h : cc_gs b i k = some y) : ∃ z, z = (b.2.2 i : Int) ∧ inR z ∧ k z = some y := by
  unfold cc_gs at h
  split at h
  · next c => exact ⟨_, rfl, ⟨by omega, by omega⟩, h⟩
  · cases h
theorem cc_ite {c : Prop} [Decidable c] {x y : Int} (hy : inR y) (hx : inR x) : inR (if c then y else x) := by
  split
  · exact hy
  · exact hx
theorem cc_mx_s {x y : Int} (hx : inR x) (hy : inR y) {k : Int → CO} {r : CS × Nat × Int} (h : cc_mx x y k = some r) : ∃ z, z = (if x < y then y else x) ∧ inR z ∧ k z = some r := ⟨_, rfl, cc_ite hy hx, h⟩
theorem cc_mn_s {x y : Int} (hx : inR x) (hy : inR y) {k : Int → CO} {r : CS × Nat × Int} (h : cc_mn x y k = some r) : ∃ z, z = (if y < x then y else x) ∧ inR z ∧ k z = some r := ⟨_, rfl, cc_ite hy hx, h⟩
theorem cc_tn_s {σ : CS} {t : Nat} {x : Int} {k : CO} {y : CS × Nat × Int} (h : cc_tn σ t x k = some y) : (x < 0 ∨ (0 ≤ x ∧ c_tg σ x.toNat = t)) ∧ k = some y := by
  unfold cc_tn at h
  split at h
  · next c => exact ⟨c, h⟩
  · cases h
theorem cc_to_s {σ : CS} {x : Int} {k : CO} {y : CS × Nat × Int} (h : cc_to σ x k = some y) : (x < 0 ∨ (0 ≤ x ∧ (c_tg σ x.toNat = 7 ∨ c_tg σ x.toNat = 10))) ∧ k = some y := by
  unfold cc_to at h
  split at h
  · next c => exact ⟨c, h⟩
  · cases h
theorem cc_ac_s {σ : CS} {x y : Int} {k : CO} {z : CS × Nat × Int} (h : cc_ac σ x y k = some z) : ((0 ≤ x ∧ 0 ≤ y) ∧ (x = y ∨ (c_tg σ x.toNat ≠ 0 ∧ c_tg σ y.toNat ≠ 0))) ∧ k = some z := by
  unfold cc_ac at h
  split at h
  · next c => exact ⟨c, h⟩
  · cases h
theorem cc_ay_s {σ : CS} {x y n : Int} {k : CS → CO} {z : CS × Nat × Int} (h : cc_ay σ x y n k = some z) : ∃ σ1, σ1 = cs_ac σ x.toNat y.toNat n.toNat ∧ cs_acok σ x y n ∧ k σ1 = some z := by
  unfold cc_ay at h
  split at h
  · next c => exact ⟨_, rfl, c, h⟩
  · cases h
theorem cc_cn_s {o : CO} {k : CS → Int → CO} {y : CS × Nat × Int} (h : cc_cn o k = some y) : ∃ σ1 z, o = some (σ1, 0, z) ∧ k σ1 z = some y := by
  cases o with
  | none => cases h
  | some q =>
    obtain ⟨σ1, kd, z⟩ := q
    unfold cc_cn at h
    dsimp only at h
    split at h
    · next c => subst c; exact ⟨σ1, z, rfl, h⟩
    · cases h
theorem cc_ct_s {o : CO} {k : CS → Int → CO} {h9 : CS → CO} {y : CS × Nat × Int} (h : cc_ct o k h9 = some y) : ∃ σ1 kd z, o = some (σ1, kd, z) ∧ ((kd = 0 ∧ k σ1 z = some y) ∨ (kd = 1 ∧ h9 σ1 = some y)) := by
  cases o with
  | none => cases h
  | some q =>
    obtain ⟨σ1, kd, z⟩ := q
    unfold cc_ct at h
    dsimp only at h
    refine ⟨σ1, kd, z, rfl, ?_⟩
    split at h
    · next c => exact Or.inl ⟨c, h⟩
    · split at h
      · next c => exact Or.inr ⟨c, h⟩
      · cases h
variable {v : cwE} {s : State} {σ0 σ : CS} {H : Heap} {locs : List Loc} {cells slots : Nat} {y9 : CS × Nat × Int}
theorem cc_g_s (hw : cw_W v s σ0 σ H locs cells slots) {t f : Nat} {x : Int} {k : Int → CO} (h : cc_g σ t f x k = some y9) : ∃ z, z = c_pv σ x.toNat f ∧ inR z ∧ (0 ≤ x ∧ c_tg σ x.toNat = t) ∧ k z = some y9 := by
  unfold cc_g at h
  split at h
  · next c => exact ⟨_, rfl, hw.1.2.2.1 _ _, c, h⟩
  · cases h
theorem cc_p_s {t f : Nat} {x y : Int} {k : CS → CO} (h : cc_p σ t f x y k = some y9) : ∃ z, z = cs_p σ x.toNat f y ∧ (0 ≤ x ∧ c_tg σ x.toNat = t) ∧ k z = some y9 := by
  unfold cc_p at h
  split at h
  · next c => exact ⟨_, rfl, c, h⟩
  · cases h
theorem cc_l_s {t : Nat} {x : Int} {k : Int → CO} (h : cc_l σ t x k = some y9) : ∃ z, z = (c_ln σ x.toNat : Int) ∧ inR z ∧ (0 ≤ x ∧ c_tg σ x.toNat = t) ∧ k z = some y9 := by
  unfold cc_l at h
  split at h
  · next c => exact ⟨_, rfl, ⟨by omega, by omega⟩, c.1, h⟩
  · cases h
theorem cc_r_s (hw : cw_W v s σ0 σ H locs cells slots) {t : Nat} {x i : Int} {k : Int → CO} (h : cc_r σ t x i k = some y9) : ∃ z, z = c_pv σ x.toNat i.toNat ∧ inR z ∧ (0 ≤ x ∧ c_tg σ x.toNat = t) ∧ (0 ≤ i ∧ i < (c_ln σ x.toNat : Int)) ∧ k z = some y9 := by
  unfold cc_r at h
  split at h
  · next c => exact ⟨_, rfl, hw.1.2.2.1 _ _, c.1, c.2, h⟩
  · cases h
theorem cc_w_s {t : Nat} {x i y : Int} {k : CS → CO} (h : cc_w σ t x i y k = some y9) : ∃ z, z = cs_p σ x.toNat i.toNat y ∧ (0 ≤ x ∧ c_tg σ x.toNat = t) ∧ (0 ≤ i ∧ i < (c_ln σ x.toNat : Int)) ∧ k z = some y9 := by
  unfold cc_w at h
  split at h
  · next c => exact ⟨_, rfl, c.1, c.2, h⟩
  · cases h
theorem cc_t_s {t : Nat} {x : Int} {k : CO} (h : cc_t σ t x k = some y9) : (0 ≤ x ∧ c_tg σ x.toNat = t) ∧ k = some y9 := by
  unfold cc_t at h
  split at h
  · next c => exact ⟨c, h⟩
  · cases h
theorem cc_n_s {b : cBd} {t N : Nat} {k : CS → Int → CO} (h : cc_n σ b t N k = some y9) : ∃ σ1 z, σ1 = cs_n σ t N ∧ z = (c_hp σ : Int) ∧ inR z ∧ (c_hp σ + 1 ≤ b.1 ∧ c_sl σ + N ≤ b.2.1 ∧ c_hp σ < 2147483648) ∧ k σ1 z = some y9 := by
  unfold cc_n at h
  split at h
  · next c => exact ⟨_, _, rfl, rfl, ⟨by omega, by omega⟩, c, h⟩
  · cases h
theorem cc_na_s {b : cBd} {t : Nat} {i : Int} {k : CS → Int → CO} (h : cc_na σ b t i k = some y9) : ∃ σ1 z, σ1 = cs_n σ t i.toNat ∧ z = (c_hp σ : Int) ∧ inR z ∧ (0 ≤ i ∧ i.toNat * 4 ≤ 536870912) ∧ (c_hp σ + 1 ≤ b.1 ∧ c_sl σ + i.toNat ≤ b.2.1) ∧ k σ1 z = some y9 := by
  unfold cc_na at h
  split at h
  · next c => exact ⟨_, _, rfl, rfl, ⟨by omega, by omega⟩, c.1, ⟨c.2.1, c.2.2.1⟩, h⟩
  · cases h
theorem cc_x_s {b : cBd} {kd : Nat} (h : cc_x σ b kd = some y9) : y9 = (cs_x σ 6, kd, 0) ∧ c_hp σ + 1 ≤ b.1 ∧ c_sl σ + 6 ≤ b.2.1 := by
  unfold cc_x at h
  split at h
  · next c => exact ⟨(Option.some.inj h).symm, c⟩
  · cases h
theorem cc_cl_s {o : CO} {k : CS → Int → CO} (h : cc_cl o k = some y9) : ∃ σ1 kd z, o = some (σ1, kd, z) ∧ ((kd = 0 ∧ k σ1 z = some y9) ∨ (kd ≠ 0 ∧ y9 = (σ1, kd, z))) := by
  cases o with
  | none => cases h
  | some q =>
    obtain ⟨σ1, kd, z⟩ := q
    unfold cc_cl at h
    dsimp only at h
    refine ⟨σ1, kd, z, rfl, ?_⟩
    split at h
    · next c => exact Or.inl ⟨c, h⟩
    · next c => exact Or.inr ⟨c, (Option.some.inj h).symm⟩
theorem cc_ci_s {o : CO} {k : CS → CO} (h : cc_ci o k = some y9) : ∃ σ1 z, o = some (σ1, 0, z) ∧ k σ1 = some y9 := by
  cases o with
  | none => cases h
  | some q =>
    obtain ⟨σ1, kd, z⟩ := q
    unfold cc_ci at h
    dsimp only at h
    split at h
    · next c => subst c; exact ⟨σ1, z, rfl, h⟩
    · cases h
theorem cc_if_t {c : Prop} [Decidable c] {a b : CO} (h : (if c then a else b) = some y9) (hc : c) : a = some y9 := by rw [if_pos hc] at h; exact h
theorem cc_if_f {c : Prop} [Decidable c] {a b : CO} (h : (if c then a else b) = some y9) (hc : ¬ c) : b = some y9 := by rw [if_neg hc] at h; exact h
theorem cc_nh {p : Program} {l : Launch} {x : MethodName} {S : Spec} {code : ByteArray} {maxLocals : Nat} {ret : Option FieldType} {e : Env} {s : State} {m : MethodId} {args : Array Value} {below : List Frame} {meth : Method} {c : Code} {s₁ : State} (B : BodyLoose p l x S code maxLocals ret e s m args below meth c s₁) (h : (Cond.code x code maxLocals ret).before args s = true) : ∀ z ∈ c.exceptionTable.toList, False := by
  have h1 := B.noHandlers h
  have h0 : c.exceptionTable.size = 0 := by simpa [Array.isEmpty] using h1
  have h2 : c.exceptionTable.toList = [] := List.eq_nil_of_length_eq_zero (by simpa using h0)
  intro z hz
  rw [h2] at hz
  cases hz
theorem cw_W0 {v : cwE} {s : State} {σ : CS} (hM : cw_M v σ s.heap) : cw_W v s σ σ s.heap [] 0 0 :=
  ⟨hM, hM.1.1, rfl, rfl, fun _ _ _ => rfl, (fun z h => by cases h), (fun q h => Or.inl h), fun q h => (hM.2.2.2.2.2.2 q h).1, hM.2.2.2.2.2.1, hM.1.2⟩
def cl_ix : Nat → List Value → List (Nat × Value)
  | _, [] => []
  | i, v :: vs => (i, v) :: cl_ix (i + 1) vs
theorem cl_args {vs : List Value} (h : ∀ w ∈ vs, w.category = 1) : ∀ i, lv_args i vs = cl_ix i vs := by
  induction vs with
  | nil => intro i; rfl
  | cons a t ih =>
    intro i
    have ha := h a List.mem_cons_self
    unfold lv_args cl_ix
    rw [if_neg (by rw [ha]; decide), ih (fun w hw => h w (List.mem_cons_of_mem _ hw))]
theorem cl_slen {vs : List Value} (h : ∀ w ∈ vs, w.category = 1) : (lg_sl vs).length = vs.length := by
  induction vs with
  | nil => rfl
  | cons a t ih =>
    have ha := h a List.mem_cons_self
    have h1 := ih (fun w hw => h w (List.mem_cons_of_mem _ hw))
    unfold lg_sl at h1 ⊢
    rw [List.flatMap_cons, if_neg (by rw [ha]; decide)]
    simp [h1]
theorem cl_ixc {vs : List Value} (h : ∀ w ∈ vs, w.category = 1) : ∀ i, ∀ q ∈ cl_ix i vs, q.2.category = 1 := by
  induction vs with
  | nil => intro i q hq; cases hq
  | cons a t ih =>
    intro i q hq
    unfold cl_ix at hq
    rcases List.mem_cons.mp hq with h1 | h1
    · rw [h1]; exact h a List.mem_cons_self
    · exact ih (fun w hw => h w (List.mem_cons_of_mem _ hw)) _ q h1
/-- the locals with which a method begins -/
theorem cl_ent (vs : List Value) (n : Nat) (h : ∀ w ∈ vs, w.category = 1) (hn : vs.length ≤ n) : ∃ ls, (lg_sl vs ++ List.replicate (n - (lg_sl vs).length) Slot.unset).toArray = ls ∧ cl_has ls n (cl_ix 0 vs) :=
  ⟨_, rfl, by rw [← cl_args h]; exact lv_entry vs (by rw [cl_slen h]; exact hn), cl_ixc h 0⟩
def cl_1 (vs : List Value) : Prop := ∀ w ∈ vs, w.category = 1
theorem cl_10 : cl_1 [] := fun w h => by cases h
theorem cl_1i {x : Int} {vs : List Value} (h : cl_1 vs) : cl_1 (.int (rI x) :: vs) := fun w hw => by
  rcases List.mem_cons.mp hw with h1 | h1
  · rw [h1]; rfl
  · exact h w h1
theorem cl_1r {v : cwE} {x : Int} {vs : List Value} (h : cl_1 vs) : cl_1 (cR v x :: vs) := fun w hw => by
  rcases List.mem_cons.mp hw with h1 | h1
  · rw [h1]; exact cR_cat x
  · exact h w h1
theorem rn_look {p : Program} {l : Launch} {e : Env} {R : Room} {s : State} {m : MethodId} {args : Array Value} {below : List Frame} {meth : Method} {c : Code} {H : Heap} {locs : List Loc} {cells slots : Nat} {Q : State → Prop} {cc : ByteArray} {pc : Nat} {ls : Array Slot} {rest : List Value} (hx : p.tables.exec = Jvm.exec) (hb : c.code = cc) {z : Int} (hz : inR z) {dflt : Int} {ps : Array (Int × Int)} {len : Nat} {off : Int} {tgt : Nat} (hdg : decode cc pc = .ok (.lookupswitch dflt ps, len)) (hp : (ps.toList.zip (ps.toList.drop 1)).all (fun (a, next) => a.1 < next.1) = true) (ho : Op.lookupswitch.offset ps.toList dflt z = off) (ht : (pc : Int) + off = (tgt : Int))
    (k : W p l e R s m args below meth c H locs cells slots Q (F0 m tgt ls rest)) : W p l e R s m args below meth c H locs cells slots Q (F0 m pc ls (.int (rI z) :: rest)) := lv_lookup hx hb hdg hp (by rw [rI_T hz]; exact ho) ht k
theorem lk_ne {a o d z x : Int} {r : List (Int × Int)} (h : ¬ z = a) (k : Op.lookupswitch.offset r d z = x) : Op.lookupswitch.offset ((a, o) :: r) d z = x := by
  rw [Op.lookupswitch.offset_cons, if_neg (fun q => h q.symm)]
  exact k
theorem lk_nil {d z : Int} : Op.lookupswitch.offset [] d z = d := rfl
theorem lk_eq {a o d z : Int} {r : List (Int × Int)} (h : z = a) : Op.lookupswitch.offset ((a, o) :: r) d z = o := by
  rw [Op.lookupswitch.offset_cons, if_pos h.symm]
theorem cl_cs {vs : List Value} (h : cl_1 vs) (hn : vs.length ≤ 8) : (vs.map fun v => v.category).sum ≤ 8 := by
  have h1 : (vs.map fun v => v.category).sum = vs.length := by
    clear hn
    induction vs with
    | nil => rfl
    | cons a t ih =>
      have ha := h a List.mem_cons_self
      have h2 := ih (fun w hw => h w (List.mem_cons_of_mem _ hw))
      simp only [List.map_cons, List.sum_cons, List.length_cons, ha, h2]
      omega
  omega
theorem cs_len_R : ∀ i, i < 3 → (0 ≤ cs_len i ∧ cs_len i ≤ 60) ∧ Int32.ofNat (cw_sl.getD i 0) = rI (cs_len i) := by decide +kernel
theorem cs_chr_R : ∀ i, i < 3 → ∀ k, k < cw_sl.getD i 0 → (-2147483648 ≤ cs_chr i k ∧ cs_chr i k ≤ 2147483647) ∧ ((((cw_sb.getD i []).getD k 0) &&& 255).toUInt32 % 65536).toInt32 = rI (cs_chr i k) ∧ narrow .char (.int (rI (cs_chr i k))) = .int (rI (cs_chr i k)) := by decide +kernel
theorem cs_sl {l : Launch} {v : cwE} {d i : Nat} (hd5 : 5 ≤ d) (hi : i < 3) {x : Int} (hx : x = (cw_pa i : Int)) : (∃ i, i < 3 ∧ x = (cw_pa i : Int)) ∧ cj_Met l v yJ0_length_8abf5 cJ0_length_8abf5 1 (some .int) d [cR v x] (some (.int (rI (cs_len i)))) := by
  refine ⟨⟨i, hi, hx⟩, ?_⟩
  obtain ⟨d0, rfl⟩ : ∃ d0, d = d0 + 1 := ⟨d - 1, by omega⟩
  have h := js_length (l := l) (A := cw_A v) (N := 3) (len := cw_sl) (byt := cw_sb) (adK := cw_ad v) (adV := fun i => cw_ad v (10 + i)) hi d0
  rw [(cs_len_R i hi).2] at h
  rw [cR_o hx (Nat.mod_eq_of_lt (by omega))]
  exact h
theorem cs_sc {l : Launch} {v : cwE} {d i : Nat} (hd5 : 5 ≤ d) (hi : i < 3) {x k : Int} (hx : x = (cw_pa i : Int)) (hk : 0 ≤ k ∧ k < cs_len i) : (∃ i, i < 3 ∧ x = (cw_pa i : Int)) ∧ cj_Met l v yJ0_charAt_5068e cJ0_charAt_5068e 2 (some .char) d [cR v x, .int (rI k)] (some (.int (rI (cs_chr i k.toNat)))) := by
  refine ⟨⟨i, hi, hx⟩, ?_⟩
  obtain ⟨d0, rfl⟩ : ∃ d0, d = d0 + 3 := ⟨d - 3, by omega⟩
  have hs := (cs_len_R i hi).1
  have hk1 : k.toNat < cw_sl.getD i 0 := by have := hk.2; unfold cs_len at this; omega
  obtain ⟨-, h2, h3⟩ := cs_chr_R i hi k.toNat hk1
  have h := js_char0 (l := l) (A := cw_A v) (N := 3) (len := cw_sl) (byt := cw_sb) (adK := cw_ad v) (adV := fun i => cw_ad v (10 + i)) hi hk1 (by unfold cs_len at hs; omega) h2 h3 d0
  have hkr : inR k := ⟨by omega, by omega⟩
  have hk2 : nI k.toNat = rI k := Int32.toInt_inj.1 (by rw [rI_T hkr, nI_toInt (by omega)]; omega)
  rw [hk2] at h
  rw [cR_o hx (Nat.mod_eq_of_lt (by omega))]
  exact h
theorem cc_sn_s {l : Launch} {v : cwE} {d : Nat} {s : State} (hd5 : 5 ≤ d) (_hK : cw_K v s) {x : Int} {k : Int → CO} {y : CS × Nat × Int} (h : cc_sn (cw_bd v) x k = some y) : ∃ z, inR z ∧ ((∃ i, i < 3 ∧ x = (cw_pa i : Int)) ∧ cj_Met l v yJ0_length_8abf5 cJ0_length_8abf5 1 (some .int) d [cR v x] (some (.int (rI z)))) ∧ k z = some y := by
  unfold cc_sn at h
  have hr : ∀ i, i < 3 → inR (cs_len i) := fun i hi => by have := (cs_len_R i hi).1; exact ⟨by omega, by omega⟩
  split at h
  · next c => exact ⟨_, hr 0 (by omega), cs_sl hd5 (by omega) c, h⟩
  · split at h
    · next c => exact ⟨_, hr 1 (by omega), cs_sl hd5 (by omega) c, h⟩
    · split at h
      · next c => exact ⟨_, hr 2 (by omega), cs_sl hd5 (by omega) c, h⟩
      · cases h
theorem cc_sc_s {l : Launch} {v : cwE} {d : Nat} {s : State} (hd5 : 5 ≤ d) (_hK : cw_K v s) {x i : Int} {k : Int → CO} {y : CS × Nat × Int} (h : cc_sc (cw_bd v) x i k = some y) : ∃ z, inR z ∧ ((∃ i, i < 3 ∧ x = (cw_pa i : Int)) ∧ cj_Met l v yJ0_charAt_5068e cJ0_charAt_5068e 2 (some .char) d [cR v x, .int (rI i)] (some (.int (rI z)))) ∧ k z = some y := by
  unfold cc_sc at h
  have hr : ∀ j, j < 3 → 0 ≤ i ∧ i < cs_len j → inR (cs_chr j i.toNat) := fun j hj hi => (cs_chr_R j hj i.toNat (by have := hi.2; unfold cs_len at this; omega)).1
  split at h
  · next c => exact ⟨_, hr 0 (by omega) c.2, cs_sc hd5 (by omega) c.1 c.2, h⟩
  · split at h
    · next c => exact ⟨_, hr 1 (by omega) c.2, cs_sc hd5 (by omega) c.1 c.2, h⟩
    · split at h
      · next c => exact ⟨_, hr 2 (by omega) c.2, cs_sc hd5 (by omega) c.1 c.2, h⟩
      · cases h
end CPA
