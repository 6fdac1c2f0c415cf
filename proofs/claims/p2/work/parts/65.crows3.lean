section CRG
variable {p : Program} {l : Launch} {e : Env} {R : Room} {s : State} {m : MethodId} {args : Array Value} {below : List Frame} {meth : Method} {c : Code} {H : Heap} {locs : List Loc} {cells slots : Nat} {Q : State → Prop} {cc : ByteArray} {pc : Nat} {ls : Array Slot} {rest : List Value}
variable {v : cwE} {σ0 σ σ1 : CS} {nL d : Nat} {ret : Option FieldType} {own : String} {kd : Nat} {rv : Option Value}
theorem cb_ref {z : Int} {n : Nat} (h : z = (n : Int)) : cR v z = .ref (cw_mp v n) := by rw [h, cR_r (by omega)]; rfl
/-- ldc of a String -/
theorem cw_ldcs (B : cw_B v own p s m args meth c cc nL ret) {index q : Nat} {tx : String} (hZ : vk_R own index tx (cw_ad v q) s) {z : Int} (hz : z = (cw_pa q : Int)) (hq : cw_pa q = q := by rfl) (hdg : decode cc pc = .ok (.ldc index, 2))
    (kk : W p l e R s m args below meth c H locs cells slots Q (F0 m (pc + 2) ls (cR v z :: rest))) : W p l e R s m args below meth c H locs cells slots Q (F0 m pc ls rest) := by
  obtain ⟨hx, hb, hr, hml, hown, hts, hlk, hK⟩ := B
  rw [cR_o hz hq] at kk
  exact va_ldcS hx hb hown hZ hdg kk
/-- ldc of the class of rows of Objects -/
theorem cw_ldcc (B : cw_B v own p s m args meth c cc nL ret) {index : Nat} (hcl : Cond.classLink own index "[Ljava/lang/Object;" ∈ cw_bw) {z : Int} (hz : z = (cw_pa 22 : Int)) (hdg : decode cc pc = .ok (.ldc index, 2))
    (kk : W p l e R s m args below meth c H locs cells slots Q (F0 m (pc + 2) ls (cR v z :: rest))) : W p l e R s m args below meth c H locs cells slots Q (F0 m pc ls rest) := by
  obtain ⟨hx, hb, hr, hml, hown, hts, hlk, hK⟩ := B
  have hK1 := hK.1.2.2.2.2.2.2.2.2
  rw [cR_o hz] at kk
  exact va_ldcM hx hb hown (hts _ hcl) hK1.2.2.2.2.1 hdg kk
/-- getstatic of a reference -/
theorem cw_gets (B : cw_B v own p s m args meth c cc nL ret) (hw : cw_W v s σ0 σ H locs cells slots) {C n d9 : String} {q index : Nat} (hZ : va_Z C n d9 (.ref (cw_ad v q)) (cw_A v) s s.heap) (hli : Cond.fieldLink own index C n d9 ∈ cw_bw) {z : Int} (hz : z = (cw_pa q : Int)) (hq : cw_pa q = q := by rfl) (hdg : decode cc pc = .ok (.getstatic index, 3))
    (kk : W p l e R s m args below meth c H locs cells slots Q (F0 m (pc + 3) ls (cR v z :: rest))) : W p l e R s m args below meth c H locs cells slots Q (F0 m pc ls rest) := by
  obtain ⟨hx, hb, hr, hml, hown, hts, hlk, hK⟩ := B
  rw [cR_o hz hq] at kk
  exact va_gets hx hb hZ (cw_vaS hw) hown (hts _ hli) (fun _ h => h) hdg kk
theorem cw_sta_20 (hK : cw_K v s) : va_Z RX0 "CORNER_SIGNS" "[B" (.ref (cw_ad v 20)) (cw_A v) s s.heap := hK.2.1.2.2.2.1
theorem cw_sta_21 (hK : cw_K v s) : va_Z RJx4a65c "DEFAULTCAPACITY_EMPTY_ELEMENTDATA" "[Ljava/lang/Object;" (.ref (cw_ad v 21)) (cw_A v) s s.heap := hK.2.1.2.2.2.2
/-- anewarray -/
theorem cw_anew (B : cw_B v own p s m args meth c cc nL ret) (hw : cw_W v s σ0 σ H locs cells slots) {t index : Nat} {C : String} (ht : (t = 22 ∧ C = RX6) ∨ (t = 23 ∧ C = cRO)) (hcl : Cond.classLink own index C ∈ cw_bw) {i : Int} (hi : inR i) (hi0 : 0 ≤ i) (hbig : i.toNat * 4 ≤ 536870912)
    (hm1 : c_hp σ + 1 ≤ v.2.2.1 ∧ c_sl σ + i.toNat ≤ v.2.2.2.1) (h1 : σ1 = cs_n σ t i.toNat) {z : Int} (hz : z = (c_hp σ : Int)) (hdg : decode cc pc = .ok (.anewarray index, 3))
    (kk : ∀ (H : Heap), cw_W v s σ0 σ1 H locs (cells + 1) (slots + i.toNat) → W p l e (cw_rm v d σ0) s m args below meth c H locs (cells + 1) (slots + i.toNat) Q (F0 m (pc + 3) ls (cR v z :: rest))) : W p l e (cw_rm v d σ0) s m args below meth c H locs cells slots Q (F0 m pc ls (.int (rI i) :: rest)) := by
  obtain ⟨hx, hb, hr, hml, hown, hts, hlk, hK⟩ := B
  have w2 := hw.2.2.1
  have w3 := hw.2.2.2.1
  have hsz : H.size = cw_mp v (c_hp σ) := by have h7 := hw.1.1.1; have h8 := hw.1.1.2; rw [cw_mp_n h8]; omega
  have hcn : (rI i).toNatClampNeg = i.toNat := rI_cl hi
  have hK1 := hK.1.2.2.2.2.2.2.2.2
  have hfacts : va_AO C s ∧ s.vm.findClass ("[" ++ (FieldType.object C).toString) = some (v.1 t) ∧ (∀ q, cw_isR t q = true) ∧ 20 ≤ t := by
    rcases ht with ⟨rfl, rfl⟩ | ⟨rfl, rfl⟩
    · obtain ⟨kA, comp, k1, k2, k3, k4⟩ := hK.1.2.2.2.2.2.2.1
      exact ⟨hK1.2.2.1, k4, fun _ => rfl, by omega⟩
    · obtain ⟨kA, comp, k1, k2, k3, k4⟩ := hK1.1
      exact ⟨hK1.2.2.2.1, k4, fun _ => rfl, by omega⟩
  obtain ⟨hAO, hfc, hisR, ht20⟩ := hfacts
  refine W.anew hx hb hown (hts _ hcl) (va_AO.use hAO) (g := F0 m pc ls (.int (rI i) :: rest)) rfl hdg rfl (fun q => by have := (rI_lt hi inR_0).mp q; omega) (by rw [hcn]; exact hbig) (by show cells + 1 ≤ v.2.2.1 - c_hp σ0; omega) (by rw [hcn]; show slots + i.toNat ≤ v.2.2.2.1 - c_sl σ0; omega) ?_
  intro cA kA comp e1 e2 e3 e4
  have hcA : cA = v.1 t := Option.some.inj (e1.symm.trans hfc)
  have hcz : cR v z = .ref H.size := by rw [hsz]; exact cb_ref hz
  subst h1
  rw [hcn, ← hcz]
  refine kk _ (cw_new_W hw (by omega) hm1 ?_ (by rw [Array.size_push]) (fun q hq => by rw [Array.getElem?_push_lt hq]; exact (Array.getElem?_eq_getElem hq).symm))
  unfold cw_at
  have htg : c_tg (cs_n σ t i.toNat) (c_hp σ) = t := if_pos rfl
  have hln : c_ln (cs_n σ t i.toNat) (c_hp σ) = i.toNat := if_pos rfl
  have hpv : ∀ g, c_pv (cs_n σ t i.toNat) (c_hp σ) g = (if cw_isR t g = true then -1 else 0) := fun g => if_pos rfl
  rw [htg, hln]
  simp only [hpv]
  rw [if_neg (by omega), ← hsz, Array.getElem?_push_size, hcA]
  refine ⟨_, rfl, _, Or.inl rfl, rfl, ?_, (fun q => by cases q), fun k q => by cases q⟩
  unfold arrV
  apply Array.ext
  · simp
  · intro j h1 h2
    simp [cw_fv, hisR, cR]
/-- checkcast of an object of just that class -/
theorem cw_cast (B : cw_B v own p s m args meth c cc nL ret) (hw : cw_W v s σ0 σ H locs cells slots) {t index : Nat} {x : Int} (h : 0 ≤ x ∧ c_tg σ x.toNat = t) (ht : 1 ≤ t ∧ t ≤ 13) (hcl : Cond.classLink own index (cw_tab t).1 ∈ cw_bw) (hdg : decode cc pc = .ok (.checkcast index, 3))
    (kk : W p l e R s m args below meth c H locs cells slots Q (F0 m (pc + 3) ls (cR v x :: rest))) : W p l e R s m args below meth c H locs cells slots Q (F0 m pc ls (cR v x :: rest)) := by
  obtain ⟨hx, hb, hr, hml, hown, hts, hlk, hK⟩ := B
  obtain ⟨cell, g1, g2, g3, g4⟩ := cw_obj hw h ht
  obtain ⟨hS, hfc, kC, hkC, hkind⟩ := hK.1.1 t ht.1 ht.2
  rw [cR_r h.1] at kk ⊢
  exact va_castS hx hb hown (hts _ hcl) ⟨hfc, kC, hkC, hkind⟩ ⟨cell, g1, by rw [g3]; rfl, by rw [g2]; exact hfc⟩ hdg kk
theorem cw_acmp (hw : cw_W v s σ0 σ H locs cells slots) {x y : Int} (h : (0 ≤ x ∧ 0 ≤ y) ∧ (x = y ∨ (c_tg σ x.toNat ≠ 0 ∧ c_tg σ y.toNat ≠ 0))) (e : cw_mp v x.toNat = cw_mp v y.toNat) : x = y := by
  rcases h.2 with q | ⟨q1, q2⟩
  · exact q
  · have := cw_inj (hw.1.2.2.2.2.2.2 _ q1).2 (hw.1.2.2.2.2.2.2 _ q2).2 e
    have := h.1
    omega
theorem cl_acmp_eq (hx : p.tables.exec = Jvm.exec) (hb : c.code = cc) (hw : cw_W v s σ0 σ H locs cells slots) {x y : Int} (h : (0 ≤ x ∧ 0 ≤ y) ∧ (x = y ∨ (c_tg σ x.toNat ≠ 0 ∧ c_tg σ y.toNat ≠ 0))) {off : Int} {tgt : Nat} (hdg : decode cc pc = .ok (.if_acmp .eq off, 3)) (ht : (pc : Int) + off = (tgt : Int)) (kt : x = y → W p l e R s m args below meth c H locs cells slots Q (F0 m tgt ls rest)) (kf : ¬ x = y → W p l e R s m args below meth c H locs cells slots Q (F0 m (pc + 3) ls rest)) : W p l e R s m args below meth c H locs cells slots Q (F0 m pc ls (cR v y :: cR v x :: rest)) := by
  rw [cR_r h.1.1, cR_r h.1.2]
  exact lv_acmp_eq (rx := some (cw_mp v x.toNat)) (ry := some (cw_mp v y.toNat)) hx hb hdg ht (fun q => kt (cw_acmp hw h (Option.some.inj q))) (fun q => kf (fun hq => q (by rw [hq])))
theorem cl_acmp_ne (hx : p.tables.exec = Jvm.exec) (hb : c.code = cc) (hw : cw_W v s σ0 σ H locs cells slots) {x y : Int} (h : (0 ≤ x ∧ 0 ≤ y) ∧ (x = y ∨ (c_tg σ x.toNat ≠ 0 ∧ c_tg σ y.toNat ≠ 0))) {off : Int} {tgt : Nat} (hdg : decode cc pc = .ok (.if_acmp .ne off, 3)) (ht : (pc : Int) + off = (tgt : Int)) (kt : ¬ x = y → W p l e R s m args below meth c H locs cells slots Q (F0 m tgt ls rest)) (kf : ¬ ¬ x = y → W p l e R s m args below meth c H locs cells slots Q (F0 m (pc + 3) ls rest)) : W p l e R s m args below meth c H locs cells slots Q (F0 m pc ls (cR v y :: cR v x :: rest)) := by
  rw [cR_r h.1.1, cR_r h.1.2]
  exact lv_acmp_ne (rx := some (cw_mp v x.toNat)) (ry := some (cw_mp v y.toNat)) hx hb hdg ht (fun q => kt (fun hq => q (by rw [hq]))) (fun q => kf (fun hn => hn (cw_acmp hw h (Option.some.inj q))))
/-- getfield, putfield of a list's modCount: the pool names it by the subclass -/
theorem cw_getS (B : cw_B v own p s m args meth c cc nL ret) (hw : cw_W v s σ0 σ H locs cells slots) {t f : Nat} {x z : Int} (h : 0 ≤ x ∧ c_tg σ x.toNat = t) (ht : 1 ≤ t ∧ t ≤ 13) (hf : f < (cw_tab t).2.2) (hin : ∀ w ∈ u_ws (cw_tab t).1 (cw_tab t).2.1 (cw_tab t).2.2, w ∈ cw_bw) {index : Nat} {ref : String} (hsm : Cond.sameField ref ((cw_tab t).2.1 f).1 ((cw_tab t).2.1 f).2.1 ((cw_tab t).2.1 f).2.2.1 ∈ cw_bw) (hlink : Cond.fieldLink own index ref ((cw_tab t).2.1 f).2.1 ((cw_tab t).2.1 f).2.2.1 ∈ cw_bw) (hz : z = c_pv σ x.toNat f) {val : Value} (hv : cw_fv v t f z = val) (hdg : decode cc pc = .ok (.getfield index, 3))
    (kk : W p l e R s m args below meth c H locs cells slots Q (F0 m (pc + 3) ls (val :: rest))) : W p l e R s m args below meth c H locs cells slots Q (F0 m pc ls (cR v x :: rest)) := by
  obtain ⟨hx, hb, hr, hml, hown, hts, hlk, hK⟩ := B
  obtain ⟨cell, q1, q2, q3, q4⟩ := cw_obj hw h ht
  obtain ⟨hS, hfc, kC, hkC, hkind⟩ := hK.1.1 t ht.1 ht.2
  obtain ⟨cf, kf, fi, fd, hi, hsl⟩ := hS f hf
  rw [cR_r h.1]
  refine W.getf hx hb hown (hts _ hlink) (u_same (hts _ hsm) _ hi) (u_facts hfc hkC (u_lays hts hin hf) hi).1 q1 (by rw [q3]; exact fun h => by cases h) (v := val) ?_ rfl rfl hdg kk
  rw [hsl, q4 f hf]
  show some (cw_fv v t f (c_pv σ x.toNat f)) = some val
  rw [← hz, hv]
theorem cw_putS (B : cw_B v own p s m args meth c cc nL ret) (hw : cw_W v s σ0 σ H locs cells slots) {t f : Nat} {x y : Int} (h : 0 ≤ x ∧ c_tg σ x.toNat = t) (hT : cw_OKt t) (hf : f < (cw_tab t).2.2) (hfin : ((cw_tab t).2.1 f).2.2.2 = false) {index : Nat} {ref : String} (hsm : Cond.sameField ref ((cw_tab t).2.1 f).1 ((cw_tab t).2.1 f).2.1 ((cw_tab t).2.1 f).2.2.1 ∈ cw_bw) (hlink : Cond.fieldLink own index ref ((cw_tab t).2.1 f).2.1 ((cw_tab t).2.1 f).2.2.1 ∈ cw_bw) (hy : inR y) {σ1 : CS} (h1 : σ1 = cs_p σ x.toNat f y) {val : Value} (hv : cw_fv v t f y = val) (hn : narrow (cw_ty t f) (cw_fv v t f y) = cw_fv v t f y ∧ fits (cw_ty t f) (cw_fv v t f y) = true) (hdg : decode cc pc = .ok (.putfield index, 3))
    (kk : ∀ (H : Heap) (locs : List Loc), cw_W v s σ0 σ1 H locs cells slots → W p l e R s m args below meth c H locs cells slots Q (F0 m (pc + 3) ls rest)) : W p l e R s m args below meth c H locs cells slots Q (F0 m pc ls (val :: cR v x :: rest)) := by
  have hap := cw_apart B hT.1 hT.2.1 hT.2.2.1 hT.2.2.2
  obtain ⟨hx, hb, hr, hml, hown, hts, hlk, hK⟩ := B
  obtain ⟨cell, q1, q2, q3, q4⟩ := cw_obj hw h hT.1
  obtain ⟨hS, hfc, kC, hkC, hkind⟩ := hK.1.1 t hT.1.1 hT.1.2
  obtain ⟨cf, kf, fi, fd, hi, hsl⟩ := hS f hf
  have hlay := hts _ (hT.2.1 _ (u_in_lay hf))
  unfold u_lay at hlay
  rw [if_neg (by rw [hfin]; decide)] at hlay
  have hst := (u_facts hfc hkC (u_lays hts hT.2.1 hf) hi).1
  have h6 := u_store hfc hkC hkind hlay hi (hT.2.2.1 f hf) hn.1 hn.2
  rw [cR_r h.1, ← hv]
  refine W.putK hx hb (f := fd) ⟨hown, hts _ hlink, ⟨_, _, _, u_same (hts _ hsm) _ hi⟩, hst⟩ (by rw [q2]; exact h6) q1 q3 (by rw [hsl]; exact k2_hasslot (q4 f hf)) rfl rfl hdg fun H' e1 e2 e3 => ?_
  rw [hsl] at e1 ⊢
  subst h1
  exact kk H' _ (cw_put_W hw h.2 (by have := hT.1.1; omega) hy (cw_put_at hap h.2 (by have := hT.1.2; omega) hf q2 q3 q4 e1) e2 e3)
theorem cw_retA {ft : FieldType} (B : cw_B v own p s m args meth c cc nL (some (.array ft))) {z r : Int} (hf : some (σ, (0 : Nat), z) = some (σ1, kd, r)) (hw : cw_W v s σ0 σ H locs cells slots) (hdg : decode cc pc = .ok (.areturn, 1)) :
    W p l e R s m args below meth c H locs cells slots (cw_Z below v σ0 σ1 kd (some (cR v r)) args s) (F0 m pc ls [cR v z]) := by
  obtain ⟨hx, hb, hr, hml, hown, hts, hlk, hK⟩ := B
  cases hf
  exact cw_mono (cw_zofMQ hw) (W.aret hx hb hr (Or.inr ⟨_, rfl⟩) (cRef_R z) (fun t ht _ => ⟨rfl, ht⟩) hw.2.2.2.2.2.1 hdg hlk)
/-- getClass() of a row of Objects -/
theorem cw_getcl (B : cw_B v own p s m args meth c cc nL ret) (hw : cw_W v s σ0 σ H locs cells slots) {x z : Int} {index : Nat} (h : 0 ≤ x ∧ c_tg σ x.toNat = 23) (hz : z = (cw_pa 22 : Int)) (hli : Cond.methodLink own index ⟨"java/lang/Object", "getClass", "()Ljava/lang/Class;"⟩ ∈ cw_bw) (hsel : Cond.selects "[Ljava/lang/Object;" ⟨"java/lang/Object", "getClass", "()Ljava/lang/Class;"⟩ ⟨"java/lang/Object", "getClass", "()Ljava/lang/Class;"⟩ ∈ cw_bw) (hins : Cond.instanceMethod ⟨"java/lang/Object", "getClass", "()Ljava/lang/Class;"⟩ ∈ cw_bw) (hnat : Cond.native ⟨"java/lang/Object", "getClass", "()Ljava/lang/Class;"⟩ ∈ cw_bw)
    (hl : ls.size = nL) (hrest : (rest.map fun v => v.category).sum ≤ 8) (hdg : decode cc pc = .ok (.invokevirtual index, 3))
    (kk : W p l e (cw_rm v (d + 1) σ0) s m args below meth c H locs cells slots Q (F0 m (pc + 3) ls (cR v z :: rest))) : W p l e (cw_rm v (d + 1) σ0) s m args below meth c H locs cells slots Q (F0 m pc ls (cR v x :: rest)) := by
  obtain ⟨hx, hb, hr, hml, hown, hts, hlk, hK⟩ := B
  have hK1 := hK.1.2.2.2.2.2.2.2.2
  rw [cR_o hz] at kk
  rw [cR_r h.1]
  obtain ⟨ce, ha, har⟩ := cw_arr hw h (by omega)
  exact va_getC hx hb (hml.trans hl.symm) hown (hts _ hli) (va_Dc.use hK1.2.2.2.2.2.1) (hts _ hsel) (hts _ hins) (hts _ hnat) hK1.2.2.2.2.1 ⟨ce, ha, (by cases hv : ce.vm <;> first | rfl | exact absurd hv (har.2.2.2 _)), by rw [har.1]; exact va_nmO hK1.1 (by decide +kernel)⟩ (by show 1 ≤ d + 1; omega) (by show _ + 14 ≤ 100 * (d + 1); omega) hdg kk
/-- Math.max, Math.min -/
theorem cw_mmax (B : cw_B v own p s m args meth c cc nL ret) (hw : cw_W v s σ0 σ H locs cells slots) {x y z : Int} {index : Nat} (hxr : inR x) (hyr : inR y) (hz : z = if x < y then y else x) (hli : Cond.methodLink own index Lib.Math.max.name ∈ cw_bw) (hst : Cond.static Lib.Math.max.name ∈ cw_bw) (hin : Cond.initialized "java/lang/Math" ∈ cw_bw) (hco : Cond.code Lib.Math.max.name Lib.Math.max.code 2 (some .int) ∈ cw_bw)
    (hl : ls.size = nL) (hrest : (rest.map fun v => v.category).sum ≤ 8) (hdg : decode cc pc = .ok (.invokestatic index, 3))
    (kk : W p l e (cw_rm v (d + 1) σ0) s m args below meth c H locs cells slots Q (F0 m (pc + 3) ls (.int (rI z) :: rest))) : W p l e (cw_rm v (d + 1) σ0) s m args below meth c H locs cells slots Q (F0 m pc ls (.int (rI y) :: .int (rI x) :: rest)) := by
  obtain ⟨hx, hb, hr, hml, hown, hts, hlk, hK⟩ := B
  have hrm := cw_rmok hw
  refine va_mmax hx hb (hml.trans hl.symm) hown (hts _ hli) (hts _ hst) (hts _ hin) (hts _ hco) (by show 1 ≤ d + 1; omega) (by show _ + 13 ≤ 100 * (d + 1); omega) (by show cells ≤ v.2.2.1 - c_hp σ0; omega) (by show slots ≤ v.2.2.2.1 - c_sl σ0; omega) hdg ?_
  have e : (if rI x < rI y then rI y else rI x) = rI z := by
    rw [hz]
    by_cases h : x < y
    · rw [if_pos ((rI_lt hxr hyr).mpr h), if_pos h]
    · rw [if_neg (fun q => h ((rI_lt hxr hyr).mp q)), if_neg h]
  rw [e]
  exact kk
theorem cw_mmin (B : cw_B v own p s m args meth c cc nL ret) (hw : cw_W v s σ0 σ H locs cells slots) {x y z : Int} {index : Nat} (hxr : inR x) (hyr : inR y) (hz : z = if y < x then y else x) (hli : Cond.methodLink own index Lib.Math.min.name ∈ cw_bw) (hst : Cond.static Lib.Math.min.name ∈ cw_bw) (hin : Cond.initialized "java/lang/Math" ∈ cw_bw) (hco : Cond.code Lib.Math.min.name Lib.Math.min.code 2 (some .int) ∈ cw_bw)
    (hl : ls.size = nL) (hrest : (rest.map fun v => v.category).sum ≤ 8) (hdg : decode cc pc = .ok (.invokestatic index, 3))
    (kk : W p l e (cw_rm v (d + 1) σ0) s m args below meth c H locs cells slots Q (F0 m (pc + 3) ls (.int (rI z) :: rest))) : W p l e (cw_rm v (d + 1) σ0) s m args below meth c H locs cells slots Q (F0 m pc ls (.int (rI y) :: .int (rI x) :: rest)) := by
  obtain ⟨hx, hb, hr, hml, hown, hts, hlk, hK⟩ := B
  have hrm := cw_rmok hw
  refine va_mmin hx hb (hml.trans hl.symm) hown (hts _ hli) (hts _ hst) (hts _ hin) (hts _ hco) (by show 1 ≤ d + 1; omega) (by show _ + 13 ≤ 100 * (d + 1); omega) (by show cells ≤ v.2.2.1 - c_hp σ0; omega) (by show slots ≤ v.2.2.2.1 - c_sl σ0; omega) hdg ?_
  have e : (if rI y < rI x then rI y else rI x) = rI z := by
    rw [hz]
    by_cases h : y < x
    · rw [if_pos ((rI_lt hyr hxr).mpr h), if_pos h]
    · rw [if_neg (fun q => h ((rI_lt hyr hxr).mp q)), if_neg h]
  rw [e]
  exact kk
end CRG
