section LWN
variable {p : Program} {l : Launch} {e : Env} {R : Room} {s : State} {m : MethodId} {args : Array Value} {below : List Frame} {meth : Method} {c : Code} {H : Heap} {locs : List Loc} {cells slots : Nat} {Q : State → Prop} {cc : ByteArray} {pc : Nat} {ls : Array Slot} {rest : List Value}
variable {v : cwE} {σ0 σ σ1 : CS} {nL d : Nat} {ret : Option FieldType} {own : String}
/-- cells without a tag come -/
def lw_gr (σ : CS) (k n : Nat) : CS := (σ.1, σ.2.1, σ.2.2.1, c_hp σ + k, c_sl σ + n)
theorem gg_gr {bd : cBd} {b : Nat} (h : GG bd b σ) : ∀ k n, GG bd b (lw_gr σ (k + 1) n)
  | 0, n => (gg_x h n).1
  | k + 1, n => (gg_x (gg_gr h k 0) n).1
theorem rr_gr {bd : cBd} {b k s o z k1 n1 : Nat} (h : RR bd b σ (k + k1) (s + n1) o z) : RR bd b (lw_gr σ k1 n1) k s o z := by
  obtain ⟨a1, a2, a3, a4⟩ := h
  have e1 : c_hp (lw_gr σ k1 n1) = c_hp σ + k1 := rfl
  have e2 : c_sl (lw_gr σ k1 n1) = c_sl σ + n1 := rfl
  unfold RR
  rw [e1, e2]
  exact ⟨by show _ + 6 * (60000 - c_pv σ (b + 16) 3) + _ ≤ _; omega, by show _ + 60 * (60000 - c_pv σ (b + 16) 3) + _ ≤ _; omega, a3, a4⟩
theorem cw_gr_W (hw : cw_W v s σ0 σ H locs cells slots) {k n : Nat} (hhp : c_hp σ + k ≤ v.2.2.1 ∧ c_sl σ + n ≤ v.2.2.2.1) {H' : Heap} {L : List Loc} (e2 : H'.size = H.size + k) (e3 : ∀ q : Nat, q < H.size → (cw_tm v σ q ∨ q < s.heap.size) → H'[q]? = H[q]?) (hL : ∀ z ∈ L, s.heap.size ≤ z.base) : cw_W v s σ0 (lw_gr σ k n) H' (locs ++ L) (cells + k) (slots + n) := by
  obtain ⟨⟨m1, m2, m3, m4, m5, m6, m7⟩, w1, w2, w3, w4, w5, w6, w7⟩ := hw
  have hm1 := m1.1
  have hsz : s.heap.size ≤ H.size := by omega
  refine ⟨⟨⟨by rw [e2]; show _ = c_hp σ + k + _; omega, by show 100 ≤ c_hp σ + k; omega⟩, fun a ha => ?_, m3, hhp.1, hhp.2, fun q hq => m6 q (by omega), m7⟩, w1, by show c_hp σ + k = _; omega, by show c_sl σ + n = _; omega, fun q hq h0 => by rw [e3 q (by omega) (Or.inr hq)]; exact w4 q hq h0, fun z hz => ?_, w6, w7⟩
  · exact (m2 a ha).kept (e3 _ (m2 a ha).here (Or.inl ⟨a, ha, rfl⟩))
  · rcases List.mem_append.mp hz with h | h
    · exact w5 z h
    · exact Or.inr (hL z h)
/-- a new object of the class -/
theorem lw_new (B : cw_B v own p s m args meth c cc nL ret) (hw : cw_W v s σ0 σ H locs cells slots) {t N index : Nat} (hT : cw_OKt t) (hN : (cw_tab t).2.2 = N) (hdef : ∀ f, f < (cw_tab t).2.2 → defaultValue (cw_ty t f) = cw_fv v t f (if cw_isR t f = true then -1 else 0)) (hcl : (Cond.classLink own index (cw_tab t).1).before args s = true) (hin : (Cond.instantiable (cw_tab t).1 N).before args s = true) (hini : (Cond.initialized (cw_tab t).1).before args s = true)
    (hm1 : c_hp σ + 1 ≤ v.2.2.1 ∧ c_sl σ + N ≤ v.2.2.2.1 ∧ c_hp σ < 2147483648) (hR : v.2.2.1 - c_hp σ0 ≤ R.cells ∧ v.2.2.2.1 - c_sl σ0 ≤ R.slots) {σ1 : CS} (h1 : σ1 = cs_n σ t N) {z : Int} (hz : z = (c_hp σ : Int)) (hdg : decode cc pc = .ok (.new index, 3))
    (kk : ∀ (H : Heap), cw_W v s σ0 σ1 H locs (cells + 1) (slots + N) → W p l e R s m args below meth c H locs (cells + 1) (slots + N) Q (F0 m (pc + 3) ls (cR v z :: rest))) : W p l e R s m args below meth c H locs cells slots Q (F0 m pc ls rest) := by
  obtain ⟨hx, hb, hr, hml, hown, hts, hlk, hK⟩ := B
  have hKt := hK.1.1 t hT.1.1 hT.1.2
  have w2 := hw.2.2.1
  have w3 := hw.2.2.2.1
  refine W.newcK hx hb hown hcl hin hini rfl hdg (by omega) (by omega) hKt.2.1 rfl fun H1 kC hkC e1 z1 o1 => ?_
  have hsz : H.size = cw_mp v (c_hp σ) := by have h7 := hw.1.1.1; have h8 := hw.1.1.2; rw [cw_mp_n h8]; omega
  subst h1
  have hcz : cR v z = .ref H.size := by rw [hz, cR_r (by omega), Int.toNat_natCast, ← hsz]
  rw [← hcz]
  refine kk H1 (cw_new_W hw (by have := hT.1.1; omega) ⟨hm1.1, hm1.2.1⟩ ?_ z1 o1)
  unfold cw_at
  have htg : c_tg (cs_n σ t N) (c_hp σ) = t := if_pos rfl
  rw [htg, if_pos (by have := hT.1.2; omega), ← hsz]
  refine (u_born (cw_ty t) hts hT.2.1 hKt hkC e1 hT.2.2.1).to (fun j hj => ?_)
  rw [hdef j hj]
  show _ = cw_fv v t j (if c_hp σ = c_hp σ then (if cw_isR t j = true then -1 else 0) else c_pv σ (c_hp σ) j)
  rw [if_pos rfl]
/-- its constructor -/
theorem lw_ci (B : cw_B v own p s m args meth c cc nL ret) {y : MethodName} {bytes : ByteArray} {maxL index n : Nat} {As : List Value} {b : Int}
    (hM : cw_Met l v y bytes maxL none d (cR v b :: As) σ σ1 0 none) (hb0 : 0 ≤ b) (hy1 : y.name = "<init>") (hco : (Cond.code y bytes maxL none).before args s = true) (hini : (Cond.initialized y.cls).before args s = true) (hli : (Cond.methodLink own index y).before args s = true) (hins : (Cond.instanceMethod y).before args s = true)
    (hd : y.cls ≠ "java/lang/invoke/MethodHandle" ∧ y.cls ≠ "java/lang/invoke/VarHandle" ∧ (parseMethodDescriptor y.desc).map (fun d => d.parameters.length) = some n) (hmax : maxL ≤ 80) (hR : d + 1 ≤ R.frames ∧ 100 * (d + 1) ≤ R.locals ∧ v.2.2.1 - c_hp σ0 ≤ R.cells ∧ v.2.2.2.1 - c_sl σ0 ≤ R.slots)
    (hn : As.length = n) (hl : ls.size = nL) (hrest : (rest.map fun v => v.category).sum ≤ 8) (hdg : decode cc pc = .ok (.invokespecial index, 3)) {st : List Value} (hst : st = As.reverse ++ cR v b :: rest) (hw : cw_W v s σ0 σ H locs cells slots)
    (kk : ∀ (H : Heap) (locs : List Loc) (cells slots : Nat), cw_W v s σ0 σ1 H locs cells slots → W p l e R s m args below meth c H locs cells slots Q (F0 m (pc + 3) ls rest)) :
    W p l e R s m args below meth c H locs cells slots Q (F0 m pc ls st) := by
  obtain ⟨hx, hb, hr, hml, hown, hts, hlk, hK⟩ := B
  have hw1 : ∀ w ∈ (Cond.code y bytes maxL none :: cw_bw), ∀ a' U, s.WarmedH U.vm → w.before a' U = true := fun w hw a' U hW => by
    rcases List.mem_cons.mp hw with rfl | h
    · exact word_at hW (good_of_word rfl) hco
    · exact word_at hW (good_of_word (List.all_eq_true.mp cw_bw_good w h)) (hts w h)
  have hw2 : ∀ a' U, s.WarmedH U.vm → (Cond.initialized y.cls).before a' U = true := fun a' U hW => word_at hW (good_of_word rfl) hini
  have hrm := cw_rmok hw
  intro T hT X
  have hBk := cw_back (R := R) (p := p) (e := e) (below := below) (s := s) (sargs := args) (len := 3) (W9 := 8) hM hR.1 (by have := hR.2.1; omega) hw1 hw2
  have hBk2 : Back l R p e below s args y 3 8 (fun A a => A.cells + (v.2.2.1 - c_hp σ) ≤ R.cells ∧ A.slots + (v.2.2.2.1 - c_sl σ) ≤ R.slots ∧ cw_P v σ (cR v b :: As) a A.U) (fun A _ w B => (0 : Nat) = 0 ∧ w = none ∧ cw_Po v σ σ1 A B) := by
    intro m' meth' c' A g ig mk a X1 h1 h2 h3 h4 h5 h6
    rcases hBk m' meth' c' A g ig mk a X1 h1 h2 h3 h4 h5 h6 with h | ⟨q, B, -, ⟨hk, -⟩, -⟩
    · exact h
    · exact absurd rfl hk
  obtain ⟨w, vm₁, B, hW₁, X', ⟨hk0, hw0, hPo⟩, st1⟩ := callI X hx (bytes := bytes) (maxL := maxL) hown hy1 hli hins hco ⟨hd.1, hd.2.1⟩ hBk2
    (g := F0 m pc ls st) rfl (hl.trans hml.symm) (a := cw_mp v b.toNat) (argsL := As) (rest := rest) (cw_par hd.2.2 hn) (by rw [← cR_r hb0]; exact hst) (lv_room hrest) (by rw [hb]; exact hdg)
    (fun vm₁ hW₁ => ⟨by show cells + _ ≤ _; omega, by show slots + _ ≤ _; omega, by rw [cR_r hb0], by show cw_M v σ T.heap; rw [hT]; exact hw.1, hK.at (cw_old hw) hT hW₁⟩)
  subst hw0
  obtain ⟨t2, a1, b1⟩ := kk _ _ _ _ (cw_behind (U := T) hw hT hPo) B.U rfl X'
  exact ⟨t2, st1 t2 a1, b1⟩
end LWN
section LWN2
variable {l : Launch} {R : Room} {p : Program} {e : Env} {below : List Frame} {s : State} {sargs : Array Value} {y : MethodName} {len W9 : Nat}
def lw_Q1 (rv : Option Value) (X : Heap → Heap → Vm → Nat → Nat → List Loc → Prop) : Array Value → State → Outcome → State → Prop := fun _ st o t =>
  o = .returned rv ∧ ∃ (k n : Nat) (L : List Loc), st.WarmedH t.vm ∧ st.sameButNew ({ t with vm := st.vm } : State) L k n ∧ X st.heap t.heap t.vm k n L
/-- the payer, for a contract that tells of the machine behind it too -/
theorem lw_backV {ws : List Cond} {rm : Room} {Pc : Array Value → State → Prop} {rv : Option Value} {X : Heap → Heap → Vm → Nat → Nat → List Loc → Prop} {maxL : Nat}
    (hM : MetFree l y (headSpec ws rm) Pc (fun _ _ _ _ _ => True) (lw_Q1 rv X)) (hblind : FrameBlind Pc) (hdx : ∀ (a' : Array Value) (U : State) (mk : MethodId), U.methodNamed? y = some mk → (∀ w ∈ ws, w.before a' U = true) → ∃ (methY : Method) (cY : Code), U.vm.method? mk = some methY ∧ methY.code = some cY ∧ cY.maxLocals = maxL) (hframes : rm.frames + 1 ≤ R.frames) (hlocals : W9 + (maxL + 11) + rm.locals ≤ R.locals)
    (hws : ∀ w ∈ ws, ∀ a' U, s.WarmedH U.vm → w.before a' U = true) (hinit : ∀ a' U, s.WarmedH U.vm → (Cond.initialized y.cls).before a' U = true) :
    Back l R p e below s sargs y len W9 (fun A a => A.cells + rm.cells ≤ R.cells ∧ A.slots + rm.slots ≤ R.slots ∧ Pc a A.U)
      (fun A _ w B => w = rv ∧ ∃ (k n : Nat) (L : List Loc), X A.U.heap B.U.heap B.U.vm k n L ∧ B.locs = A.locs ++ L ∧ B.cells = A.cells + k ∧ B.slots = A.slots + n) := by
  intro m meth c A g ig mk a X0 hg hsize hdg hW hn hp
  have h1 : (headSpec ws rm).pre.before a A.U = true := atoms_intro fun w hw => hws w hw _ _ X0.warmed
  have h2 := hdx a A.U mk hn (fun w hw => hws w hw _ _ X0.warmed)
  have h3 : (Cond.initialized y.cls).before a A.U = true := hinit _ _ X0.warmed
  have hPc : Pc a (A.U.calling g mk a) := hblind _ _ _ _ hp.2.2
  obtain ⟨U, Ls, c0, s0⟩ := A
  dsimp only [Pt.U, Pt.locs, Pt.cells, Pt.slots] at h1 h2 h3 X0 hn hPc hp ⊢
  obtain ⟨methY, cY, hmY, hcY, hlY⟩ := h2
  obtain ⟨kY, hkY, -⟩ := className_of_methodNamed hn
  have hinitY : kY.init = .initialized := Cond.initialized_spec (findClass_of_methodNamed hn) hkY h3
  have h : At U g.method c below := by rw [hg]; exact X0.here
  have happ : (headSpec ws rm).appliesLoose y e.platform (U.calling g mk a) = true :=
    Spec.appliesLoose_calling (g := g) h hdg hn hkY hinitY
      (X0.room_calling (g := g) (R' := rm) hsize hmY hcY hframes (by rw [hlY]; omega) hp.1 hp.2.1) h1
  obtain ⟨mid, hmid⟩ := h.above
  have hfr : (U.setTop g).frames = (.java g :: mid) ++ below := by rw [State.frames_setTop' g h.top, hmid]; rfl
  obtain ⟨o, s₂, hsteps, -, hend, hq⟩ := Steps.callFree hM p X0.admits X0.cas X0.clock (acts := []) hfr happ hPc trivial
  have hq' : lw_Q1 rv X a (U.calling g mk a) o s₂ := hq
  rw [State.frames_setTop' g h.top] at hend
  obtain ⟨g₀, hg0⟩ := Option.isSome_iff_exists.mp h.top
  obtain ⟨r, hr⟩ := State.topJava?_eq_some.mp hg0
  have hr' : (({ U with heap := s₂.heap, slotsUsed := s₂.slotsUsed } : State).setVm s₂.vm).frames = .java g₀ :: r := hr
  obtain ⟨hout, k, n, L, hW₂, hsm, hX⟩ := hq'
  obtain ⟨e2, q2, q3, q4, q5, q6⟩ := id hsm
  have e3 : s₂ = ({ (U.calling g mk a).setFrames s₂.frames with heap := s₂.heap, slotsUsed := s₂.slotsUsed } : State).setVm s₂.vm := by
    have : s₂ = ({ s₂ with vm := (U.calling g mk a).vm } : State).setVm s₂.vm := rfl
    rw [e2] at this
    exact this
  have hW' : U.WarmedH s₂.vm := hW₂
  have hsame : U.sameButNew ({ U with heap := s₂.heap, slotsUsed := s₂.slotsUsed } : State) L k n := by
    refine ⟨?_, q2, q3, q4, q5, q6⟩
    obtain ⟨t, ht, -⟩ := State.frames_cons hr
    show ({ U with heap := s₂.heap, slotsUsed := s₂.slotsUsed } : State) = { U.setFrames U.frames with heap := s₂.heap, slotsUsed := s₂.slotsUsed }
    rw [State.setFrames_self ht]
  have hStand : Stand p l e R s m sargs below meth c (({ U with heap := s₂.heap, slotsUsed := s₂.slotsUsed } : State).setVm s₂.vm) (Ls ++ L) (c0 + k) (s0 + n) :=
    ⟨X0.admits, X0.cas, X0.clock, X0.frames, X0.room, X0.hears, X0.method, X0.code, (X0.here.setHeapUsed s₂.heap s₂.slotsUsed).setVm hW'.alike, X0.tail, State.WarmedH.trans X0.warmed hW', X0.limits, X0.bytes, X0.same.trans (hsame.setVm s.vm)⟩
  subst hout
  obtain ⟨c₂, i₂, len₂, hc₂, hd₂, hf₂⟩ := hend
  have hcc : c₂ = c := by
    have h1 : s₂.code? g.method = U.code? g.method := by
      rw [State.code?_eq, State.code?_eq, hW'.alike.method?]
    exact Option.some.inj (hc₂.symm.trans (h1.trans h.code))
  subst hcc
  have hlen : len₂ = len := by rw [hdg] at hd₂; cases hd₂; rfl
  subst hlen
  have hs₂ : s₂ = (({ U with heap := s₂.heap, slotsUsed := s₂.slotsUsed } : State).setVm s₂.vm).setTop { g with pc := g.pc + len₂, stack := rv.toList ++ g.stack } := by
    refine e3.trans ?_
    rw [hf₂, State.calling_eq h.top, State.setFrames_setFrames, State.setTop_of_frames _ hr', hr]
    rfl
  refine ⟨rv, ⟨(({ U with heap := s₂.heap, slotsUsed := s₂.slotsUsed } : State).setVm s₂.vm), Ls ++ L, c0 + k, s0 + n⟩, hStand, ⟨rfl, k, n, L, hX, rfl, rfl, rfl⟩, ?_⟩
  show Steps p.tables e below _ ((({ U with heap := s₂.heap, slotsUsed := s₂.slotsUsed } : State).setVm s₂.vm).setTop { g with pc := g.pc + len₂, stack := rv.toList ++ g.stack })
  rw [← hs₂]
  exact hsteps
/-- the reference's constructor, as the payer wants it -/
def lw_rX (vr : rfE) (sz : Nat) (τ : RS) : Heap → Heap → Vm → Nat → Nat → List Loc → Prop := fun H H' vm k n L =>
  k = 34 ∧ n = rc_SL ∧ rf_M vr τ H' ∧ H'.size = sz + 34 ∧ (∀ q : Nat, q < sz → q ≠ rf_h vr → H'[q]? = H[q]?) ∧ (∀ U : State, U.vm = vm → va_T (.object RJ0) (rf_ad vr 0) 9 (fun i => .ref (rf_aK vr i)) (rf_F vr) U H') ∧ ∀ q ∈ L, rc_free vr sz q.base
theorem lw_rM {vr : rfE} {sz d : Nat} {τ : RS} (hM : Met l yX12_init (Cond.code yX12_init cX12_init 1 none :: rf_bw) (rc_rm d) (rc_P vr sz) (rc_Q vr sz τ) 34 rc_SL (rc_free vr sz)) : MetFree l yX12_init (headSpec (Cond.code yX12_init cX12_init 1 none :: rf_bw) (rc_rm d)) (rc_P vr sz) (fun _ _ _ _ _ => True) (lw_Q1 none (lw_rX vr sz τ)) := by
  intro p e ha hc hk s m args below hf happ hP hK
  obtain ⟨n, o, h1, h2, h3, ⟨g1, g2, g3, g4, g5⟩, L, ⟨-, hW, hS⟩, hL⟩ := hM p e ha hc hk s m args below hf happ hP hK
  exact ⟨n, o, h1, h2, h3, g1, 34, rc_SL, L, hW, hS, rfl, rfl, g2, g3, g4, fun U hU => va_T.moved (u := stepsAlone p.tables e n s) (U := U) (by rw [hU]; exact Vm.Alike.refl _) g5, hL⟩
theorem lw_rcb {vr : rfE} {sz : Nat} : FrameBlind (rc_P vr sz) := fun a U g mk q => by
  obtain ⟨q0, q1, q2, q3, q4, q5, ⟨q6, q7, q8⟩, q9, q10⟩ := q
  exact ⟨q0, q1, q2, u_Kn_moved (u := U) (U := U.calling g mk a) (Vm.Alike.refl U.vm) q3, arrOfT_moved (u := U) (E := U.calling g mk a) (Vm.Alike.refl U.vm) q4, q5, ⟨fun i hi => (q6 i hi).same rfl, q7.same rfl, q8.same rfl⟩, va_AO.moved (u := U) (U := U.calling g mk a) (Vm.Alike.refl U.vm) q9, js_K.moved (u := U) (U := U.calling g mk a) (Vm.Alike.refl U.vm) q10⟩
end LWN2
