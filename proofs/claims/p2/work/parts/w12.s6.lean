section LWF
/-! the law's world: the class's, the reference's, the row of one long -/
theorem rf_M.kept {v : rfE} {σ : RS} {H H' : Heap} (h : rf_M v σ H) (hq : ∀ q : Nat, rf_F v q → H'[q]? = H[q]?) : rf_M v σ H' :=
  ⟨h.1.kept (hq _ (Or.inl rfl)), fun k hk => by rw [hq _ (Or.inr ⟨k, hk, rfl⟩)]; exact h.2.1 k hk, h.2.2⟩
theorem rf_M.here {v : rfE} {σ : RS} {H : Heap} (h : rf_M v σ H) {q : Nat} (hq : rf_F v q) : q < H.size := by
  rcases hq with rfl | ⟨k, hk, rfl⟩
  · obtain ⟨cell, g1, -⟩ := h.1; exact (Array.getElem?_eq_some_iff.mp g1).1
  · exact (Array.getElem?_eq_some_iff.mp (h.2.1 k hk)).1
theorem va_T.same1 {ty : FieldType} {t N : Nat} {f : Nat → Value} {A : Nat → Prop} {U : State} {H H1 : Heap} (h : va_T ty t N f A U H) (hq : H1[t]? = H[t]?) : va_T ty t N f A U H1 := by
  obtain ⟨cell, h1, h2⟩ := h
  exact ⟨cell, by rw [hq]; exact h1, h2⟩
theorem va_T.here {ty : FieldType} {t N : Nat} {f : Nat → Value} {A : Nat → Prop} {U : State} {H : Heap} (h : va_T ty t N f A U H) : t < H.size := by
  obtain ⟨cell, h1, h2⟩ := h
  exact (Array.getElem?_eq_some_iff.mp h1).1
theorem js_K.narrow {A A' : Nat → Prop} {N : Nat} {len : List Nat} {byt : List (List Int32)} {adK adV : Nat → Nat} {U : State} {H : Heap} (h : js_K A N len byt adK adV U H) (hA : ∀ q, A' q → A q) : js_K A' N len byt adK adV U H := by
  refine ⟨h.1.narrow hA, ?_, fun i hi => ?_, h.2.2.2⟩
  · rcases h.2.1 with g | ⟨t, g⟩
    · exact Or.inl (g.narrow hA)
    · exact Or.inr ⟨t, g.narrow hA⟩
  · obtain ⟨⟨c1, a1, a2, a3, a4⟩, ⟨cf, k, i1, f, c2, b1, b2, b3, b4, b5, b6⟩, ⟨cf', k', i1', f', c2', b1', b2', b3', b4', b5', b6'⟩, ⟨c3, d1, d2, d3, d4, d5, d6, d7⟩⟩ := h.2.2.1 i hi
    exact ⟨⟨c1, a1, a2, a3, fun q => a4 (hA _ q)⟩, ⟨cf, k, i1, f, c2, b1, b2, b3, b4, b5, fun q => b6 (hA _ q)⟩, ⟨cf', k', i1', f', c2', b1', b2', b3', b4', b5', fun q => b6' (hA _ q)⟩, ⟨c3, d1, d2, d3, d4, d5, d6, fun q => d7 (hA _ q)⟩⟩
def lw_W (v : cwE) (vr : rfE) (o : Nat) (cL : ClassId) (s : State) (σs σ : CS) (τ : RS) (y : Int64) (H : Heap) (locs : List Loc) (cells slots : Nat) : Prop :=
  cw_W v s σs σ H locs cells slots ∧ rf_M vr τ H ∧ H[o]? = some (lw_oc cL y) ∧ (¬ cw_tm v σ o ∧ s.heap.size ≤ o ∧ ¬ rf_F vr o) ∧ (∀ q : Nat, rf_F vr q → ¬ cw_tm v σ q ∧ s.heap.size ≤ q) ∧
  va_T (.object RJ0) (rf_ad vr 0) 9 (fun i => .ref (rf_aK vr i)) (rf_F vr) s H ∧ ¬ cw_tm v σ (rf_ad vr 0) ∧ rf_ad vr 0 ≠ o
def lw_B (v : cwE) (vr : rfE) (cL : ClassId) (σs : CS) (p : Program) (s : State) (m : MethodId) (args : Array Value) (meth : Method) (c : Code) : Prop :=
  (p.tables.exec = Jvm.exec ∧ c.code = code ∧ meth.sig.returnType = ret ∧ c.maxLocals = 7 ∧ s.vm.findClass RL = some m.cls ∧ (∀ w ∈ lw_gw, w.before args s = true) ∧ meth.locks = false) ∧ cw_K v s ∧
  (u_Kn s RX12 TX12 83 vr.1 vr.2.1 ∧ ArrOfT s vr.2.2.1 .int ∧ js_K (fun q => s.heap.size ≤ q ∨ cw_tm v σs q) 11 rf_sl rf_sb (rf_aK vr) (rf_aV vr) s s.heap ∧ vk_R RX12 rf_ldT "type" (rf_aK vr 9) s ∧ vk_R RX12 rf_ldK "kind" (rf_aK vr 10) s) ∧
  rf_D vr ∧ ArrOfT s cL .long ∧ (v.2.2.1 - c_hp σs ≤ 601024 ∧ v.2.2.2.1 - c_sl σs ≤ 7293034)
section
variable {p : Program} {l : Launch} {e : Env} {s : State} {m : MethodId} {args : Array Value} {below : List Frame} {meth : Method} {c : Code} {H : Heap} {locs : List Loc} {cells slots : Nat} {Q : State → Prop} {pc : Nat} {ls : Array Slot} {rest : List Value}
variable {v : cwE} {vr : rfE} {σs σ σ1 : CS} {τ τ1 : RS} {cL : ClassId} {o : Nat} {y y' : Int64}
theorem lw_B.cw (B : lw_B v vr cL σs p s m args meth c) : cw_B v RL p s m args meth c code 7 ret := ⟨B.1.1, B.1.2.1, B.1.2.2.1, B.1.2.2.2.1, B.1.2.2.2.2.1, fun w h => B.1.2.2.2.2.2.1 w (lw_cwg w h), B.1.2.2.2.2.2.2, B.2.1⟩
/-- the law's world behind a call of the class -/
theorem lw_beh (hw : lw_W v vr o cL s σs σ τ y H locs cells slots) {H' : Heap} {k n : Nat} {L : List Loc} (hX : lw_X v σ σ1 o cL y' H H' k n L) : lw_W v vr o cL s σs σ1 τ y' H' (locs ++ L) (cells + k) (slots + n) := by
  obtain ⟨h1, h2, h3, h4, h5, h6, h7⟩ := hX
  obtain ⟨hw1, hr, ho, ⟨o1, o2, o3⟩, hF, hT, t1, t2⟩ := hw
  have hw0 := hw1
  obtain ⟨hm, w1, w2, w3, w4, w5, w6, w7⟩ := hw1
  have hm1 := hm.1.1
  have hsz : s.heap.size ≤ H.size := by omega
  have hos : o < H.size := (Array.getElem?_eq_some_iff.mp ho).1
  have hn : ∀ q, q < H.size → ¬ cw_tm v σ q → ¬ cw_tm v σ1 q := fun q hq h0 h => by
    rcases lw_tmn hm h6 h with g | g
    · exact h0 g
    · omega
  have hFo : ∀ q, rf_F vr q → q ≠ o := fun q h e => o3 (e ▸ h)
  refine ⟨⟨h3, w1, by omega, by omega, fun q hq h0 => ?_, fun z hz => ?_, fun q hq => ?_, w7⟩, ?_, h7, ⟨hn o hos o1, o2, o3⟩, fun q h => ⟨hn q (hr.here h) (hF q h).1, (hF q h).2⟩, ?_, hn _ hT.here t1, t2⟩
  · have ht : ¬ cw_tm v σ q := by
      rintro ⟨a, ha, rfl⟩
      rcases cw_tmo hw0 (w6 a ha) with z | z
      · exact h0 z
      · omega
    rw [h4 q (by omega) ht (by omega)]
    exact w4 q hq h0
  · rcases List.mem_append.mp hz with h | h
    · exact w5 z h
    · rcases h5 z h with ⟨a, ha, e⟩ | q | q
      · rw [← e]; exact cw_tmo hw0 (w6 a ha)
      · right; omega
      · right; rw [q]; exact o2
  · rcases h6 q hq with z | z
    · exact w6 q z
    · right; omega
  · exact hr.kept (fun q h => h4 q (hr.here h) (hF q h).1 (hFo q h))
  · exact hT.same1 (h4 _ hT.here t1 t2)
/-- a call of the class that never throws -/
theorem lw_dir (B : lw_B v vr cL σs p s m args meth c) {b index n mc d : Nat} {yc : MethodName} {bytes : ByteArray} {As st : List Value} {r : Int}
    (hM : cw_Met l v yc bytes mc (some .int) d (cR v (b : Int) :: As) σ σ1 0 (some (.int (rI r)))) (hti : c_tg σ b = 12) (hco : Cond.code yc bytes mc (some .int) ∈ lw_gw) (hini : Cond.initialized yc.cls ∈ lw_gw) (hli : Cond.methodLink RL index yc ∈ lw_gw) (hins : Cond.instanceMethod yc ∈ lw_gw) (hsel : Cond.selects RX11 yc yc ∈ lw_gw)
    (hd : yc.cls ≠ "java/lang/invoke/MethodHandle" ∧ yc.cls ≠ "java/lang/invoke/VarHandle" ∧ (parseMethodDescriptor yc.desc).map (fun d => d.parameters.length) = some n) (hmax : mc ≤ 80) (hd9 : d ≤ 800) (hn : As.length = n) (hl : ls.size = 7) (hrest : (rest.map fun v => v.category).sum ≤ 8)
    (hdg : decode code pc = .ok (.invokevirtual index, 3)) (hst : st = As.reverse ++ .ref (cw_mp v b) :: rest) (hw : lw_W v vr o cL s σs σ τ y H locs cells slots)
    (kk : ∀ (H : Heap) (locs : List Loc) (cells slots : Nat), lw_W v vr o cL s σs σ1 τ y H locs cells slots → W p l e room_1 s m args below meth c H locs cells slots Q (F0 m (pc + 3) ls (.int (rI r) :: rest))) :
    W p l e room_1 s m args below meth c H locs cells slots Q (F0 m pc ls st) := by
  have hg := B.1.2.2.2.2.2.1
  refine lw_cv (rest := rest) (R := room_1) (t := 12) (n := n) B.cw hM ⟨Int.natCast_nonneg b, hti⟩ (by decide) (hg _ hco) (hg _ hini) (hg _ hli) (hg _ hins) (hg _ hsel) hd hmax ⟨by show d + 1 ≤ 2048; omega, by show 100 * (d + 1) ≤ 84000; omega, B.2.2.2.2.2.1, B.2.2.2.2.2.2⟩ hn hl hrest hdg (by rw [hst, cR_r (Int.natCast_nonneg b)]; rfl) hw.1 (fun _ T B1 hT hPo _ => ?_) (fun h => absurd rfl h)
  obtain ⟨k, n', L, h1, h2, h3, h4, h5, h6, h7, h8, h9⟩ := hPo
  obtain ⟨U1, L1, c1, s1⟩ := B1
  dsimp only [Pt.U, Pt.locs, Pt.cells, Pt.slots] at h1 h2 h3 h4 h5 h6 h7 h8 h9 ⊢
  rw [hT] at h4 h5
  have hos : o < H.size := (Array.getElem?_eq_some_iff.mp hw.2.2.1).1
  subst h7 h8 h9
  exact kk _ _ _ _ (lw_beh hw ⟨h1, h2, h3, fun q a b _ => h4 q a b, fun z hz => (h5 z hz).elim Or.inl (fun h => Or.inr (Or.inl h)), h6, by rw [h4 o hos hw.2.2.2.1.1]; exact hw.2.2.1⟩)
/-- a call of a wrapper -/
theorem lw_wr (B : lw_B v vr cL σs p s m args meth c) {index n maxL d : Nat} {yw : MethodName} {bw : ByteArray} {hh : List (Nat × Nat × Nat × Nat)} {as st : List Value} {k : Int32}
    (hM : lw_Met l v yw bw maxL hh d as σ σ1 o cL y y' k) (hco : Cond.codeWith yw bw maxL (some .int) hh ∈ lw_gw) (hini : Cond.initialized yw.cls ∈ lw_gw) (hli : Cond.methodLink RL index yw ∈ lw_gw) (hsta : Cond.static yw ∈ lw_gw)
    (hd : yw.cls ≠ "java/lang/invoke/MethodHandle" ∧ yw.cls ≠ "java/lang/invoke/VarHandle" ∧ (parseMethodDescriptor yw.desc).map (fun d => d.parameters.length) = some n) (hmax : maxL ≤ 80) (hd9 : d ≤ 800) (hn : as.length = n) (hl : ls.size = 7) (hrest : (rest.map fun v => v.category).sum ≤ 8)
    (hdg : decode code pc = .ok (.invokestatic index, 3)) (hst : st = as.reverse ++ rest) (hw : lw_W v vr o cL s σs σ τ y H locs cells slots)
    (kk : ∀ (H : Heap) (locs : List Loc) (cells slots : Nat), lw_W v vr o cL s σs σ1 τ y' H locs cells slots → W p l e room_1 s m args below meth c H locs cells slots Q (F0 m (pc + 3) ls (.int k :: rest))) :
    W p l e room_1 s m args below meth c H locs cells slots Q (F0 m pc ls st) := by
  have hg := B.1.2.2.2.2.2.1
  have hrm := cw_rmok hw.1
  have hroom := B.2.2.2.2.2
  have hlen : ∀ sig, parseMethodDescriptor yw.desc = some sig → as.length = sig.parameters.length := fun sig h => by
    have h2 := hd.2.2
    rw [h] at h2
    exact hn.trans (Option.some.inj h2).symm
  have hws : ∀ w ∈ (Cond.codeWith yw bw maxL (some .int) hh :: lw_gw), ∀ a' U, s.WarmedH U.vm → w.before a' U = true := fun w hw a' U hW => by
    have h : w ∈ lw_gw := by
      rcases List.mem_cons.mp hw with rfl | h
      · exact hco
      · exact h
    exact word_at hW (good_of_word (lw_gw_ok h)) (hg w h)
  intro T hT X
  have hBk := lw_back (R := room_1) (p := p) (e := e) (below := below) (s := s) (sargs := args) (len := 3) (W9 := 8) (maxL := maxL) hM lw_blind (fun a' U mk hn hb => by
    obtain ⟨m9, methY, cY, hn9, hmY, hcY, -, hlY, -⟩ := Cond.codeWith_spec (hb _ List.mem_cons_self)
    cases Option.some.inj (hn9.symm.trans hn)
    exact ⟨methY, cY, hmY, hcY, hlY⟩) (by show d + 1 + 1 ≤ 2048; omega) (by show 8 + (maxL + 11) + 100 * (d + 1) ≤ 84000; omega) hws (fun a' U hW => word_at hW (good_of_word (lw_gw_ok hini)) (hg _ hini))
  obtain ⟨w, vm₁, B1, hW₁, X', ⟨rfl, k', n', L, hX, h7, h8, h9⟩, st1⟩ := vx_callSW X B.1.1 B.1.2.2.2.2.1 (hg _ hli) (hg _ hsta) (hg _ hini) (hg _ hco) ⟨hd.1, hd.2.1⟩ hBk (g := F0 m pc ls st) rfl (hl.trans B.1.2.2.2.1.symm) (argsL := as) (rest := rest) hlen hst (lv_room hrest) (by rw [B.1.2.1]; exact hdg)
    (fun vm₁ hW₁ => ⟨by show cells + (v.2.2.1 - c_hp σ) ≤ 601024; omega, by show slots + (v.2.2.2.1 - c_sl σ) ≤ 7293034; omega, rfl, by show cw_M v σ T.heap; rw [hT]; exact hw.1.1, B.2.1.at (cw_old hw.1) hT hW₁, by show T.heap[o]? = _; rw [hT]; exact hw.2.2.1, arrOfT_moved (E := T.setVm vm₁) hW₁.alike B.2.2.2.2.1⟩)
  obtain ⟨U1, L1, c1, s1⟩ := B1
  dsimp only [Pt.U, Pt.locs, Pt.cells, Pt.slots] at hX h7 h8 h9 X' st1 ⊢
  subst h7 h8 h9
  have hX' : lw_X v σ σ1 o cL y' H U1.heap k' n' L := by rw [← hT]; exact hX
  obtain ⟨t2, a1, b1⟩ := kk _ _ _ _ (lw_beh hw hX') U1 rfl X'
  exact ⟨t2, st1 t2 a1, b1⟩
/-- what the reference asks for, where it is called -/
theorem lw_rk (B : lw_B v vr cL σs p s m args meth c) (hw : lw_W v vr o cL s σs σ τ y H locs cells slots) {U : State} (hU : U.heap = H) (hW : s.WarmedH U.vm) : rf_K vr U := by
  obtain ⟨-, -, ⟨b1, b2, b3, b4, b5⟩, -⟩ := B
  refine ⟨u_Kn_moved hW.alike b1, arrOfT_moved hW.alike b2, ?_, ?_, b4.warm hW, b5.warm hW⟩
  · rw [hU]
    refine js_K.moved hW.alike (js_K.narrow (b3.kept (H1 := H) (fun a ha hA => hw.1.2.2.2.2.1 a ha (fun h => hA (Or.inr h)))) (fun q hq => Or.inl (hw.2.2.2.2.1 q hq).2))
  · rw [hU]
    exact va_T.moved hW.alike hw.2.2.2.2.2.1
/-- a call of the reference -/
theorem lw_rf (B : lw_B v vr cL σs p s m args meth c) {index n mr d : Nat} {yc : MethodName} {bytes : ByteArray} {As st : List Value} {rb : Int}
    (hM : rf_Met l vr yc bytes mr (some .int) d (.ref (rf_h vr) :: As) τ τ1 (some (.int (rI rb)))) (hco : Cond.code yc bytes mr (some .int) ∈ lw_gw) (hini : Cond.initialized RX12 ∈ lw_gw) (hli : Cond.methodLink RL index yc ∈ lw_gw) (hins : Cond.instanceMethod yc ∈ lw_gw) (hsel : Cond.selects RX12 yc yc ∈ lw_gw)
    (hd : yc.cls = RX12 ∧ yc.cls ≠ "java/lang/invoke/MethodHandle" ∧ yc.cls ≠ "java/lang/invoke/VarHandle" ∧ (parseMethodDescriptor yc.desc).map (fun d => d.parameters.length) = some n) (hmax : mr ≤ 80) (hd9 : d ≤ 800) (hn : As.length = n) (hl : ls.size = 7) (hrest : (rest.map fun v => v.category).sum ≤ 8)
    (hdg : decode code pc = .ok (.invokevirtual index, 3)) (hst : st = As.reverse ++ .ref (rf_h vr) :: rest) (hw : lw_W v vr o cL s σs σ τ y H locs cells slots)
    (kk : ∀ (H : Heap) (locs : List Loc), lw_W v vr o cL s σs σ τ1 y H locs cells slots → W p l e room_1 s m args below meth c H locs cells slots Q (F0 m (pc + 3) ls (.int (rI rb) :: rest))) :
    W p l e room_1 s m args below meth c H locs cells slots Q (F0 m pc ls st) := by
  have hg := B.1.2.2.2.2.2.1
  have hrm := cw_rmok hw.1
  have hroom := B.2.2.2.2.2
  obtain ⟨cell, q1, q2, q3, q4⟩ := hw.2.1.1
  have hrun := W.runV (C := RX12) (own := RL) (Ts := lw_gw) (R := room_1) (e := e) (below := below) (meth := meth) (locs := locs) (cells := cells) (slots := slots) (rest := rest) (g := F0 m pc ls st) ⟨B.1.1, B.1.2.1, B.1.2.2.2.1, B.1.2.2.2.2.1, hg⟩ hM (cwV n hg (by
      intro w hw
      rcases List.mem_append.mp hw with h | h
      · simp only [List.mem_cons, List.mem_nil_iff, or_false] at h
        rcases h with rfl | rfl | rfl | rfl
        · exact ⟨hli, good_of_word (lw_gw_ok hli)⟩
        · exact ⟨hins, good_of_word (lw_gw_ok hins)⟩
        · exact ⟨hsel, good_of_word (lw_gw_ok hsel)⟩
        · exact ⟨hini, good_of_word (lw_gw_ok hini)⟩
      · rcases List.mem_cons.mp h with h | h
        · rw [h]; exact ⟨hco, good_of_word (lw_gw_ok hco)⟩
        · exact ⟨lw_rfg w h, good_of_word (lw_gw_ok (lw_rfg w h))⟩) rfl rfl rfl hd ⟨by show d + 1 ≤ 2048; omega, by show 8 + (mr + 11) + 60 * d ≤ 84000; omega⟩)
    ⟨rf_blind, ⟨cell, q1, by rw [q3]; rfl, by rw [q2]; exact B.2.2.1.1.2.1⟩, fun U hU hW => ⟨rfl, by rw [hU]; exact hw.2.1, lw_rk B hw hU hW⟩⟩ rfl hn hl hst (lv_room hrest) hdg ⟨by show cells + 0 ≤ 601024; omega, by show slots + 0 ≤ 7293034; omega⟩
  intro T hT X
  obtain ⟨v1, st₀, t, T', L, h0, X', hL, e1, ⟨hv, hM1, hz, hfr⟩, st1⟩ := hrun T hT X
  obtain rfl : v1 = some (.int (rI rb)) := Outcome.returned.inj hv
  obtain ⟨hw1, hr, ho, ⟨o1, o2, o3⟩, hF, hTT, t1, t2⟩ := hw
  have hA : ∀ q, ¬ rf_F vr q → T'.heap[q]? = H[q]? := fun q h => by rw [e1, hfr q h, h0]
  have hs' : T'.heap.size = H.size := by rw [e1, hz, h0]
  have hF0 : ¬ rf_F vr (rf_ad vr 0) := by obtain ⟨c9, -, -, -, -, -, -, h9⟩ := hTT; exact h9
  have hT0 : T'.heap[rf_ad vr 0]? = H[rf_ad vr 0]? := hA _ hF0
  obtain ⟨t2', a1, b1⟩ := kk T'.heap (locs ++ L) ⟨⟨hw1.1.kept hs' (fun a ha => hA _ (fun h => (hF _ h).1 ⟨a, ha, rfl⟩)), hw1.2.1, hw1.2.2.1, hw1.2.2.2.1, fun q hq h => by
      rw [hA q (fun g => by have := (hF q g).2; omega)]; exact hw1.2.2.2.2.1 q hq h, fun z hz => by
        rcases List.mem_append.mp hz with h | h
        · exact hw1.2.2.2.2.2.1 z h
        · exact Or.inr (hF _ (hL z h)).2, hw1.2.2.2.2.2.2⟩, by rw [e1]; exact hM1, by rw [hA o o3]; exact ho, ⟨o1, o2, o3⟩, hF, hTT.same1 hT0, t1, t2⟩ T' rfl X'
  exact ⟨t2', st1 t2' a1, b1⟩
end
end LWF
