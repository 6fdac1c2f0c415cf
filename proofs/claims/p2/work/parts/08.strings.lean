/-! STRING CONSTANTS: contracts of String.length() and charAt(), over constants told by their places -/
section JSA
def js_bw : List Cond := [.fieldLink RJ0 38 "java/lang/String" "COMPACT_STRINGS" "Z", .fieldLink RJ0 15 "java/lang/String" "coder" "B", .fieldLink RJ0 9 "java/lang/String" "value" "[B",
  .methodLink RJ0 335 yJ0_coder_7d493, .instanceMethod yJ0_coder_7d493, .selects RJ0 yJ0_coder_7d493 yJ0_coder_7d493, .initialized RJ0, .code yJ0_coder_7d493 cJ0_coder_7d493 1 (some .byte),
  .methodLink RJ0 492 yJ0_isLatin1_aae02, .instanceMethod yJ0_isLatin1_aae02, .selects RJ0 yJ0_isLatin1_aae02 yJ0_isLatin1_aae02, .code yJ0_isLatin1_aae02 cJ0_isLatin1_aae02 1 (some .boolean),
  .methodLink RJ0 495 yJ1_charAt_3b067, .static yJ1_charAt_3b067, .initialized RJ1, .code yJ1_charAt_3b067 cJ1_charAt_3b067 2 (some .char),
  .methodLink RJ1 9 yJ0_checkIndex_df160, .static yJ0_checkIndex_df160, .code yJ0_checkIndex_df160 cJ0_checkIndex_df160 2 none,
  .fieldLink RJ0 1053 "jdk/internal/util/Preconditions" "SIOOBE_FORMATTER" "Ljava/util/function/BiFunction;",
  .methodLink RJ0 1059 yJ3_checkIndex_8e157, .static yJ3_checkIndex_8e157, .initialized RJ3, .code yJ3_checkIndex_8e157 cJ3_checkIndex_8e157 3 (some .int)]
theorem js_bw_good : js_bw.all goodWord = true := by decide +kernel
theorem js_good {own : List Cond} {y : MethodName} {bytes : ByteArray} {maxL : Nat} {ret0 : Option FieldType} (h0 : GoodIn js_bw (Cond.code y bytes maxL ret0 :: own)) : GoodIn js_bw (own ++ (Cond.code y bytes maxL ret0 :: js_bw)) := by
  intro w hw
  rcases List.mem_append.mp hw with h | h
  · exact h0 w (List.mem_cons_of_mem _ h)
  · rcases List.mem_cons.mp h with h | h
    · exact h0 w (by rw [h]; exact List.mem_cons_self)
    · exact ⟨h, good_of_word (List.all_eq_true.mp js_bw_good w h)⟩
def js_rm (d : Nat) : Room := { frames := d, cells := 0, slots := 0, locals := 60 * d }
def js_K (A : Nat → Prop) (N : Nat) (len : List Nat) (byt : List (List Int32)) (adK adV : Nat → Nat) (U : State) (H : Heap) : Prop :=
  va_Z "java/lang/String" "COMPACT_STRINGS" "Z" (.int 1) A U H ∧ va_Zq "jdk/internal/util/Preconditions" "SIOOBE_FORMATTER" "Ljava/util/function/BiFunction;" A U H ∧ vk_S N len byt adK adV A U H
theorem js_K.moved {A : Nat → Prop} {N : Nat} {len : List Nat} {byt : List (List Int32)} {adK adV : Nat → Nat} {u U : State} {H : Heap} (hvm : u.vm.Alike U.vm) (h : js_K A N len byt adK adV u H) : js_K A N len byt adK adV U H := ⟨va_Z.moved hvm h.1, va_Zq.moved hvm h.2.1, vk_S.moved hvm h.2.2⟩
theorem js_K.kept {A : Nat → Prop} {N : Nat} {len : List Nat} {byt : List (List Int32)} {adK adV : Nat → Nat} {U : State} {H H1 : Heap} (h : js_K A N len byt adK adV U H) (hq : ∀ a : Nat, a < H.size → ¬ A a → H1[a]? = H[a]?) : js_K A N len byt adK adV U H1 := ⟨h.1.kept hq, h.2.1.kept hq, h.2.2.kept hq⟩
def js_P (A : Nat → Prop) (N : Nat) (len : List Nat) (byt : List (List Int32)) (adK adV : Nat → Nat) (as : List Value) : Array Value → State → Prop := va_Pc as (fun U => js_K A N len byt adK adV U U.heap)
theorem js_blind {A : Nat → Prop} {N : Nat} {len : List Nat} {byt : List (List Int32)} {adK adV : Nat → Nat} {as : List Value} : FrameBlind (js_P A N len byt adK adV as) := fun a U g mk q => ⟨q.1, js_K.moved (u := U) (U := U.calling g mk a) (Vm.Alike.refl U.vm) q.2⟩
theorem js_at {A : Nat → Prop} {N : Nat} {len : List Nat} {byt : List (List Int32)} {adK adV : Nat → Nat} {s U : State} {H : Heap} (hK : js_K A N len byt adK adV s H) (hU : U.heap = H) (hW : s.WarmedH U.vm) : js_K A N len byt adK adV U U.heap := by rw [hU]; exact hK.moved hW.alike
abbrev js_Met (l : Launch) (A : Nat → Prop) (N : Nat) (len : List Nat) (byt : List (List Int32)) (adK adV : Nat → Nat) (y : MethodName) (bytes : ByteArray) (maxL : Nat) (ret : Option FieldType) (d : Nat) (as : List Value) (rv : Option Value) : Prop :=
  Met l y (Cond.code y bytes maxL ret :: js_bw) (js_rm d) (js_P A N len byt adK adV as) (fun _ st o t => o = .returned rv ∧ t.heap = st.heap) 0 0 (fun _ => False)
end JSA
section JSB
variable {l : Launch} {A : Nat → Prop} {N : Nat} {len : List Nat} {byt : List (List Int32)} {adK adV : Nat → Nat}
/-- behind a call that only reads -/
theorem js_after {p : Program} {e : Env} {R : Room} {s : State} {m : MethodId} {args : Array Value} {below : List Frame} {meth : Method} {c : Code} {H : Heap} {locs : List Loc} {cells slots : Nat} {Q : State → Prop} {pc : Nat} {ls : Array Slot} {st0 rest : List Value} {rv : Option Value}
    (hr : CallRun p l e R s m args below meth c H locs cells slots 0 0 (F0 m pc ls st0) rest (fun st o t => o = .returned rv ∧ t.heap = st.heap) (fun _ => False))
    (kk : W p l e R s m args below meth c H locs cells slots Q (F0 m (pc + 3) ls (rv.toList ++ rest))) : W p l e R s m args below meth c H locs cells slots Q (F0 m pc ls st0) := by
  intro T hT X
  obtain ⟨v, st₀, t, T', L, h0, X', hL, e1, ⟨hv, hh⟩, st⟩ := hr T hT X
  obtain rfl : v = rv := Outcome.returned.inj hv
  obtain ⟨t2, a1, b1⟩ := kk T' (by rw [e1, hh, h0]) (Stand.forget X' (fun q h => (hL q h).elim))
  exact ⟨t2, st t2 a1, b1⟩
set_option maxHeartbeats 4000000 in
set_option maxRecDepth 100000 in
theorem js_coder {i : Nat} (hi : i < N) (d : Nat) : js_Met l A N len byt adK adV yJ0_coder_7d493 cJ0_coder_7d493 1 (some .byte) d [.ref (adK i)] (some (.int 0)) := by
  refine Met.ofW (cc := cJ0_coder_7d493) (maxL := 1) (ret := some .byte) (by decide +kernel) rfl ?_
  intro p e s m args below meth c s₁ B hml hv
  obtain ⟨rfl, hZ, hq, hE⟩ := hv
  have hx := B.exec
  have hb := B.bytes
  have hts := atoms_spec (ws := Cond.code yJ0_coder_7d493 cJ0_coder_7d493 1 (some .byte) :: js_bw) B.pre
  have hown : s.vm.findClass RJ0 = some m.cls := findClass_of_methodNamed B.named
  have hS : va_S A s.heap s.heap [] := va_S.rf
  have hl := lv_entry ([.ref (adK i)]) (n := 1) (Nat.le_of_ble_eq_true rfl)
  rw [lg_entry_eq]
  generalize (lg_sl ([.ref (adK i)]) ++ List.replicate (1 - (lg_sl ([.ref (adK i)])).length) Slot.unset).toArray = ls at hl ⊢
  refine va_gets hx hb hZ hS hown (hts (.fieldLink RJ0 38 "java/lang/String" "COMPACT_STRINGS" "Z") (by decide +kernel)) (fun _ h => h) dJ0_coder_7d493_0 ?_
  refine lv_if_eq (tgt := 13) hx hb dJ0_coder_7d493_3 (by decide) (fun c => absurd c (by decide)) (fun c => ?_)
  refine lv_aload_n hx hb dJ0_coder_7d493_6 rfl (lv_at hl 0 rfl) ?_
  refine vk_getf hx hb (hE.1 i hi).2.1 hS hown (hts (.fieldLink RJ0 15 "java/lang/String" "coder" "B") (by decide +kernel)) (fun _ h => h) dJ0_coder_7d493_7 ?_
  refine lv_goto (tgt := 14) hx hb dJ0_coder_7d493_10 (by decide) ?_
  exact W.zret hx hb B.returns rfl (fun t ht _ => ⟨rfl, ht⟩) (fun q h => by cases h) dJ0_coder_7d493_14
set_option maxHeartbeats 4000000 in
set_option maxRecDepth 100000 in
theorem js_isLatin1 {i : Nat} (hi : i < N) (d : Nat) : js_Met l A N len byt adK adV yJ0_isLatin1_aae02 cJ0_isLatin1_aae02 1 (some .boolean) d [.ref (adK i)] (some (.int 1)) := by
  refine Met.ofW (cc := cJ0_isLatin1_aae02) (maxL := 1) (ret := some .boolean) (by decide +kernel) rfl ?_
  intro p e s m args below meth c s₁ B hml hv
  obtain ⟨rfl, hZ, hq, hE⟩ := hv
  have hx := B.exec
  have hb := B.bytes
  have hts := atoms_spec (ws := Cond.code yJ0_isLatin1_aae02 cJ0_isLatin1_aae02 1 (some .boolean) :: js_bw) B.pre
  have hown : s.vm.findClass RJ0 = some m.cls := findClass_of_methodNamed B.named
  have hS : va_S A s.heap s.heap [] := va_S.rf
  have hl := lv_entry ([.ref (adK i)]) (n := 1) (Nat.le_of_ble_eq_true rfl)
  rw [lg_entry_eq]
  generalize (lg_sl ([.ref (adK i)]) ++ List.replicate (1 - (lg_sl ([.ref (adK i)])).length) Slot.unset).toArray = ls at hl ⊢
  refine va_gets hx hb hZ hS hown (hts (.fieldLink RJ0 38 "java/lang/String" "COMPACT_STRINGS" "Z") (by decide +kernel)) (fun _ h => h) dJ0_isLatin1_aae02_0 ?_
  refine lv_if_eq (tgt := 17) hx hb dJ0_isLatin1_aae02_3 (by decide) (fun c => absurd c (by decide)) (fun c => ?_)
  refine lv_aload_n hx hb dJ0_isLatin1_aae02_6 rfl (lv_at hl 0 rfl) ?_
  refine vk_getf hx hb (hE.1 i hi).2.1 hS hown (hts (.fieldLink RJ0 15 "java/lang/String" "coder" "B") (by decide +kernel)) (fun _ h => h) dJ0_isLatin1_aae02_7 ?_
  refine lv_if_ne (tgt := 17) hx hb dJ0_isLatin1_aae02_10 (by decide) (fun c => absurd rfl c) (fun c => ?_)
  refine lv_iconst (v := 1) hx hb dJ0_isLatin1_aae02_13 (by decide) ?_
  refine lv_goto (tgt := 18) hx hb dJ0_isLatin1_aae02_14 (by decide) ?_
  exact W.zret hx hb B.returns rfl (fun t ht _ => ⟨rfl, ht⟩) (fun q h => by cases h) dJ0_isLatin1_aae02_18
theorem js_d {y : MethodName} {n : Nat} {own : String} (h : y.cls = own ∧ y.cls ≠ "java/lang/invoke/MethodHandle" ∧ y.cls ≠ "java/lang/invoke/VarHandle" ∧ (parseMethodDescriptor y.desc).map (fun d => d.parameters.length) = some n) : y.cls ≠ "java/lang/invoke/MethodHandle" ∧ y.cls ≠ "java/lang/invoke/VarHandle" ∧ (parseMethodDescriptor y.desc).map (fun d => d.parameters.length) = some n := h.2
set_option maxHeartbeats 4000000 in
set_option maxRecDepth 100000 in
/-- length() -/
theorem js_length {i : Nat} (hi : i < N) (d : Nat) : js_Met l A N len byt adK adV yJ0_length_8abf5 cJ0_length_8abf5 1 (some .int) (d + 1) [.ref (adK i)] (some (.int (Int32.ofNat (len.getD i 0)))) := by
  refine Met.ofW (cc := cJ0_length_8abf5) (maxL := 1) (ret := some .int) (by decide +kernel) rfl ?_
  intro p e s m args below meth c s₁ B hml hv
  obtain ⟨rfl, hK⟩ := hv
  obtain ⟨hZ, hq, hE⟩ := id hK
  have hx := B.exec
  have hb := B.bytes
  have hts := atoms_spec (ws := Cond.code yJ0_length_8abf5 cJ0_length_8abf5 1 (some .int) :: js_bw) B.pre
  have hts2 : ∀ w ∈ js_bw, w.before #[Value.ref (adK i)] s = true := fun w h => hts w (List.mem_cons_of_mem _ h)
  have hown : s.vm.findClass RJ0 = some m.cls := findClass_of_methodNamed B.named
  have hS : va_S A s.heap s.heap [] := va_S.rf
  have hl := lv_entry ([.ref (adK i)]) (n := 1) (Nat.le_of_ble_eq_true rfl)
  rw [lg_entry_eq]
  generalize (lg_sl ([.ref (adK i)]) ++ List.replicate (1 - (lg_sl ([.ref (adK i)])).length) Slot.unset).toArray = ls at hl ⊢
  refine lv_aload_n hx hb dJ0_length_8abf5_0 rfl (lv_at hl 0 rfl) ?_
  refine vk_getf hx hb (hE.1 i hi).2.2.1 hS hown (hts2 (.fieldLink RJ0 9 "java/lang/String" "value" "[B") (by decide +kernel)) (fun _ h => h) dJ0_length_8abf5_1 ?_
  obtain ⟨cell, h1, h2, h3, h4, h5, h6, h7⟩ := (hE.1 i hi).2.2.2
  refine W.alen hx hb h1 h2 h5 rfl rfl dJ0_length_8abf5_4 ?_
  refine lv_aload_n hx hb dJ0_length_8abf5_5 rfl (lv_at hl 0 rfl) ?_
  obtain ⟨cellS, g1, g2, g3, -⟩ := (hE.1 i hi).1
  refine js_after (rv := some (.int 0)) (W.runV (own := RJ0) (C := RJ0) (Ts := js_bw) (As := []) (rest := [.int (Int32.ofNat (len.getD i 0))]) ⟨hx, hb, hml, hown, hts2⟩ (js_coder (l := l) (A := A) (len := len) (byt := byt) (adV := adV) hi d) (cwV 0 hts2 (js_good (goodIn_of _ (by decide +kernel))) rfl rfl rfl (by decide +kernel) ⟨Nat.le_refl _, ?_⟩)
    ⟨js_blind, ⟨cellS, g1, g2, g3⟩, fun U hU hW => ⟨rfl, js_at hK hU hW⟩⟩ rfl rfl hl.1 rfl (lv_room (Nat.le_of_ble_eq_true rfl)) dJ0_length_8abf5_6 ⟨Nat.le_refl _, Nat.le_refl _⟩) ?_
  · show 8 + (1 + 11) + 60 * d ≤ 60 * (d + 1)
    omega
  refine lv_ishr hx hb dJ0_length_8abf5_9 ?_
  rw [sb_shr0]
  exact W.iret hx hb B.returns (fun t ht _ => ⟨rfl, ht⟩) (fun q h => by cases h) dJ0_length_8abf5_10
set_option maxHeartbeats 4000000 in
set_option maxRecDepth 100000 in
theorem js_ck3 {k n : Int32} (h0 : ¬ k < 0) (h1 : k < n) {fv : Value} (hfv : fv = .null ∨ ∃ a, fv = .ref a) (d : Nat) : js_Met l A N len byt adK adV yJ3_checkIndex_8e157 cJ3_checkIndex_8e157 3 (some .int) d [.int k, .int n, fv] (some (.int k)) := by
  refine Met.ofW (cc := cJ3_checkIndex_8e157) (maxL := 3) (ret := some .int) (by decide +kernel) rfl ?_
  intro p e s m args below meth c s₁ B hml hv
  obtain ⟨rfl, hK⟩ := hv
  have hx := B.exec
  have hb := B.bytes
  have hS : va_S A s.heap s.heap [] := va_S.rf
  have hl : lv_has (lg_sl ([.int k, .int n, fv]) ++ List.replicate (3 - (lg_sl ([.int k, .int n, fv])).length) Slot.unset).toArray 3 [(0, .int k), (1, .int n), (2, fv)] := by
    rcases hfv with rfl | ⟨a, rfl⟩ <;> exact lv_entry _ (Nat.le_of_ble_eq_true rfl)
  rw [lg_entry_eq]
  generalize (lg_sl ([.int k, .int n, fv]) ++ List.replicate (3 - (lg_sl ([.int k, .int n, fv])).length) Slot.unset).toArray = ls at hl ⊢
  refine lv_iload_n hx hb dJ3_checkIndex_8e157_0 rfl (lv_at hl 0 rfl) ?_
  refine lv_if_lt (tgt := 9) hx hb dJ3_checkIndex_8e157_1 (by decide) (fun c => absurd c h0) (fun c => ?_)
  refine lv_iload_n hx hb dJ3_checkIndex_8e157_4 rfl (lv_at hl 0 rfl) ?_
  refine lv_iload_n hx hb dJ3_checkIndex_8e157_5 rfl (lv_at hl 1 rfl) ?_
  refine lv_icmp_lt (tgt := 16) hx hb dJ3_checkIndex_8e157_6 (by decide) (fun c => ?_) (fun c => absurd h1 c)
  refine lv_iload_n hx hb dJ3_checkIndex_8e157_16 rfl (lv_at hl 0 rfl) ?_
  exact W.iret hx hb B.returns (fun t ht _ => ⟨rfl, ht⟩) (fun q h => by cases h) dJ3_checkIndex_8e157_17
set_option maxHeartbeats 4000000 in
set_option maxRecDepth 100000 in
theorem js_ck0 {k n : Int32} (h0 : ¬ k < 0) (h1 : k < n) (d : Nat) : js_Met l A N len byt adK adV yJ0_checkIndex_df160 cJ0_checkIndex_df160 2 none (d + 1) [.int k, .int n] none := by
  refine Met.ofW (cc := cJ0_checkIndex_df160) (maxL := 2) (ret := none) (by decide +kernel) rfl ?_
  intro p e s m args below meth c s₁ B hml hv
  obtain ⟨rfl, hK⟩ := hv
  obtain ⟨hZ, hq, hE⟩ := id hK
  have hx := B.exec
  have hb := B.bytes
  have hts := atoms_spec (ws := Cond.code yJ0_checkIndex_df160 cJ0_checkIndex_df160 2 none :: js_bw) B.pre
  have hts2 : ∀ w ∈ js_bw, w.before #[Value.int k, Value.int n] s = true := fun w h => hts w (List.mem_cons_of_mem _ h)
  have hown : s.vm.findClass RJ0 = some m.cls := findClass_of_methodNamed B.named
  have hS : va_S A s.heap s.heap [] := va_S.rf
  have hl := lv_entry ([.int k, .int n]) (n := 2) (Nat.le_of_ble_eq_true rfl)
  rw [lg_entry_eq]
  generalize (lg_sl ([.int k, .int n]) ++ List.replicate (2 - (lg_sl ([.int k, .int n])).length) Slot.unset).toArray = ls at hl ⊢
  refine lv_iload_n hx hb dJ0_checkIndex_df160_0 rfl (lv_at hl 0 rfl) ?_
  refine lv_iload_n hx hb dJ0_checkIndex_df160_1 rfl (lv_at hl 1 rfl) ?_
  obtain ⟨fv, hfv, hz⟩ : ∃ fv : Value, (fv = .null ∨ ∃ a, fv = .ref a) ∧ va_Z "jdk/internal/util/Preconditions" "SIOOBE_FORMATTER" "Ljava/util/function/BiFunction;" fv A s s.heap := by
    rcases hq with h | ⟨t, h⟩
    · exact ⟨_, Or.inl rfl, h⟩
    · exact ⟨_, Or.inr ⟨t, rfl⟩, h⟩
  refine va_gets hx hb hz hS hown (hts2 (.fieldLink RJ0 1053 "jdk/internal/util/Preconditions" "SIOOBE_FORMATTER" "Ljava/util/function/BiFunction;") (by decide +kernel)) (fun _ h => h) dJ0_checkIndex_df160_2 ?_
  refine js_after (rv := some (.int k)) (W.runS (own := RJ0) (Ts := js_bw) (As := [.int k, .int n, fv]) (rest := []) ⟨hx, hb, hml, hown, hts2⟩ (js_ck3 (l := l) (A := A) (N := N) (len := len) (byt := byt) (adK := adK) (adV := adV) h0 h1 hfv d) (va_cwS 3 hts2 (js_good (goodIn_of _ (by decide +kernel))) rfl rfl rfl (by decide +kernel) ⟨Nat.le_refl _, ?_⟩)
    ⟨js_blind, fun U hU hW => ⟨rfl, js_at hK hU hW⟩⟩ rfl rfl hl.1 rfl (lv_room (Nat.le_of_ble_eq_true rfl)) dJ0_checkIndex_df160_5 ⟨Nat.le_refl _, Nat.le_refl _⟩) ?_
  · show 8 + (3 + 11) + 60 * d ≤ 60 * (d + 1)
    omega
  refine lv_pop hx hb dJ0_checkIndex_df160_8 rfl ?_
  exact W.vret hx hb B.returns (fun t ht _ => ⟨rfl, ht⟩) (fun q h => by cases h) dJ0_checkIndex_df160_9
set_option maxHeartbeats 4000000 in
set_option maxRecDepth 100000 in
/-- StringLatin1.charAt -/
theorem js_char1 {i k : Nat} (hi : i < N) (hk : k < len.getD i 0) (hL : len.getD i 0 < 2 ^ 31) {ch : Int32} (hch : ((((byt.getD i []).getD k 0) &&& 255).toUInt32 % 65536).toInt32 = ch) (hn : narrow .char (.int ch) = .int ch) (d : Nat) : js_Met l A N len byt adK adV yJ1_charAt_3b067 cJ1_charAt_3b067 2 (some .char) (d + 2) [.ref (adV i), .int (nI k)] (some (.int ch)) := by
  refine Met.ofW (cc := cJ1_charAt_3b067) (maxL := 2) (ret := some .char) (by decide +kernel) rfl ?_
  intro p e s m args below meth c s₁ B hml hv
  obtain ⟨rfl, hK⟩ := hv
  obtain ⟨hZ, hq, hE⟩ := id hK
  have hx := B.exec
  have hb := B.bytes
  have hts := atoms_spec (ws := Cond.code yJ1_charAt_3b067 cJ1_charAt_3b067 2 (some .char) :: js_bw) B.pre
  have hts2 : ∀ w ∈ js_bw, w.before #[Value.ref (adV i), Value.int (nI k)] s = true := fun w h => hts w (List.mem_cons_of_mem _ h)
  have hown : s.vm.findClass RJ1 = some m.cls := findClass_of_methodNamed B.named
  have hl := lv_entry ([.ref (adV i), .int (nI k)]) (n := 2) (Nat.le_of_ble_eq_true rfl)
  rw [lg_entry_eq]
  generalize (lg_sl ([.ref (adV i), .int (nI k)]) ++ List.replicate (2 - (lg_sl ([.ref (adV i), .int (nI k)])).length) Slot.unset).toArray = ls at hl ⊢
  have hl : lv_has ls 2 [(0, .ref (adV i)), (1, .int (nI k))] := hl
  obtain ⟨cell, h1, h2, h3, h4, h5, h6, h7⟩ := (hE.1 i hi).2.2.2
  refine lv_iload_n hx hb dJ1_charAt_3b067_0 rfl (lv_at hl 1 rfl) ?_
  refine lv_aload_n hx hb dJ1_charAt_3b067_1 rfl (lv_at hl 0 rfl) ?_
  refine W.alen hx hb h1 h2 h5 rfl rfl dJ1_charAt_3b067_2 ?_
  refine js_after (rv := none) (W.runS (own := RJ1) (Ts := js_bw) (As := [.int (nI k), .int (Int32.ofNat (len.getD i 0))]) (rest := []) ⟨hx, hb, hml, hown, hts2⟩ (js_ck0 (l := l) (A := A) (N := N) (len := len) (byt := byt) (adK := adK) (adV := adV) (nI_pos (by omega)) (nI_lt hk hL) d) (va_cwS 2 hts2 (js_good (goodIn_of _ (by decide +kernel))) rfl rfl rfl (by decide +kernel) ⟨Nat.le_refl _, ?_⟩)
    ⟨js_blind, fun U hU hW => ⟨rfl, js_at hK hU hW⟩⟩ rfl rfl hl.1 rfl (lv_room (Nat.le_of_ble_eq_true rfl)) dJ1_charAt_3b067_3 ⟨Nat.le_refl _, Nat.le_refl _⟩) ?_
  · show 8 + (2 + 11) + 60 * (d + 1) ≤ 60 * (d + 2)
    omega
  refine lv_aload_n hx hb dJ1_charAt_3b067_6 rfl (lv_at hl 0 rfl) ?_
  refine lv_iload_n hx hb dJ1_charAt_3b067_7 rfl (lv_at hl 1 rfl) ?_
  have hkc : (nI k).toNatClampNeg = k := nI_clamp (by omega)
  refine W.bald hx hb h1 h2 h3 (by rw [hkc]; rintro (q | q); exact nI_pos (by omega) q; omega) (by rw [hkc]; exact h6 k hk) rfl rfl dJ1_charAt_3b067_8 ?_
  refine lv_sipush (v := 255) hx hb dJ1_charAt_3b067_9 (by decide +kernel) ?_
  refine lv_iand hx hb dJ1_charAt_3b067_12 ?_
  refine lv_i2c hx hb dJ1_charAt_3b067_13 hch ?_
  exact W.zret hx hb B.returns hn (fun t ht _ => ⟨rfl, ht⟩) (fun q h => by cases h) dJ1_charAt_3b067_14
set_option maxHeartbeats 4000000 in
set_option maxRecDepth 100000 in
/-- String.charAt -/
theorem js_char0 {i k : Nat} (hi : i < N) (hk : k < len.getD i 0) (hL : len.getD i 0 < 2 ^ 31) {ch : Int32} (hch : ((((byt.getD i []).getD k 0) &&& 255).toUInt32 % 65536).toInt32 = ch) (hn : narrow .char (.int ch) = .int ch) (d : Nat) : js_Met l A N len byt adK adV yJ0_charAt_5068e cJ0_charAt_5068e 2 (some .char) (d + 3) [.ref (adK i), .int (nI k)] (some (.int ch)) := by
  refine Met.ofW (cc := cJ0_charAt_5068e) (maxL := 2) (ret := some .char) (by decide +kernel) rfl ?_
  intro p e s m args below meth c s₁ B hml hv
  obtain ⟨rfl, hK⟩ := hv
  obtain ⟨hZ, hq, hE⟩ := id hK
  have hx := B.exec
  have hb := B.bytes
  have hts := atoms_spec (ws := Cond.code yJ0_charAt_5068e cJ0_charAt_5068e 2 (some .char) :: js_bw) B.pre
  have hts2 : ∀ w ∈ js_bw, w.before #[Value.ref (adK i), Value.int (nI k)] s = true := fun w h => hts w (List.mem_cons_of_mem _ h)
  have hown : s.vm.findClass RJ0 = some m.cls := findClass_of_methodNamed B.named
  have hS : va_S A s.heap s.heap [] := va_S.rf
  have hl := lv_entry ([.ref (adK i), .int (nI k)]) (n := 2) (Nat.le_of_ble_eq_true rfl)
  rw [lg_entry_eq]
  generalize (lg_sl ([.ref (adK i), .int (nI k)]) ++ List.replicate (2 - (lg_sl ([.ref (adK i), .int (nI k)])).length) Slot.unset).toArray = ls at hl ⊢
  have hl : lv_has ls 2 [(0, .ref (adK i)), (1, .int (nI k))] := hl
  obtain ⟨cellS, g1, g2, g3, -⟩ := (hE.1 i hi).1
  refine lv_aload_n hx hb dJ0_charAt_5068e_0 rfl (lv_at hl 0 rfl) ?_
  refine js_after (rv := some (.int 1)) (W.runV (own := RJ0) (C := RJ0) (Ts := js_bw) (As := []) (rest := []) ⟨hx, hb, hml, hown, hts2⟩ (js_isLatin1 (l := l) (A := A) (len := len) (byt := byt) (adV := adV) hi (d + 2)) (cwV 0 hts2 (js_good (goodIn_of _ (by decide +kernel))) rfl rfl rfl (by decide +kernel) ⟨Nat.le_refl _, ?_⟩)
    ⟨js_blind, ⟨cellS, g1, g2, g3⟩, fun U hU hW => ⟨rfl, js_at hK hU hW⟩⟩ rfl rfl hl.1 rfl (lv_room (Nat.le_of_ble_eq_true rfl)) dJ0_charAt_5068e_1 ⟨Nat.le_refl _, Nat.le_refl _⟩) ?_
  · show 8 + (1 + 11) + 60 * (d + 2) ≤ 60 * (d + 3)
    omega
  refine lv_if_eq (tgt := 16) hx hb dJ0_charAt_5068e_4 (by decide) (fun c => absurd c (by decide)) (fun c => ?_)
  refine lv_aload_n hx hb dJ0_charAt_5068e_7 rfl (lv_at hl 0 rfl) ?_
  refine vk_getf hx hb (hE.1 i hi).2.2.1 hS hown (hts2 (.fieldLink RJ0 9 "java/lang/String" "value" "[B") (by decide +kernel)) (fun _ h => h) dJ0_charAt_5068e_8 ?_
  refine lv_iload_n hx hb dJ0_charAt_5068e_11 rfl (lv_at hl 1 rfl) ?_
  refine js_after (rv := some (.int ch)) (W.runS (own := RJ0) (Ts := js_bw) (As := [.ref (adV i), .int (nI k)]) (rest := []) ⟨hx, hb, hml, hown, hts2⟩ (js_char1 (l := l) (A := A) (N := N) (len := len) (byt := byt) (adK := adK) (adV := adV) hi hk hL hch hn d) (va_cwS 2 hts2 (js_good (goodIn_of _ (by decide +kernel))) rfl rfl rfl (by decide +kernel) ⟨Nat.le_refl _, ?_⟩)
    ⟨js_blind, fun U hU hW => ⟨rfl, js_at hK hU hW⟩⟩ rfl rfl hl.1 rfl (lv_room (Nat.le_of_ble_eq_true rfl)) dJ0_charAt_5068e_12 ⟨Nat.le_refl _, Nat.le_refl _⟩) ?_
  · show 8 + (2 + 11) + 60 * (d + 2) ≤ 60 * (d + 3)
    omega
  exact W.zret hx hb B.returns hn (fun t ht _ => ⟨rfl, ht⟩) (fun q h => by cases h) dJ0_charAt_5068e_15
end JSB
