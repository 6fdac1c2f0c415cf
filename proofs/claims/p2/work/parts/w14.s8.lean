section LWH
variable {p : Program} {l : Launch} {e : Env} {s : State} {m : MethodId} {args : Array Value} {below : List Frame} {meth : Method} {c : Code} {H : Heap} {locs : List Loc} {cells slots : Nat} {Q : State → Prop} {pc : Nat} {ls : Array Slot} {rest : List Value}
variable {v : cwE} {vr : rfE} {σs σ σ1 : CS} {τ τ1 : RS} {cL : ClassId} {o : Nat} {y y' : Int64} {b L n j k x : Nat} {xs : Nat → Int32}
/-- what stays, with the script -/
def lw_S (v : cwE) (vr : rfE) (cL : ClassId) (σs : CS) (b L : Nat) (xs : Nat → Int32) (l : Launch) (p : Program) (s : State) (m : MethodId) (args : Array Value) (meth : Method) (c : Code) : Prop :=
  lw_B v vr cL σs p s m args meth c ∧ va_X b L xs s s.heap ∧ (b < s.heap.size ∧ ¬ cw_tm v σs b) ∧ L ≤ 3072 ∧ l.stackTraces = false
abbrev lw_lv (n b x : Nat) (v : cwE) (vr : rfE) (o : Nat) : List (Nat × Value) := [(4, .int (rI ((6 * n : Nat) : Int))), (0, .ref b), (1, .ref (cw_mp v x)), (2, .ref (rf_h vr)), (3, .ref o)]
theorem lw_scr (S : lw_S v vr cL σs b L xs l p s m args meth c) (hw : lw_W v vr o cL s σs σ τ y H locs cells slots) : va_X b L xs s H := by
  obtain ⟨scr, h1, h2⟩ := S.2.1
  exact ⟨scr, by rw [hw.1.2.2.2.2.1 b S.2.2.1.1 S.2.2.1.2]; exact h1, h2⟩
theorem lw_ald (S : lw_S v vr cL σs b L xs l p s m args meth c) (hw : lw_W v vr o cL s σs σ τ y H locs cells slots) {j : Nat} (hj : j < L) {i : Int32} (hi : i = rI (j : Int)) (hdg : decode code pc = .ok (.iaload, 1))
    (kk : W p l e room_1 s m args below meth c H locs cells slots Q (F0 m (pc + 1) ls (.int (rI (xs j).toInt) :: rest))) : W p l e room_1 s m args below meth c H locs cells slots Q (F0 m pc ls (.int i :: .ref b :: rest)) := by
  obtain ⟨scr, h1, h2, h3, h4, h5⟩ := lw_scr S hw
  have hL := S.2.2.2.1
  have hR : inR (j : Int) := ⟨by omega, by omega⟩
  subst hi
  refine W.iald (v := .int (xs j)) S.1.1.1 S.1.1.2.1 h1 h2 h3 (by rw [h4]; exact rI_in hR (by omega) (by omega)) ?_ rfl rfl hdg ?_
  · rw [rI_cl hR, Int.toNat_natCast]; exact h5 j hj
  · rw [rI_of] at kk; exact kk
/-- script[i + k] -/
theorem lw_rd (S : lw_S v vr cL σs b L xs l p s m args meth c) (hw : lw_W v vr o cL s σs σ τ y H locs cells slots) (hn : 6 * n + 6 ≤ L) (hk : k ≤ 5) {kz : Int} (hkz : kz = (k : Int)) (h0 : ls[0]? = some (.val (.ref b))) (h4 : ls[4]? = some (.val (.int (rI ((6 * n : Nat) : Int)))))
    (d0 : decode code pc = .ok (.aload_n 0, 1)) (d1 : decode code (pc + 1) = .ok (.iload 4, 2)) (d2 : decode code (pc + 1 + 2) = .ok (.iconst kz, 1)) (d3 : decode code (pc + 1 + 2 + 1) = .ok (.iadd, 1)) (d4 : decode code (pc + 1 + 2 + 1 + 1) = .ok (.iaload, 1))
    (kk : W p l e room_1 s m args below meth c H locs cells slots Q (F0 m (pc + 1 + 2 + 1 + 1 + 1) ls (.int (rI (xs (6 * n + k)).toInt) :: rest))) : W p l e room_1 s m args below meth c H locs cells slots Q (F0 m pc ls rest) := by
  have hx := S.1.1.1
  have hb := S.1.1.2.1
  refine lv_aload_n hx hb d0 rfl h0 ?_
  refine lv_iload hx hb d1 h4 ?_
  refine lv_iconst (v := rI (k : Int)) hx hb d2 (by rw [hkz]; rfl) ?_
  refine lv_iadd hx hb d3 ?_
  exact lw_ald S hw (j := 6 * n + k) (by omega) (by rw [rI_add]; congr 1) d4 kk
theorem lw_and (x : Int32) : 0 ≤ (x &&& 15).toInt ∧ (x &&& 15).toInt ≤ 15 := by
  have h : (x &&& 15).toBitVec.toNat ≤ 15 := by
    rw [Int32.toBitVec_and, BitVec.toNat_and]
    exact Nat.and_le_right
  have h2 : (x &&& 15).toInt = ((x &&& 15).toBitVec.toNat : Int) := by
    show (x &&& 15).toBitVec.toInt = _
    rw [BitVec.toInt_eq_toNat_of_lt (by omega)]
  omega
theorem lw_tg (hI : lw_I (cw_bd v) x n σ τ) : c_tg σ x = 12 := (hI.1.1 0 (by decide)).1
theorem lw_inx (hI : lw_I (cw_bd v) x n σ τ) (hw : lw_W v vr o cL s σs σ τ y H locs cells slots) : inR ((x + 0 : Nat) : Int) := by
  have h1 := hI.1.hp
  have h2 : v.2.2.1 < 1000000 := hI.1.bnd
  have h3 := hw.1.1.2.2.2.1
  exact ⟨by omega, by omega⟩
end LWH
