/-! ints of the machine by their numbers; arithmetic and branches -/
section RFI
def rI (x : Int) : Int32 := Int32.ofInt x
abbrev inR (x : Int) : Prop := -2147483648 ≤ x ∧ x ≤ 2147483647
theorem rI_T {x : Int} (h : inR x) : (rI x).toInt = x := Int32.toInt_ofInt_of_le (by have := h.1; omega) (by have := h.2; omega)
theorem rI_lt {x y : Int} (hx : inR x) (hy : inR y) : rI x < rI y ↔ x < y := by rw [Int32.lt_iff_toInt_lt, rI_T hx, rI_T hy]
theorem rI_le {x y : Int} (hx : inR x) (hy : inR y) : rI x ≤ rI y ↔ x ≤ y := by rw [Int32.le_iff_toInt_le, rI_T hx, rI_T hy]
theorem rI_eq {x y : Int} (hx : inR x) (hy : inR y) : rI x = rI y ↔ x = y :=
  ⟨fun h => by have := congrArg Int32.toInt h; rwa [rI_T hx, rI_T hy] at this, fun h => by rw [h]⟩
theorem rI_0 : rI 0 = 0 := rfl
theorem inR_0 : inR 0 := ⟨by decide, by decide⟩
theorem rI_add (x y : Int) : rI x + rI y = rI (x + y) := (Int32.ofInt_add x y).symm
theorem rI_sub (x y : Int) : rI x - rI y = rI (x - y) := (Int32.ofInt_sub x y).symm
theorem rI_mul (x y : Int) : rI x * rI y = rI (x * y) := (Int32.ofInt_mul x y).symm
theorem rI_neg (x : Int) : -rI x = rI (-x) := (Int32.ofInt_neg x).symm
theorem rI_of (x : Int32) : rI x.toInt = x := Int32.ofInt_toInt x
theorem inR_of (x : Int32) : inR x.toInt := ⟨by have := x.le_toInt; omega, by have := x.toInt_lt; omega⟩
theorem rI_cl {x : Int} (h : inR x) : (rI x).toNatClampNeg = x.toNat := by show (rI x).toInt.toNat = _; rw [rI_T h]
theorem rI_in {x : Int} {n : Nat} (h : inR x) (h0 : 0 ≤ x) (h1 : x < (n : Int)) : vp_in (rI x) n := by
  rintro (q | q)
  · have := (rI_lt h inR_0).mp q; omega
  · rw [rI_cl h] at q; omega
end RFI
section RFN
variable {p : Program} {l : Launch} {e : Env} {R : Room} {s : State} {m : MethodId} {args : Array Value} {below : List Frame} {meth : Method} {c : Code} {H : Heap} {locs : List Loc} {cells slots : Nat} {Q : State → Prop} {cc : ByteArray} {pc : Nat} {ls : Array Slot} {rest : List Value}
theorem rn_add (hx : p.tables.exec = Jvm.exec) (hb : c.code = cc) {a b z : Int} (hz : z = a + b) (hdg : decode cc pc = .ok (.iadd, 1)) (k : W p l e R s m args below meth c H locs cells slots Q (F0 m (pc + 1) ls (.int (rI z) :: rest))) : W p l e R s m args below meth c H locs cells slots Q (F0 m pc ls (.int (rI b) :: .int (rI a) :: rest)) :=
  lv_iadd hx hb hdg (by rw [rI_add, ← hz]; exact k)
theorem rn_sub (hx : p.tables.exec = Jvm.exec) (hb : c.code = cc) {a b z : Int} (hz : z = a - b) (hdg : decode cc pc = .ok (.isub, 1)) (k : W p l e R s m args below meth c H locs cells slots Q (F0 m (pc + 1) ls (.int (rI z) :: rest))) : W p l e R s m args below meth c H locs cells slots Q (F0 m pc ls (.int (rI b) :: .int (rI a) :: rest)) :=
  lv_isub hx hb hdg (by rw [rI_sub, ← hz]; exact k)
theorem rn_mul (hx : p.tables.exec = Jvm.exec) (hb : c.code = cc) {a b z : Int} (hz : z = a * b) (hdg : decode cc pc = .ok (.imul, 1)) (k : W p l e R s m args below meth c H locs cells slots Q (F0 m (pc + 1) ls (.int (rI z) :: rest))) : W p l e R s m args below meth c H locs cells slots Q (F0 m pc ls (.int (rI b) :: .int (rI a) :: rest)) :=
  lv_imul hx hb hdg (by rw [rI_mul, ← hz]; exact k)
/-- a number that is only named: the value of an operation on machine ints -/
theorem rn_top {x : Int32} {z : Int} (hz : z = x.toInt) (k : W p l e R s m args below meth c H locs cells slots Q (F0 m pc ls (.int (rI z) :: rest))) : W p l e R s m args below meth c H locs cells slots Q (F0 m pc ls (.int x :: rest)) := by
  rw [hz, rI_of] at k; exact k
def rn_and (a b : Int) : Int := (rI a &&& rI b).toInt
def rn_shr (a b : Int) : Int := (rI a >>> (rI b &&& 31)).toInt
def rn_div (a b : Int) : Int := (rI a / rI b).toInt
def rn_rem (a b : Int) : Int := (rI a - rI a / rI b * rI b).toInt
end RFN
section RFD
variable {p : Program} {l : Launch} {e : Env} {R : Room} {s : State} {m : MethodId} {args : Array Value} {below : List Frame} {meth : Method} {c : Code} {H : Heap} {locs : List Loc} {cells slots : Nat} {Q : State → Prop} {cc : ByteArray} {pc : Nat} {ls : Array Slot} {rest : List Value}
theorem rn_icmp_eq (hx : p.tables.exec = Jvm.exec) (hb : c.code = cc) {a b : Int} (ha : inR a) (hc : inR b) {off : Int} {tgt : Nat} (hdg : decode cc pc = .ok (.if_icmp .eq off, 3)) (ht : (pc : Int) + off = (tgt : Int)) (kt : a = b → W p l e R s m args below meth c H locs cells slots Q (F0 m tgt ls rest)) (kf : ¬ (a = b) → W p l e R s m args below meth c H locs cells slots Q (F0 m (pc + 3) ls rest)) : W p l e R s m args below meth c H locs cells slots Q (F0 m pc ls (.int (rI b) :: .int (rI a) :: rest)) :=
  lv_icmp_eq hx hb hdg ht (fun q => kt ((rI_eq ha hc).mp q)) (fun q => kf (fun z => q ((rI_eq ha hc).mpr z)))
theorem rn_if_eq (hx : p.tables.exec = Jvm.exec) (hb : c.code = cc) {a : Int} (ha : inR a) {off : Int} {tgt : Nat} (hdg : decode cc pc = .ok (.ifCond .eq off, 3)) (ht : (pc : Int) + off = (tgt : Int)) (kt : a = 0 → W p l e R s m args below meth c H locs cells slots Q (F0 m tgt ls rest)) (kf : ¬ (a = 0) → W p l e R s m args below meth c H locs cells slots Q (F0 m (pc + 3) ls rest)) : W p l e R s m args below meth c H locs cells slots Q (F0 m pc ls (.int (rI a) :: rest)) :=
  lv_if_eq hx hb hdg ht (fun q => kt ((rI_eq ha inR_0).mp q)) (fun q => kf (fun z => q ((rI_eq ha inR_0).mpr z)))
theorem rn_icmp_ne (hx : p.tables.exec = Jvm.exec) (hb : c.code = cc) {a b : Int} (ha : inR a) (hc : inR b) {off : Int} {tgt : Nat} (hdg : decode cc pc = .ok (.if_icmp .ne off, 3)) (ht : (pc : Int) + off = (tgt : Int)) (kt : ¬ a = b → W p l e R s m args below meth c H locs cells slots Q (F0 m tgt ls rest)) (kf : ¬ (¬ a = b) → W p l e R s m args below meth c H locs cells slots Q (F0 m (pc + 3) ls rest)) : W p l e R s m args below meth c H locs cells slots Q (F0 m pc ls (.int (rI b) :: .int (rI a) :: rest)) :=
  lv_icmp_ne hx hb hdg ht (fun q => kt (fun z => q ((rI_eq ha hc).mpr z))) (fun q => kf (fun z => z ((rI_eq ha hc).mp q)))
theorem rn_if_ne (hx : p.tables.exec = Jvm.exec) (hb : c.code = cc) {a : Int} (ha : inR a) {off : Int} {tgt : Nat} (hdg : decode cc pc = .ok (.ifCond .ne off, 3)) (ht : (pc : Int) + off = (tgt : Int)) (kt : ¬ a = 0 → W p l e R s m args below meth c H locs cells slots Q (F0 m tgt ls rest)) (kf : ¬ (¬ a = 0) → W p l e R s m args below meth c H locs cells slots Q (F0 m (pc + 3) ls rest)) : W p l e R s m args below meth c H locs cells slots Q (F0 m pc ls (.int (rI a) :: rest)) :=
  lv_if_ne hx hb hdg ht (fun q => kt (fun z => q ((rI_eq ha inR_0).mpr z))) (fun q => kf (fun z => z ((rI_eq ha inR_0).mp q)))
theorem rn_icmp_lt (hx : p.tables.exec = Jvm.exec) (hb : c.code = cc) {a b : Int} (ha : inR a) (hc : inR b) {off : Int} {tgt : Nat} (hdg : decode cc pc = .ok (.if_icmp .lt off, 3)) (ht : (pc : Int) + off = (tgt : Int)) (kt : a < b → W p l e R s m args below meth c H locs cells slots Q (F0 m tgt ls rest)) (kf : ¬ (a < b) → W p l e R s m args below meth c H locs cells slots Q (F0 m (pc + 3) ls rest)) : W p l e R s m args below meth c H locs cells slots Q (F0 m pc ls (.int (rI b) :: .int (rI a) :: rest)) :=
  lv_icmp_lt hx hb hdg ht (fun q => kt ((rI_lt ha hc).mp q)) (fun q => kf (fun z => q ((rI_lt ha hc).mpr z)))
theorem rn_if_lt (hx : p.tables.exec = Jvm.exec) (hb : c.code = cc) {a : Int} (ha : inR a) {off : Int} {tgt : Nat} (hdg : decode cc pc = .ok (.ifCond .lt off, 3)) (ht : (pc : Int) + off = (tgt : Int)) (kt : a < 0 → W p l e R s m args below meth c H locs cells slots Q (F0 m tgt ls rest)) (kf : ¬ (a < 0) → W p l e R s m args below meth c H locs cells slots Q (F0 m (pc + 3) ls rest)) : W p l e R s m args below meth c H locs cells slots Q (F0 m pc ls (.int (rI a) :: rest)) :=
  lv_if_lt hx hb hdg ht (fun q => kt ((rI_lt ha inR_0).mp q)) (fun q => kf (fun z => q ((rI_lt ha inR_0).mpr z)))
theorem rn_icmp_ge (hx : p.tables.exec = Jvm.exec) (hb : c.code = cc) {a b : Int} (ha : inR a) (hc : inR b) {off : Int} {tgt : Nat} (hdg : decode cc pc = .ok (.if_icmp .ge off, 3)) (ht : (pc : Int) + off = (tgt : Int)) (kt : b ≤ a → W p l e R s m args below meth c H locs cells slots Q (F0 m tgt ls rest)) (kf : ¬ (b ≤ a) → W p l e R s m args below meth c H locs cells slots Q (F0 m (pc + 3) ls rest)) : W p l e R s m args below meth c H locs cells slots Q (F0 m pc ls (.int (rI b) :: .int (rI a) :: rest)) :=
  lv_icmp_ge hx hb hdg ht (fun q => kt ((rI_le hc ha).mp q)) (fun q => kf (fun z => q ((rI_le hc ha).mpr z)))
theorem rn_if_ge (hx : p.tables.exec = Jvm.exec) (hb : c.code = cc) {a : Int} (ha : inR a) {off : Int} {tgt : Nat} (hdg : decode cc pc = .ok (.ifCond .ge off, 3)) (ht : (pc : Int) + off = (tgt : Int)) (kt : 0 ≤ a → W p l e R s m args below meth c H locs cells slots Q (F0 m tgt ls rest)) (kf : ¬ (0 ≤ a) → W p l e R s m args below meth c H locs cells slots Q (F0 m (pc + 3) ls rest)) : W p l e R s m args below meth c H locs cells slots Q (F0 m pc ls (.int (rI a) :: rest)) :=
  lv_if_ge hx hb hdg ht (fun q => kt ((rI_le inR_0 ha).mp q)) (fun q => kf (fun z => q ((rI_le inR_0 ha).mpr z)))
theorem rn_icmp_gt (hx : p.tables.exec = Jvm.exec) (hb : c.code = cc) {a b : Int} (ha : inR a) (hc : inR b) {off : Int} {tgt : Nat} (hdg : decode cc pc = .ok (.if_icmp .gt off, 3)) (ht : (pc : Int) + off = (tgt : Int)) (kt : b < a → W p l e R s m args below meth c H locs cells slots Q (F0 m tgt ls rest)) (kf : ¬ (b < a) → W p l e R s m args below meth c H locs cells slots Q (F0 m (pc + 3) ls rest)) : W p l e R s m args below meth c H locs cells slots Q (F0 m pc ls (.int (rI b) :: .int (rI a) :: rest)) :=
  lv_icmp_gt hx hb hdg ht (fun q => kt ((rI_lt hc ha).mp q)) (fun q => kf (fun z => q ((rI_lt hc ha).mpr z)))
theorem rn_if_gt (hx : p.tables.exec = Jvm.exec) (hb : c.code = cc) {a : Int} (ha : inR a) {off : Int} {tgt : Nat} (hdg : decode cc pc = .ok (.ifCond .gt off, 3)) (ht : (pc : Int) + off = (tgt : Int)) (kt : 0 < a → W p l e R s m args below meth c H locs cells slots Q (F0 m tgt ls rest)) (kf : ¬ (0 < a) → W p l e R s m args below meth c H locs cells slots Q (F0 m (pc + 3) ls rest)) : W p l e R s m args below meth c H locs cells slots Q (F0 m pc ls (.int (rI a) :: rest)) :=
  lv_if_gt hx hb hdg ht (fun q => kt ((rI_lt inR_0 ha).mp q)) (fun q => kf (fun z => q ((rI_lt inR_0 ha).mpr z)))
theorem rn_icmp_le (hx : p.tables.exec = Jvm.exec) (hb : c.code = cc) {a b : Int} (ha : inR a) (hc : inR b) {off : Int} {tgt : Nat} (hdg : decode cc pc = .ok (.if_icmp .le off, 3)) (ht : (pc : Int) + off = (tgt : Int)) (kt : a ≤ b → W p l e R s m args below meth c H locs cells slots Q (F0 m tgt ls rest)) (kf : ¬ (a ≤ b) → W p l e R s m args below meth c H locs cells slots Q (F0 m (pc + 3) ls rest)) : W p l e R s m args below meth c H locs cells slots Q (F0 m pc ls (.int (rI b) :: .int (rI a) :: rest)) :=
  lv_icmp_le hx hb hdg ht (fun q => kt ((rI_le ha hc).mp q)) (fun q => kf (fun z => q ((rI_le ha hc).mpr z)))
theorem rn_if_le (hx : p.tables.exec = Jvm.exec) (hb : c.code = cc) {a : Int} (ha : inR a) {off : Int} {tgt : Nat} (hdg : decode cc pc = .ok (.ifCond .le off, 3)) (ht : (pc : Int) + off = (tgt : Int)) (kt : a ≤ 0 → W p l e R s m args below meth c H locs cells slots Q (F0 m tgt ls rest)) (kf : ¬ (a ≤ 0) → W p l e R s m args below meth c H locs cells slots Q (F0 m (pc + 3) ls rest)) : W p l e R s m args below meth c H locs cells slots Q (F0 m pc ls (.int (rI a) :: rest)) :=
  lv_if_le hx hb hdg ht (fun q => kt ((rI_le ha inR_0).mp q)) (fun q => kf (fun z => q ((rI_le ha inR_0).mpr z)))
theorem rn_tab (hx : p.tables.exec = Jvm.exec) (hb : c.code = cc) {z n : Int} (hz : inR z) (hc : z = n) {dflt lo hi : Int} {offs : Array Int} {len : Nat} {off : Int} {tgt : Nat} (hdg : decode cc pc = .ok (.tableswitch dflt lo hi offs, len)) (h1 : ¬ n < lo) (h2 : ¬ hi < n) (ho : offs[(n - lo).toNat]? = some off) (ht : (pc : Int) + off = (tgt : Int)) (k : W p l e R s m args below meth c H locs cells slots Q (F0 m tgt ls rest)) : W p l e R s m args below meth c H locs cells slots Q (F0 m pc ls (.int (rI z) :: rest)) := by
  have e : (rI z).toInt = n := (rI_T hz).trans hc
  exact lv_tableIn hx hb hdg (by rw [e]; exact h1) (by rw [e]; exact h2) (by rw [e]; exact ho) ht k
theorem rn_tabO (hx : p.tables.exec = Jvm.exec) (hb : c.code = cc) {z : Int} (hz : inR z) {dflt lo hi : Int} {offs : Array Int} {len : Nat} {tgt : Nat} (hdg : decode cc pc = .ok (.tableswitch dflt lo hi offs, len)) (h : z < lo ∨ hi < z) (ht : (pc : Int) + dflt = (tgt : Int)) (k : W p l e R s m args below meth c H locs cells slots Q (F0 m tgt ls rest)) : W p l e R s m args below meth c H locs cells slots Q (F0 m pc ls (.int (rI z) :: rest)) := by
  exact lv_tableOut hx hb hdg (by rw [rI_T hz]; exact h) ht k
end RFD
