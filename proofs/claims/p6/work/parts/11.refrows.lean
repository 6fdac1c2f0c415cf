section RFD
variable {p : Program} {l : Launch} {e : Env} {R : Room} {s : State} {m : MethodId} {args : Array Value} {below : List Frame} {meth : Method} {c : Code} {H : Heap} {locs : List Loc} {cells slots : Nat} {Q : State → Prop} {cc : ByteArray} {pc : Nat} {ls : Array Slot} {rest : List Value}
theorem rn_icmp_eq (hx : p.tables.exec = Jvm.exec) (hb : c.code = cc) {a b : Int} (ha : inR a) (hc : inR b) {off : Int} {tgt : Nat} (hdg : decode cc pc = .ok (.if_icmp .eq off, 3)) (ht : (pc : Int) + off = (tgt : Int)) (kt : a = b → W p l e R s m args below meth c H locs cells slots Q (F0 m tgt ls rest)) (kf : ¬ (a = b) → W p l e R s m args below meth c H locs cells slots Q (F0 m (pc + 3) ls rest)) : W p l e R s m args below meth c H locs cells slots Q (F0 m pc ls (.int (rI b) :: .int (rI a) :: rest)) :=
  lv_icmp_eq hx hb hdg ht (fun q => kt ((rI_eq ha hc).mp q)) (fun q => kf (fun z => q ((rI_eq ha hc).mpr z)))
theorem rn_if_eq (hx : p.tables.exec = Jvm.exec) (hb : c.code = cc) {a : Int} (ha : inR a) {off : Int} {tgt : Nat} (hdg : decode cc pc = .ok (.ifCond .eq off, 3)) (ht : (pc : Int) + off = (tgt : Int)) (kt : a = 0 → W p l e R s m args below meth c H locs cells slots Q (F0 m tgt ls rest)) (kf : ¬ (a = 0) → W p l e R s m args below meth c H locs cells slots Q (F0 m (pc + 3) ls rest)) : W p l e R s m args below meth c H locs cells slots Q (F0 m pc ls (.int (rI a) :: rest)) :=
  lv_if_eq hx hb hdg ht (fun q => kt ((rI_eq ha inR_0).mp q)) (fun q => kf (fun z => q ((rI_eq ha inR_0).mpr z)))
theorem rn_icmp_ne (hx : p.tables.exec = Jvm.exec) (hb : c.code = cc) {a b : Int} (ha : inR a) (hc : inR b) {off : Int} {tgt : Nat} (hdg : decode cc pc = .ok (.if_icmp .ne off, 3)) (ht : (pc : Int) + off = (tgt : Int)) (kt : ¬ a = b → W p l e R s m args below meth c H locs cells slots Q (F0 m tgt ls rest)) (kf : ¬ (¬ a = b) → W p l e R s m args below meth c H locs cells slots Q (F0 m (pc + 3) ls rest)) : W p l e R s m args below meth c H locs cells slots Q (F0 m pc ls (.int (rI b) :: .int (rI a) :: rest)) :=
  lv_icmp_ne hx hb hdg ht (fun q => kt (fun z => q ((rI_eq ha hc).mpr z))) (fun q => kf (fun z => z ((rI_eq ha hc).mp q)))
theorem rn_if_ne (hx : p.tables.exec = Jvm.exec) (hb : c.code = cc) {a : Int} (ha : inR a) {off : Int} {tgt : Nat} (hdg : decode cc pc = .ok (.ifCond .ne off, 3)) (ht : (pc : Int) + off = (tgt : Int)) (kt : ¬ a = 0 → W p l e R s m args below meth c H locs cells slots Q (F0 m tgt ls rest)) (kf : ¬ (¬ a = 0) → W p l e R s m args below meth c H locs cells slots Q (F0 m (pc + 3) ls rest)) : W p l e R s m args below meth c H locs cells slots Q (F0 m pc ls (.int (rI a) :: rest)) :=
  lv_if_ne hx hb hdg ht (fun q => kt (fun z => q ((rI_eq ha inR_0).mpr z))) (fun q => kf (fun z => z ((rI_eq ha inR_0).mp q)))
theorem rn_icmp_lt (hx : p.tables.exec = Jvm.exec) (hb : c.code = cc) {a b : Int} (ha : inR a) (hc : inR b) {off : Int} {tgt : Nat} (hdg : decode cc pc = .ok (.if_icmp .lt off, 3)) (ht : (pc : Int) + off = (tgt : Int)) (kt : a < b → W p l e R s m args below meth c H locs cells slots Q (F0 m tgt ls rest)) (kf : ¬ (a < b) → W p l e R s m args below meth c H locs cells slots Q (F0 m (pc + 3) ls rest)) : W p l e R s m args below meth c H locs cells slots Q (F0 m pc ls (.int (rI b) :: .int (rI a) :: rest)) :=
  lv_icmp_lt hx hb hdg ht (fun q => kt ((rI_lt ha hc).mp q)) (fun q => kf (fun z => q ((rI_lt ha hc).mpr z)))
theorem rn_if_lt (hx : p.tables.exec = Jvm.exec) (hb : c.code = cc) {a : Int} (ha : inR a) {off : Int} {tgt : Nat} (hdg : decode cc pc = .ok (.ifCond .lt off, 3)) (ht : (pc : Int) + off = (tgt : Int)) (kt : a < 0 → W p l e R s m args below meth c H locs cells slots Q (F0 m tgt ls rest)) (kf : ¬ (a < 0) → W p l e R s m args below meth c H locs cells slots Q (F0 m (pc + 3) ls rest)) : W p l e R s m args below meth c H locs cells slots Q (F0 m pc ls (.int (rI a) :: rest)) :=
  lv_if_lt hx hb hdg ht (fun q => kt ((rI_lt ha inR_0).mp q)) (fun q => kf (fun z => q ((rI_lt ha inR_0).mpr z)))
theorem rn_icmp_ge (hx : p.tables.exec = Jvm.exec) (hb : c.code = cc) {a b : Int} (ha : inR a) (hc : inR b) {off : Int} {tgt : Nat} (hdg : decode cc pc = .ok (.if_icmp .ge off, 3)) (ht : (pc : Int) + off = (tgt : Int)) (kt : b ≤ a → W p l e R s m args below meth c H locs cells slots Q (F0 m tgt ls rest)) (kf : ¬ (b ≤ a) → W p l e R s m args below meth c H locs cells slots Q (F0 m (pc + 3) ls rest)) : W p l e R s m args below meth c H locs cells slots Q (F0 m pc ls (.int (rI b) :: .int (rI a) :: rest)) :=
  lv_icmp_ge hx hb hdg ht (fun q => kt ((rI_le hc ha).mp q)) (fun q => kf (fun z => q ((rI_le hc ha).mpr z)))
theorem rn_if_ge (hx : p.tables.exec = Jvm.exec) (hb : c.code = cc) {a : Int} (ha : inR a) {off : Int} {tgt : Nat} (hdg : decode cc pc = .ok (.ifCond .ge off, 3)) (ht : (pc : Int) + off = (tgt : Int)) (kt : 0 ≤ a → W p l e R s m args below meth c H locs cells slots Q (F0 m tgt ls rest)) (kf : ¬ (0 ≤ a) → W p l e R s m args below meth c H locs cells slots Q (F0 m (pc + 3) ls rest)) : W p l e R s m args below meth c H locs cells slots Q (F0 m pc ls (.int (rI a) :: rest)) :=
  lv_if_ge hx hb hdg ht (fun q => kt ((rI_le inR_0 ha).mp q)) (fun q => kf (fun z => q ((rI_le inR_0 ha).mpr z)))
theorem rn_icmp_gt (hx : p.tables.exec = Jvm.exec) (hb : c.code = cc) {a b : Int} (ha : inR a) (hc : inR b) {off : Int} {tgt : Nat} (hdg : decode cc pc = .ok (.if_icmp .gt off, 3)) (ht : (pc : Int) + off = (tgt : Int)) (kt : b < a → W p l e R s m args below meth c H locs cells slots Q (F0 m tgt ls rest)) (kf : ¬ (b < a) → W p l e R s m args below meth c H locs cells slots Q (F0 m (pc + 3) ls rest)) : W p l e R s m args below meth c H locs cells slots Q (F0 m pc ls (.int (rI b) :: .int (rI a) :: rest)) :=
  lv_icmp_gt hx hb hdg ht (fun q => kt ((rI_lt hc ha).mp q)) (fun q => kf (fun z => q ((rI_lt hc ha).mpr z)))
theorem rn_if_gt (hx : p.tables.exec = Jvm.exec) (hb : c.code = cc) {a : Int} (ha : inR a) {off : Int} {tgt : Nat} (hdg : decode cc pc = .ok (.ifCond .gt off, 3)) (ht : (pc : Int) + off = (tgt : Int)) (kt : 0 < a → W p l e R s m args below meth c H locs cells slots Q (F0 m tgt ls rest)) (kf : ¬ (0 < a) → W p l e R s m args below meth c H locs cells slots Q (F0 m (pc + 3) ls rest)) : W p l e R s m args below meth c H locs cells slots Q (F0 m pc ls (.int (rI a) :: rest)) :=
  lv_if_gt hx hb hdg ht (fun q => kt ((rI_lt inR_0 ha).mp q)) (fun q => kf (fun z => q ((rI_lt inR_0 ha).mpr z)))
theorem rn_icmp_le (hx : p.tables.exec = Jvm.exec) (hb : c.code = cc) {a b : Int} (ha : inR a) (hc : inR b) {off : Int} {tgt : Nat} (hdg : decode cc pc = .ok (.if_icmp .le off, 3)) (ht : (pc : Int) + off = (tgt : Int)) (kt : a ≤ b → W p l e R s m args below meth c H locs cells slots Q (F0 m tgt ls rest)) (kf : ¬ (a ≤ b) → W p l e R s m args below meth c H locs cells slots Q (F0 m (pc + 3) ls rest)) : W p l e R s m args below meth c H locs cells slots Q (F0 m pc ls (.int (rI b) :: .int (rI a) :: rest)) :=
  lv_icmp_le hx hb hdg ht (fun q => kt ((rI_le ha hc).mp q)) (fun q => kf (fun z => q ((rI_le ha hc).mpr z)))
theorem rn_if_le (hx : p.tables.exec = Jvm.exec) (hb : c.code = cc) {a : Int} (ha : inR a) {off : Int} {tgt : Nat} (hdg : decode cc pc = .ok (.ifCond .le off, 3)) (ht : (pc : Int) + off = (tgt : Int)) (kt : a ≤ 0 → W p l e R s m args below meth c H locs cells slots Q (F0 m tgt ls rest)) (kf : ¬ (a ≤ 0) → W p l e R s m args below meth c H locs cells slots Q (F0 m (pc + 3) ls rest)) : W p l e R s m args below meth c H locs cells slots Q (F0 m pc ls (.int (rI a) :: rest)) :=
  lv_if_le hx hb hdg ht (fun q => kt ((rI_le ha inR_0).mp q)) (fun q => kf (fun z => q ((rI_le ha inR_0).mpr z)))
theorem rn_tab (hx : p.tables.exec = Jvm.exec) (hb : c.code = cc) {z n : Int} (hz : inR z) (hc : z = n) {dflt lo hi : Int} {offs : Array Int} {len : Nat} {off : Int} {tgt : Nat} (hdg : decode cc pc = .ok (.tableswitch dflt lo hi offs, len)) (h1 : ¬ n < lo) (h2 : ¬ hi < n) (ho : offs[(n - lo).toNat]? = some off) (ht : (pc : Int) + off = (tgt : Int)) (k : W p l e R s m args below meth c H locs cells slots Q (F0 m tgt ls rest)) : W p l e R s m args below meth c H locs cells slots Q (F0 m pc ls (.int (rI z) :: rest)) := by
  have e : (rI z).toInt = n := (rI_T hz).trans hc
  exact lv_tableIn hx hb hdg (by rw [e]; exact h1) (by rw [e]; exact h2) (by rw [e]; exact ho) ht k
theorem rn_tabO (hx : p.tables.exec = Jvm.exec) (hb : c.code = cc) {z : Int} (hz : inR z) {dflt lo hi : Int} {offs : Array Int} {len : Nat} {tgt : Nat} (hdg : decode cc pc = .ok (.tableswitch dflt lo hi offs, len)) (h : z < lo ∨ hi < z) (ht : (pc : Int) + dflt = (tgt : Int)) (k : W p l e R s m args below meth c H locs cells slots Q (F0 m tgt ls rest)) : W p l e R s m args below meth c H locs cells slots Q (F0 m pc ls (.int (rI z) :: rest)) := by
  exact lv_tableOut hx hb hdg (by rw [rI_T hz]; exact h) ht k
end RFD
def rf_MetK (l : Launch) (v : rfE) (d : Nat) (k : Nat) (σ : RS) (as : List Int) (σ' : RS) (r : Int) : Prop := match k, as with
  | 1, [] => rf_Met l v yX12_thrown cX12_thrown 1 (some .int) d [.ref (rf_h v)] σ σ' (some (.int (rI r)))
  | 2, [a0] => inR a0 → rf_Met l v yX12_fail cX12_fail 2 (some .int) d [.ref (rf_h v), .int (rI a0)] σ σ' (some (.int (rI r)))
  | 3, [a0, a1] => inR a0 → inR a1 → rf_Met l v yX12_wrong cX12_wrong 3 none d [.ref (rf_h v), .int (rI a0), .int (rI a1)] σ σ' none
  | 4, [a0] => rf_Met l v yX12_newSort cX12_newSort 3 (some .int) d [.ref (rf_h v), .ref (rf_ad v (100 + Int.toNat a0))] σ σ' (some (.int (rI r)))
  | 5, [a0] => inR a0 → rf_Met l v yX12_table cX12_table 4 none d [.ref (rf_h v), .int (rI a0)] σ σ' none
  | 6, [a0, a1, a2, a3, a4] => inR a0 → inR a1 → inR a2 → inR a3 → inR a4 → rf_Met l v yX12_feed cX12_feed 8 (some .int) d [.ref (rf_h v), .int (rI a0), .int (rI a1), .int (rI a2), .int (rI a3), .int (rI a4)] σ σ' (some (.int (rI r)))
  | 7, [a0] => inR a0 → rf_Met l v yX12_byteAt cX12_byteAt 2 (some .int) d [.ref (rf_h v), .int (rI a0)] σ σ' (some (.int (rI r)))
  | 8, [a0] => inR a0 → rf_Met l v yX12_isLetter cX12_isLetter 1 (some .boolean) d [.int (rI a0)] σ σ' (some (.int (rI r)))
  | 9, [a0] => inR a0 → rf_Met l v yX12_goesOn cX12_goesOn 1 (some .boolean) d [.int (rI a0)] σ σ' (some (.int (rI r)))
  | 10, [] => rf_Met l v yX12_next cX12_next 4 none d [.ref (rf_h v)] σ σ' none
  | 11, [a0] => inR a0 → rf_Met l v yX12_isWord cX12_isWord 4 (some .boolean) d [.ref (rf_h v), .int (rI a0)] σ σ' (some (.int (rI r)))
  | 12, [a0] => inR a0 → rf_Met l v yX12_readSign cX12_readSign 2 none d [.ref (rf_h v), .int (rI a0)] σ σ' none
  | 13, [a0] => inR a0 → rf_Met l v yX12_isSign cX12_isSign 2 (some .boolean) d [.ref (rf_h v), .int (rI a0)] σ σ' (some (.int (rI r)))
  | 14, [] => rf_Met l v yX12_isName cX12_isName 1 (some .boolean) d [.ref (rf_h v)] σ σ' (some (.int (rI r)))
  | 15, [] => rf_Met l v yX12_cant cX12_cant 1 none d [.ref (rf_h v)] σ σ' none
  | 16, [a0] => inR a0 → rf_Met l v yX12_need cX12_need 2 none d [.ref (rf_h v), .int (rI a0)] σ σ' none
  | 17, [a0] => inR a0 → rf_Met l v yX12_needWord cX12_needWord 2 none d [.ref (rf_h v), .int (rI a0)] σ σ' none
  | 18, [a0, a1, a2, a3, a4] => inR a0 → inR a1 → inR a2 → inR a3 → inR a4 → rf_Met l v yX12_node cX12_node 6 (some .int) d [.ref (rf_h v), .int (rI a0), .int (rI a1), .int (rI a2), .int (rI a3), .int (rI a4)] σ σ' (some (.int (rI r)))
  | 19, [] => rf_Met l v yX12_nameNode cX12_nameNode 2 (some .int) d [.ref (rf_h v)] σ σ' (some (.int (rI r)))
  | 20, [a0] => inR a0 → rf_Met l v yX12_readTerm cX12_readTerm 7 (some .int) d [.ref (rf_h v), .int (rI a0)] σ σ' (some (.int (rI r)))
  | 21, [a0, a1, a2, a3] => inR a0 → inR a1 → inR a2 → inR a3 → rf_Met l v yX12_parts cX12_parts 5 (some .int) d [.ref (rf_h v), .int (rI a0), .int (rI a1), .int (rI a2), .int (rI a3)] σ σ' (some (.int (rI r)))
  | 22, [] => rf_Met l v yX12_beginsAtom cX12_beginsAtom 1 (some .boolean) d [.ref (rf_h v)] σ σ' (some (.int (rI r)))
  | 23, [a0, a1] => inR a0 → inR a1 → rf_Met l v yX12_readUse cX12_readUse 6 (some .int) d [.ref (rf_h v), .int (rI a0), .int (rI a1)] σ σ' (some (.int (rI r)))
  | 24, [a0] => inR a0 → rf_Met l v yX12_readAtom cX12_readAtom 4 (some .int) d [.ref (rf_h v), .int (rI a0)] σ σ' (some (.int (rI r)))
  | 25, [] => rf_Met l v yX12_readStatement cX12_readStatement 1 none d [.ref (rf_h v)] σ σ' none
  | 26, [] => rf_Met l v yX12_readTold cX12_readTold 1 none d [.ref (rf_h v)] σ σ' none
  | 27, [] => rf_Met l v yX12_readAll cX12_readAll 1 none d [.ref (rf_h v)] σ σ' none
  | 28, [] => rf_Met l v yX12_may cX12_may 1 (some .boolean) d [.ref (rf_h v)] σ σ' (some (.int (rI r)))
  | 29, [a0] => inR a0 → rf_Met l v yX12_look cX12_look 2 (some .boolean) d [.ref (rf_h v), .int (rI a0)] σ σ' (some (.int (rI r)))
  | 30, [a0, a1, a2, a3] => inR a0 → inR a1 → inR a2 → inR a3 → rf_Met l v yX12_cell cX12_cell 5 (some .int) d [.ref (rf_h v), .int (rI a0), .int (rI a1), .int (rI a2), .int (rI a3)] σ σ' (some (.int (rI r)))
  | 31, [a0, a1] => inR a0 → inR a1 → rf_Met l v yX12_find cX12_find 4 none d [.ref (rf_h v), .int (rI a0), .int (rI a1)] σ σ' none
  | 32, [a0, a1] => inR a0 → inR a1 → rf_Met l v yX12_head cX12_head 8 none d [.ref (rf_h v), .int (rI a0), .int (rI a1)] σ σ' none
  | 33, [a0] => inR a0 → rf_Met l v yX12_kindOf cX12_kindOf 2 (some .int) d [.ref (rf_h v), .int (rI a0)] σ σ' (some (.int (rI r)))
  | 34, [a0, a1, a2] => inR a0 → inR a1 → inR a2 → rf_Met l v yX12_inside cX12_inside 4 (some .int) d [.ref (rf_h v), .int (rI a0), .int (rI a1), .int (rI a2)] σ σ' (some (.int (rI r)))
  | 35, [a0, a1, a2, a3, a4] => inR a0 → inR a1 → inR a2 → inR a3 → inR a4 → rf_Met l v yX12_compare cX12_compare 13 (some .boolean) d [.ref (rf_h v), .int (rI a0), .int (rI a1), .int (rI a2), .int (rI a3), .int (rI a4)] σ σ' (some (.int (rI r)))
  | 36, [a0, a1, a2, a3, a4, a5, a6] => inR a0 → inR a1 → inR a2 → inR a3 → inR a4 → inR a5 → inR a6 → rf_Met l v yX12_alike cX12_alike 14 (some .boolean) d [.ref (rf_h v), .int (rI a0), .int (rI a1), .int (rI a2), .int (rI a3), .int (rI a4), .int (rI a5), .int (rI a6)] σ σ' (some (.int (rI r)))
  | 37, [a0] => inR a0 → rf_Met l v yX12_put cX12_put 2 none d [.ref (rf_h v), .int (rI a0)] σ σ' none
  | 38, [a0] => inR a0 → rf_Met l v yX12_number cX12_number 2 none d [.ref (rf_h v), .int (rI a0)] σ σ' none
  | 39, [a0, a1, a2] => inR a0 → inR a2 → rf_Met l v yX12_putWord cX12_putWord 5 none d [.ref (rf_h v), .int (rI a0), .ref (rf_ad v (Int.toNat a1)), .int (rI a2)] σ σ' none
  | 40, [a0, a1, a2, a3, a4] => inR a0 → inR a1 → inR a2 → inR a3 → inR a4 → rf_Met l v yX12_tell cX12_tell 14 none d [.ref (rf_h v), .int (rI a0), .int (rI a1), .int (rI a2), .int (rI a3), .int (rI a4)] σ σ' none
  | 41, [a0, a1, a2] => inR a0 → inR a1 → inR a2 → rf_Met l v yX12_normal cX12_normal 12 (some .int) d [.ref (rf_h v), .int (rI a0), .int (rI a1), .int (rI a2)] σ σ' (some (.int (rI r)))
  | 42, [a0, a1, a2, a3, a4] => inR a0 → inR a1 → inR a3 → inR a4 → rf_Met l v yX12_sameName cX12_sameName 8 (some .boolean) d [.ref (rf_h v), .int (rI a0), .int (rI a1), .ref (rf_ad v (Int.toNat a2)), .int (rI a3), .int (rI a4)] σ σ' (some (.int (rI r)))
  | 43, [a0] => inR a0 → rf_Met l v yX12_sortOf cX12_sortOf 4 (some .int) d [.ref (rf_h v), .int (rI a0)] σ σ' (some (.int (rI r)))
  | 44, [a0] => inR a0 → rf_Met l v yX12_knownOf cX12_knownOf 4 (some .int) d [.ref (rf_h v), .int (rI a0)] σ σ' (some (.int (rI r)))
  | 45, [a0, a1] => inR a0 → inR a1 → rf_Met l v yX12_becomes cX12_becomes 3 none d [.ref (rf_h v), .int (rI a0), .int (rI a1)] σ σ' none
  | 46, [a0] => inR a0 → rf_Met l v yX12_judgeName cX12_judgeName 7 none d [.ref (rf_h v), .int (rI a0)] σ σ' none
  | 47, [a0, a1] => inR a0 → inR a1 → rf_Met l v yX12_judgeSort cX12_judgeSort 4 (some .int) d [.ref (rf_h v), .int (rI a0), .int (rI a1)] σ σ' (some (.int (rI r)))
  | 48, [a0, a1, a2] => inR a0 → inR a1 → inR a2 → rf_Met l v yX12_bind cX12_bind 4 none d [.ref (rf_h v), .int (rI a0), .int (rI a1), .int (rI a2)] σ σ' none
  | 49, [a0, a1] => inR a0 → inR a1 → rf_Met l v yX12_judge cX12_judge 3 none d [.ref (rf_h v), .int (rI a0), .int (rI a1)] σ σ' none
  | 50, [a0, a1] => inR a0 → inR a1 → rf_Met l v yX12_judgeProduct cX12_judgeProduct 8 none d [.ref (rf_h v), .int (rI a0), .int (rI a1)] σ σ' none
  | 51, [a0, a1] => inR a0 → inR a1 → rf_Met l v yX12_judgeLambda cX12_judgeLambda 8 none d [.ref (rf_h v), .int (rI a0), .int (rI a1)] σ σ' none
  | 52, [a0, a1] => inR a0 → inR a1 → rf_Met l v yX12_judgeUse cX12_judgeUse 6 none d [.ref (rf_h v), .int (rI a0), .int (rI a1)] σ σ' none
  | 53, [a0, a1] => inR a0 → inR a1 → rf_Met l v yX12_applied cX12_applied 7 none d [.ref (rf_h v), .int (rI a0), .int (rI a1)] σ σ' none
  | 54, [] => rf_Met l v yX12_begin cX12_begin 1 none d [.ref (rf_h v)] σ σ' none
  | 55, [] => rf_Met l v yX12_drop cX12_drop 1 none d [.ref (rf_h v)] σ σ' none
  | 56, [] => rf_Met l v yX12_tables cX12_tables 4 none d [.ref (rf_h v)] σ σ' none
  | 57, [a0] => inR a0 → rf_Met l v yX12_yes cX12_yes 2 none d [.ref (rf_h v), .int (rI a0)] σ σ' none
  | 58, [] => rf_Met l v yX12_told cX12_told 4 none d [.ref (rf_h v)] σ σ' none
  | 59, [] => rf_Met l v yX12_doStatement cX12_doStatement 2 none d [.ref (rf_h v)] σ σ' none
  | 60, [a0] => inR a0 → rf_Met l v yX12_tellLine cX12_tellLine 2 none d [.ref (rf_h v), .int (rI a0)] σ σ' none
  | 61, [] => rf_Met l v yX12_tellHead cX12_tellHead 2 none d [.ref (rf_h v)] σ σ' none
  | 62, [a0] => inR a0 → rf_Met l v yX12_text cX12_text 3 (some .int) d [.ref (rf_h v), .int (rI a0)] σ σ' (some (.int (rI r)))
  | 63, [a0] => inR a0 → rf_Met l v yX12_fault cX12_fault 2 (some .int) d [.ref (rf_h v), .int (rI a0)] σ σ' (some (.int (rI r)))
  | 64, [a0] => inR a0 → rf_Met l v yX12_corner cX12_corner 3 (some .int) d [.ref (rf_h v), .int (rI a0)] σ σ' (some (.int (rI r)))
  | 65, [a0] => inR a0 → rf_Met l v yX12_limit cX12_limit 3 (some .int) d [.ref (rf_h v), .int (rI a0)] σ σ' (some (.int (rI r)))
  | 66, [] => rf_Met l v yX12_outs cX12_outs 1 (some .int) d [.ref (rf_h v)] σ σ' (some (.int (rI r)))
  | 67, [a0] => inR a0 → rf_Met l v yX12_out cX12_out 2 (some .int) d [.ref (rf_h v), .int (rI a0)] σ σ' (some (.int (rI r)))
  | 68, [a0] => inR a0 → rf_Met l v yX12_count cX12_count 5 (some .int) d [.ref (rf_h v), .int (rI a0)] σ σ' (some (.int (rI r)))
  | 69, [a0, a1] => inR a0 → inR a1 → rf_Met l v yX12_name cX12_name 3 (some .int) d [.ref (rf_h v), .int (rI a0), .int (rI a1)] σ σ' (some (.int (rI r)))
  | 70, [a0, a1] => inR a0 → inR a1 → rf_Met l v yX12_sort cX12_sort 3 (some .int) d [.ref (rf_h v), .int (rI a0), .int (rI a1)] σ σ' (some (.int (rI r)))
  | 71, [a0, a1] => inR a0 → inR a1 → rf_Met l v yX12_rule cX12_rule 3 (some .int) d [.ref (rf_h v), .int (rI a0), .int (rI a1)] σ σ' (some (.int (rI r)))
  | 72, [a0] => inR a0 → rf_Met l v yX12_type cX12_type 3 (some .int) d [.ref (rf_h v), .int (rI a0)] σ σ' (some (.int (rI r)))
  | 73, [a0, a1] => inR a0 → inR a1 → rf_Met l v yX12_same cX12_same 7 (some .int) d [.ref (rf_h v), .int (rI a0), .int (rI a1)] σ σ' (some (.int (rI r)))
  | 74, [] => rf_Met l v yX12_mark cX12_mark 1 (some .int) d [.ref (rf_h v)] σ σ' (some (.int (rI r)))
  | 75, [] => rf_Met l v yX12_back cX12_back 1 (some .int) d [.ref (rf_h v)] σ σ' (some (.int (rI r)))
  | _, _ => True
def rf_Rec (l : Launch) (v : rfE) (d : Nat) (rec : Nat → RS → List Int → Option (RS × Int)) : Prop := ∀ (k : Nat) (σ : RS) (as : List Int) (σ' : RS) (r : Int), rec k σ as = some (σ', r) → inR r ∧ rf_MetK l v d k σ as σ' r
