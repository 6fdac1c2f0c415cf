def cw_KS (ad : Nat → Nat) (U : State) : Prop := vk_R RX4 204 "yes" (ad 1) U ∧ vk_R RX4 206 "no" (ad 2) U ∧ vk_R RX7 192 "sort  axiom rule  check norm  same  head  let   in    " (ad 0) U
theorem cw_KS.same {ad : Nat → Nat} {u U : State} (hv : U.vm = u.vm) (h : cw_KS ad u) : cw_KS ad U := ⟨h.1.same hv, h.2.1.same hv, h.2.2.same hv⟩
theorem cw_KS.warm {ad : Nat → Nat} {s U : State} (hW : s.WarmedH U.vm) (h : cw_KS ad s) : cw_KS ad U := ⟨h.1.warm hW, h.2.1.warm hW, h.2.2.warm hW⟩
