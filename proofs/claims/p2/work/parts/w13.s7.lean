section LWG
variable {bd : cBd} {b n : Nat} {σ σ1 : CS} {τ τ1 : RS}
/-- between two calls: n calls are made -/
def lw_I (bd : cBd) (b n : Nat) (σ : CS) (τ : RS) : Prop := GG bd b σ ∧ RR bd b σ (20 * (c_pv σ (b + 0) 6).toNat + 410 * (512 - n)) (150 * (c_pv σ (b + 0) 6).toNat + 3060 * (512 - n)) 0 (3 * (c_pv σ (b + 0) 6).toNat + 100 * (512 - n)) ∧ HO (n : Int) τ ∧ c_pv σ (b + 16) 4 = τ.1 63 ∧ c_pv σ (b + 3) 10 = τ.1 29 ∧ c_pv σ (b + 0) 6 = τ.1 3
theorem lw_mk {T : Nat} (hn : n + 1 ≤ 512) (G : GG bd b σ1) (R : RR bd b σ1 (20 * T + 410 * (511 - n)) (150 * T + 3060 * (511 - n)) 0 (3 * T + 100 * (511 - n))) (hT : (c_pv σ1 (b + 0) 6).toNat ≤ T) (hH : HO ((n : Int) + 1) τ1) (e1 : c_pv σ1 (b + 16) 4 = τ1.1 63) (e2 : c_pv σ1 (b + 3) 10 = τ1.1 29) (e3 : c_pv σ1 (b + 0) 6 = τ1.1 3) : lw_I bd b (n + 1) σ1 τ1 :=
  ⟨G, R.le (by omega) (by omega) (by omega) (by omega), by rw [show ((n + 1 : Nat) : Int) = (n : Int) + 1 from by omega]; exact hH, e1, e2, e3⟩
theorem lw_nx (hI : lw_I bd b n σ τ) (hn : n + 1 ≤ 512) (G : GG bd b σ1) (R : RR bd b σ1 (20 * (c_pv σ (b + 0) 6).toNat + 410 * (511 - n)) (150 * (c_pv σ (b + 0) 6).toNat + 3060 * (511 - n)) 0 (3 * (c_pv σ (b + 0) 6).toNat + 100 * (511 - n))) (hW : W3 b σ σ1) (hF : FX (n : Int) τ τ1) : lw_I bd b (n + 1) σ1 τ1 := by
  obtain ⟨I1, I2, I3, I4, I5, I6⟩ := hI
  obtain ⟨w1, w2, w3⟩ := hW
  obtain ⟨⟨f1, f2⟩, f3, f4⟩ := hF
  exact lw_mk (T := (c_pv σ (b + 0) 6).toNat) hn G R (by rw [w3]; exact Nat.le_refl _) f1 (by rw [w1, I4, f2]) (by rw [w2, I5, f3]) (by rw [w3, I6, f4])
theorem lw_hm (hn : n + 1 ≤ 512) : (n : Int) + 1 ≤ 512 := by omega
theorem lt_fault {x : Int} (ix : inR x) (hI : lw_I bd b n σ τ) (hn : n + 1 ≤ 512) : ∃ σ1 kd r τ1 rb, RC bd 212 42 σ [((b + 0 : Nat) : Int), x] = some (σ1, kd, r) ∧ RF 720 63 τ [x] = some (τ1, rb) ∧ (kd = 0 ∨ kd = 3) ∧ lw_I bd b (n + 1) σ1 τ1 := by
  obtain ⟨σ1, kd, r, e1, -, G1, R1, hk, hT⟩ := s_fault (bd := bd) (b := b) (d := 212) (x := x) (k := 20 * (c_pv σ (b + 0) 6).toNat + 410 * (511 - n)) (s := 150 * (c_pv σ (b + 0) 6).toNat + 3060 * (511 - n)) (z := 3 * (c_pv σ (b + 0) 6).toNat + 100 * (511 - n)) (by decide) hI.1 (hI.2.1.le (by omega) (by omega) (by omega) (by omega))
  obtain ⟨τ1, rb, e2, hF⟩ := q_fault (d := 720) (x := x) (by decide) hI.2.2.1 (lw_hm hn)
  exact ⟨σ1, kd, r, τ1, rb, e1, e2, hk, lw_nx hI hn G1 R1 hT hF⟩
theorem lt_out {x : Int} (ix : inR x) (hI : lw_I bd b n σ τ) (hn : n + 1 ≤ 512) : ∃ σ1 kd r τ1 rb, RC bd 212 52 σ [((b + 0 : Nat) : Int), x] = some (σ1, kd, r) ∧ RF 720 67 τ [x] = some (τ1, rb) ∧ (kd = 0 ∨ kd = 3) ∧ lw_I bd b (n + 1) σ1 τ1 := by
  obtain ⟨σ1, kd, r, e1, -, G1, R1, hk, hT⟩ := s_out (bd := bd) (b := b) (d := 212) (x := x) (k := 20 * (c_pv σ (b + 0) 6).toNat + 410 * (511 - n)) (s := 150 * (c_pv σ (b + 0) 6).toNat + 3060 * (511 - n)) (z := 3 * (c_pv σ (b + 0) 6).toNat + 100 * (511 - n)) (by decide) hI.1 (hI.2.1.le (by omega) (by omega) (by omega) (by omega))
  obtain ⟨τ1, rb, e2, hF⟩ := q_out (d := 720) (x := x) (by decide) hI.2.2.1 (lw_hm hn)
  exact ⟨σ1, kd, r, τ1, rb, e1, e2, hk, lw_nx hI hn G1 R1 hT hF⟩
theorem lt_count {x : Int} (ix : inR x) (hI : lw_I bd b n σ τ) (hn : n + 1 ≤ 512) : ∃ σ1 kd r τ1 rb, RC bd 212 40 σ [((b + 0 : Nat) : Int), x] = some (σ1, kd, r) ∧ RF 720 68 τ [x] = some (τ1, rb) ∧ (kd = 0 ∨ kd = 3) ∧ lw_I bd b (n + 1) σ1 τ1 := by
  obtain ⟨σ1, kd, r, e1, -, G1, R1, hk, hT⟩ := s_count (bd := bd) (b := b) (d := 212) (x := x) (k := 20 * (c_pv σ (b + 0) 6).toNat + 410 * (511 - n)) (s := 150 * (c_pv σ (b + 0) 6).toNat + 3060 * (511 - n)) (z := 3 * (c_pv σ (b + 0) 6).toNat + 100 * (511 - n)) (by decide) hI.1 (hI.2.1.le (by omega) (by omega) (by omega) (by omega))
  obtain ⟨τ1, rb, e2, hF⟩ := q_count (d := 720) (x := x) (by decide) hI.2.2.1 (lw_hm hn)
  exact ⟨σ1, kd, r, τ1, rb, e1, e2, hk, lw_nx hI hn G1 R1 hT hF⟩
theorem lt_name {x y : Int} (ix : inR x) (iy : inR y) (hI : lw_I bd b n σ τ) (hn : n + 1 ≤ 512) : ∃ σ1 kd r τ1 rb, RC bd 212 48 σ [((b + 0 : Nat) : Int), x, y] = some (σ1, kd, r) ∧ RF 720 69 τ [x, y] = some (τ1, rb) ∧ (kd = 0 ∨ kd = 3) ∧ lw_I bd b (n + 1) σ1 τ1 := by
  obtain ⟨σ1, kd, r, e1, -, G1, R1, hk, hT⟩ := s_name (bd := bd) (b := b) (d := 212) (x := x) (y := y) (k := 20 * (c_pv σ (b + 0) 6).toNat + 410 * (511 - n)) (s := 150 * (c_pv σ (b + 0) 6).toNat + 3060 * (511 - n)) (z := 3 * (c_pv σ (b + 0) 6).toNat + 100 * (511 - n)) (by decide) hI.1 (hI.2.1.le (by omega) (by omega) (by omega) (by omega)) iy
  obtain ⟨τ1, rb, e2, hF⟩ := q_name (d := 720) (x := x) (y := y) (by decide) hI.2.2.1 (lw_hm hn) ix iy
  exact ⟨σ1, kd, r, τ1, rb, e1, e2, hk, lw_nx hI hn G1 R1 hT hF⟩
theorem lt_sort {x y : Int} (ix : inR x) (iy : inR y) (hI : lw_I bd b n σ τ) (hn : n + 1 ≤ 512) : ∃ σ1 kd r τ1 rb, RC bd 212 59 σ [((b + 0 : Nat) : Int), x, y] = some (σ1, kd, r) ∧ RF 720 70 τ [x, y] = some (τ1, rb) ∧ (kd = 0 ∨ kd = 3) ∧ lw_I bd b (n + 1) σ1 τ1 := by
  obtain ⟨σ1, kd, r, e1, -, G1, R1, hk, hT⟩ := s_sort (bd := bd) (b := b) (d := 212) (x := x) (y := y) (k := 20 * (c_pv σ (b + 0) 6).toNat + 410 * (511 - n)) (s := 150 * (c_pv σ (b + 0) 6).toNat + 3060 * (511 - n)) (z := 3 * (c_pv σ (b + 0) 6).toNat + 100 * (511 - n)) (by decide) hI.1 (hI.2.1.le (by omega) (by omega) (by omega) (by omega)) iy
  obtain ⟨τ1, rb, e2, hF⟩ := q_sort (d := 720) (x := x) (y := y) (by decide) hI.2.2.1 (lw_hm hn) ix iy
  exact ⟨σ1, kd, r, τ1, rb, e1, e2, hk, lw_nx hI hn G1 R1 hT hF⟩
theorem lt_rule {x y : Int} (ix : inR x) (iy : inR y) (hI : lw_I bd b n σ τ) (hn : n + 1 ≤ 512) : ∃ σ1 kd r τ1 rb, RC bd 212 56 σ [((b + 0 : Nat) : Int), x, y] = some (σ1, kd, r) ∧ RF 720 71 τ [x, y] = some (τ1, rb) ∧ (kd = 0 ∨ kd = 3) ∧ lw_I bd b (n + 1) σ1 τ1 := by
  obtain ⟨σ1, kd, r, e1, -, G1, R1, hk, hT⟩ := s_rule (bd := bd) (b := b) (d := 212) (x := x) (y := y) (k := 20 * (c_pv σ (b + 0) 6).toNat + 410 * (511 - n)) (s := 150 * (c_pv σ (b + 0) 6).toNat + 3060 * (511 - n)) (z := 3 * (c_pv σ (b + 0) 6).toNat + 100 * (511 - n)) (by decide) hI.1 (hI.2.1.le (by omega) (by omega) (by omega) (by omega))
  obtain ⟨τ1, rb, e2, hF⟩ := q_rule (d := 720) (x := x) (y := y) (by decide) hI.2.2.1 (lw_hm hn)
  exact ⟨σ1, kd, r, τ1, rb, e1, e2, hk, lw_nx hI hn G1 R1 hT hF⟩
theorem lt_type {x : Int} (ix : inR x) (hI : lw_I bd b n σ τ) (hn : n + 1 ≤ 512) : ∃ σ1 kd r τ1 rb, RC bd 212 63 σ [((b + 0 : Nat) : Int), x] = some (σ1, kd, r) ∧ RF 720 72 τ [x] = some (τ1, rb) ∧ (kd = 0 ∨ kd = 3) ∧ lw_I bd b (n + 1) σ1 τ1 := by
  obtain ⟨σ1, kd, r, e1, -, G1, R1, hk, hT⟩ := s_type (bd := bd) (b := b) (d := 212) (x := x) (k := 20 * (c_pv σ (b + 0) 6).toNat + 410 * (511 - n)) (s := 150 * (c_pv σ (b + 0) 6).toNat + 3060 * (511 - n)) (z := 3 * (c_pv σ (b + 0) 6).toNat + 100 * (511 - n)) (by decide) hI.1 (hI.2.1.le (by omega) (by omega) (by omega) (by omega))
  obtain ⟨τ1, rb, e2, hF⟩ := q_type (d := 720) (x := x) (by decide) hI.2.2.1 (lw_hm hn)
  exact ⟨σ1, kd, r, τ1, rb, e1, e2, hk, lw_nx hI hn G1 R1 hT hF⟩
theorem lt_same {x y : Int} (ix : inR x) (iy : inR y) (hI : lw_I bd b n σ τ) (hn : n + 1 ≤ 512) : ∃ σ1 kd r τ1 rb, RC bd 212 58 σ [((b + 0 : Nat) : Int), x, y] = some (σ1, kd, r) ∧ RF 720 73 τ [x, y] = some (τ1, rb) ∧ (kd = 0 ∨ kd = 3) ∧ lw_I bd b (n + 1) σ1 τ1 := by
  obtain ⟨σ1, kd, r, e1, -, G1, R1, hk, hT⟩ := s_same (bd := bd) (b := b) (d := 212) (x := x) (y := y) (k := 20 * (c_pv σ (b + 0) 6).toNat + 410 * (511 - n)) (s := 150 * (c_pv σ (b + 0) 6).toNat + 3060 * (511 - n)) (z := 3 * (c_pv σ (b + 0) 6).toNat + 100 * (511 - n)) (by decide) hI.1 (hI.2.1.le (by omega) (by omega) (by omega) (by omega))
  obtain ⟨τ1, rb, e2, hF⟩ := q_same (d := 720) (x := x) (y := y) (by decide) hI.2.2.1 (lw_hm hn)
  exact ⟨σ1, kd, r, τ1, rb, e1, e2, hk, lw_nx hI hn G1 R1 hT hF⟩
theorem s_outs0 {d k s z : Nat} (hd : 6 ≤ d) (G : GG bd b σ) (R : RR bd b σ (k + 1) (s + 6) 0 z) : sf (RC bd d 53 σ [((b + 0 : Nat) : Int)]) (PX bd b k s z 0 (fun _ σ' _ => W3 b σ σ')) := by
  obtain ⟨d, rfl⟩ : ∃ d0, d = d0 + 1 := ⟨d - 1, by omega⟩
  rw [rc_X11_outs (by omega)]
  refine fin_X ?_
  unfold pc_X11_outs_0
  refine wgF (G.tg 0) (G.fi 3 (i := 0) (f := 3) (j := 16)) ?_
  refine wgN (G.tg 16) (fun z2_2 hz2_2 => ?_)
  have fz2_2 := G.nu 16 7
  have rz2_2 : inR z2_2 := hz2_2 ▸ G.ir _ _
  exact ret_X (by first | assumption | exact inR_of _ | exact ⟨by omega, by omega⟩) G (R.le (by omega) (by omega) (by omega) (by omega)) (by first | trivial | assumption | omega | (dsimp only; omega) | exact (Ext.refl (b := b) (σ := σ)).w)
theorem lt_outs (hI : lw_I bd b n σ τ) (hn : n + 1 ≤ 512) : ∃ σ1 r τ1 rb, RC bd 212 53 σ [((b + 0 : Nat) : Int)] = some (σ1, 0, r) ∧ RF 720 66 τ [] = some (τ1, rb) ∧ lw_I bd b (n + 1) σ1 τ1 := by
  obtain ⟨σ1, kd, r, e1, -, G1, R1, hk, hT⟩ := s_outs0 (bd := bd) (b := b) (d := 212) (k := 20 * (c_pv σ (b + 0) 6).toNat + 410 * (511 - n)) (s := 150 * (c_pv σ (b + 0) 6).toNat + 3060 * (511 - n)) (z := 3 * (c_pv σ (b + 0) 6).toNat + 100 * (511 - n)) (by decide) hI.1 (hI.2.1.le (by omega) (by omega) (by omega) (by omega))
  obtain ⟨τ1, rb, e2, hF⟩ := q_outs (d := 720) (by decide) hI.2.2.1 (lw_hm hn)
  obtain rfl : kd = 0 := hk.elim id id
  exact ⟨σ1, r, τ1, rb, e1, e2, lw_nx hI hn G1 R1 hT hF⟩
theorem lt_limit {x : Int} (hI : lw_I bd b n σ τ) (hn : n + 1 ≤ 512) : ∃ σ1 kd r τ1 rb, RC bd 212 46 σ [((b + 0 : Nat) : Int), x] = some (σ1, kd, r) ∧ RF 720 65 τ [x] = some (τ1, rb) ∧ (kd = 0 ∨ kd = 2) ∧ lw_I bd b (n + 1) σ1 τ1 ∧ τ1.1 1 = (if kd = 0 then 0 else 1) ∧ (kd = 0 → r = rb) := by
  obtain ⟨σ1, kd, r, e1, -, G1, R1, hk, hT⟩ := s_limit (bd := bd) (b := b) (d := 212) (x := x) (k := 20 * (c_pv σ (b + 0) 6).toNat + 410 * (511 - n)) (s := 150 * (c_pv σ (b + 0) 6).toNat + 3060 * (511 - n)) (z := 3 * (c_pv σ (b + 0) 6).toNat + 100 * (511 - n)) (by decide) hI.1 (hI.2.1.le (by omega) (by omega) (by omega) (by omega))
  obtain ⟨τ1, rb, e2, hH, f29, f3, hF⟩ := q_limit (d := 720) (x := x) (by decide) hI.2.2.1 (lw_hm hn)
  obtain ⟨I1, I2, I3, I4, I5, I6⟩ := hI
  refine ⟨σ1, kd, r, τ1, rb, e1, e2, hk, ?_⟩
  rcases hT with ⟨k0, hx, hr, w1, w2, w3⟩ | ⟨k2, hx, w1, w2, w3⟩
  · rcases hF with ⟨-, g1, g2, g3⟩ | ⟨hx2, -⟩
    · refine ⟨lw_mk (T := (c_pv σ (b + 0) 6).toNat) hn G1 R1 (by rw [w3]; exact Nat.le_refl _) hH (by rw [w1, g1]) (by rw [w2, I5, f29]) (by rw [w3, I6, f3]), by rw [if_pos k0]; exact g3, fun _ => by rw [hr, g2, I4]⟩
    · exact absurd hx hx2
  · rcases hF with ⟨hx2, -⟩ | ⟨-, g1, g2, g3⟩
    · exact absurd hx2 hx
    · refine ⟨lw_mk (T := (c_pv σ (b + 0) 6).toNat) hn G1 R1 (by rw [w3]; exact Nat.le_refl _) hH (by rw [w1, I4, g1]) (by rw [w2, I5, f29]) (by rw [w3, I6, f3]), by rw [if_neg (by omega)]; exact g3, fun q => by omega⟩
theorem lt_mark (hI : lw_I bd b n σ τ) (hn : n + 1 ≤ 512) : ∃ σ1 kd r τ1 rb, RC bd 212 47 σ [((b + 0 : Nat) : Int)] = some (σ1, kd, r) ∧ RF 720 74 τ [] = some (τ1, rb) ∧ (kd = 0 ∨ kd = 1) ∧ lw_I bd b (n + 1) σ1 τ1 ∧ τ1.1 1 = (if kd = 0 then 0 else 1) ∧ (kd = 0 → r = rb) := by
  obtain ⟨σ1, kd, r, e1, -, G1, R1, hk, hT⟩ := s_mark (bd := bd) (b := b) (d := 212) (k := 20 * (c_pv σ (b + 0) 6).toNat + 410 * (511 - n)) (s := 150 * (c_pv σ (b + 0) 6).toNat + 3060 * (511 - n)) (z := 3 * (c_pv σ (b + 0) 6).toNat + 100 * (511 - n)) (by decide) hI.1 (hI.2.1.le (by omega) (by omega) (by omega) (by omega))
  obtain ⟨τ1, rb, e2, ⟨hH, f63⟩, f3, hF⟩ := q_mark (d := 720) (by decide) hI.2.2.1 (lw_hm hn)
  have hm := hI.1.nu 3 10
  obtain ⟨I1, I2, I3, I4, I5, I6⟩ := hI
  refine ⟨σ1, kd, r, τ1, rb, e1, e2, hk, ?_⟩
  rcases hT with ⟨k0, hx, hr, w1, w2, w3⟩ | ⟨k1, hx, w1, w2, w3⟩
  · rcases hF with ⟨g0, -⟩ | ⟨g0, g1, g2, g3⟩
    · omega
    · exact ⟨lw_mk (T := (c_pv σ (b + 0) 6).toNat) hn G1 R1 (by rw [w3]; exact Nat.le_refl _) hH (by rw [w1, I4, f63]) (by rw [w2, I5, g1]) (by rw [w3, I6, f3]), by rw [if_pos k0]; exact g2, fun _ => by rw [hr, g3, g1, I5]⟩
  · rcases hF with ⟨g0, g1, g2, g3⟩ | ⟨g0, -⟩
    · exact ⟨lw_mk (T := (c_pv σ (b + 0) 6).toNat) hn G1 R1 (by rw [w3]; exact Nat.le_refl _) hH (by rw [w1, I4, f63]) (by rw [w2, I5, g1]) (by rw [w3, I6, f3]), by rw [if_neg (by omega)]; exact g2, fun q => by omega⟩
    · omega
theorem lt_back (hI : lw_I bd b n σ τ) (hn : n + 1 ≤ 512) : ∃ σ1 kd r τ1 rb, RC bd 212 36 σ [((b + 0 : Nat) : Int)] = some (σ1, kd, r) ∧ RF 720 75 τ [] = some (τ1, rb) ∧ (kd = 0 ∨ kd = 1) ∧ lw_I bd b (n + 1) σ1 τ1 := by
  obtain ⟨σ1, kd, r, e1, -, G1, R1, hk, hT⟩ := s_back (bd := bd) (b := b) (d := 212) (k := 20 * (c_pv σ (b + 0) 6).toNat + 410 * (511 - n)) (s := 150 * (c_pv σ (b + 0) 6).toNat + 3060 * (511 - n)) (z := 3 * (c_pv σ (b + 0) 6).toNat + 100 * (511 - n)) (by decide) hI.1 (hI.2.1.le (by omega) (by omega) (by omega) (by omega))
  obtain ⟨τ1, rb, e2, ⟨hH, f63⟩, f3, hF⟩ := q_back (d := 720) (by decide) hI.2.2.1 (lw_hm hn)
  have hm := hI.1.nu 3 10
  obtain ⟨I1, I2, I3, I4, I5, I6⟩ := hI
  refine ⟨σ1, kd, r, τ1, rb, e1, e2, hk, ?_⟩
  rcases hT with ⟨k0, hx, w1, w2, w3⟩ | ⟨k1, hx, w1, w2, w3⟩
  · rcases hF with ⟨g0, -⟩ | ⟨g0, g1, -⟩
    · omega
    · exact lw_mk (T := (c_pv σ (b + 0) 6).toNat) hn G1 R1 (by rw [w3]; exact Nat.le_refl _) hH (by rw [w1, I4, f63]) (by rw [w2, I5, g1]) (by rw [w3, I6, f3])
  · rcases hF with ⟨g0, g1, -⟩ | ⟨g0, -⟩
    · exact lw_mk (T := (c_pv σ (b + 0) 6).toNat) hn G1 R1 (by rw [w3]; exact Nat.le_refl _) hH (by rw [w1, I4, f63]) (by rw [w2, I5, g1]) (by rw [w3, I6, f3])
    · omega
theorem lt_corner {x : Int} (hI : lw_I bd b n σ τ) (hn : n + 1 ≤ 512) : ∃ σ1 kd r τ1 rb, RC bd 212 39 σ [((b + 0 : Nat) : Int), x] = some (σ1, kd, r) ∧ RF 720 64 τ [x] = some (τ1, rb) ∧ (kd = 0 ∨ kd = 2) ∧ lw_I bd b (n + 1) σ1 τ1 := by
  obtain ⟨σ1, kd, r, e1, -, G1, R1, hk, hT⟩ := s_corner (bd := bd) (b := b) (d := 212) (x := x) (k := 20 * (c_pv σ (b + 0) 6).toNat + 410 * (511 - n)) (s := 150 * (c_pv σ (b + 0) 6).toNat + 3060 * (511 - n)) (z := 3 * (c_pv σ (b + 0) 6).toNat + 100 * (511 - n)) (by decide) hI.1 (hI.2.1.le (by omega) (by omega) (by omega) (by omega))
  obtain ⟨τ1, rb, e2, ⟨hH, f63⟩, f3, hF⟩ := q_corner (d := 720) (x := x) (by decide) hI.2.2.1 (lw_hm hn)
  obtain ⟨I1, I2, I3, I4, I5, I6⟩ := hI
  refine ⟨σ1, kd, r, τ1, rb, e1, e2, hk, ?_⟩
  rcases hT with ⟨k0, hx, w1, w2, w3⟩ | ⟨k1, hx, w1, w2, w3⟩
  · rcases hF with ⟨-, -, g1⟩ | ⟨g0, -⟩
    · exact lw_mk (T := (c_pv σ (b + 0) 6).toNat) hn G1 R1 (by rw [w3]; exact Nat.le_refl _) hH (by rw [w1, I4, f63]) (by rw [w2, g1]) (by rw [w3, I6, f3])
    · omega
  · rcases hF with ⟨g0, g1, -⟩ | ⟨g0, g1⟩
    · omega
    · exact lw_mk (T := (c_pv σ (b + 0) 6).toNat) hn G1 R1 (by rw [w3]; exact Nat.le_refl _) hH (by rw [w1, I4, f63]) (by rw [w2, I5, g1]) (by rw [w3, I6, f3])
theorem lt_feed {x1 x2 x3 x4 x5 : Int} (hI : lw_I bd b n σ τ) (hn : n + 1 ≤ 512) : ∃ σ1 r τ1 rb, RC bd 212 43 σ [((b + 0 : Nat) : Int), x1, x2, x3, x4, x5] = some (σ1, 0, r) ∧ RF 720 6 τ [x1, x2, x3, x4, x5] = some (τ1, rb) ∧ lw_I bd b (n + 1) σ1 τ1 ∧ r = rb := by
  obtain ⟨σ1, kd, r, e1, -, G1, R1, hk, w1, w2, hT⟩ := s_feed (bd := bd) (b := b) (d := 212) (x1 := x1) (x2 := x2) (x3 := x3) (x4 := x4) (x5 := x5) (k := 20 * ((c_pv σ (b + 0) 6).toNat + 20) + 410 * (511 - n)) (s := 150 * ((c_pv σ (b + 0) 6).toNat + 20) + 3060 * (511 - n)) (z := 3 * ((c_pv σ (b + 0) 6).toNat + 20) + 100 * (511 - n)) (by decide) hI.1 (hI.2.1.le (by omega) (by omega) (by omega) (by omega))
  obtain ⟨τ1, rb, e2, ⟨hH, f63⟩, f29, hF⟩ := q_feed (d := 720) (x1 := x1) (x2 := x2) (x3 := x3) (x4 := x4) (x5 := x5) (by decide) hI.2.2.1 (lw_hm hn)
  obtain ⟨I1, I2, I3, I4, I5, I6⟩ := hI
  obtain rfl : kd = 0 := hk.elim id id
  refine ⟨σ1, r, τ1, rb, e1, e2, lw_mk (T := (c_pv σ (b + 0) 6).toNat + 20) hn G1 R1 (by omega) hH (by rw [w1, I4, f63]) (by rw [w2, I5, f29]) (by omega), by omega⟩
theorem lt_text {x : Int} (hI : lw_I bd b n σ τ) (hn : n + 1 ≤ 512) : ∃ σ1 kd r τ1 rb, RC bd 212 62 σ [((b + 0 : Nat) : Int), x] = some (σ1, kd, r) ∧ RF 720 62 τ [x] = some (τ1, rb) ∧ (kd = 0 ∨ kd = 2) ∧ lw_I bd b (n + 1) σ1 τ1 := by
  obtain ⟨σ1, kd, r, e1, -, G1, hT⟩ := s_text (bd := bd) (b := b) (d := 212) (x := x) (k := 410 * (511 - n)) (s := 3060 * (511 - n)) (z := 100 * (511 - n)) (by decide) hI.1 (hI.2.1.le (by omega) (by omega) (by omega) (by omega))
  obtain ⟨τ1, rb, e2, ⟨hH, f63⟩, f29, hF⟩ := q_text (d := 720) (x := x) (by decide) hI.2.2.1 (lw_hm hn)
  obtain ⟨I1, I2, I3, I4, I5, I6⟩ := hI
  refine ⟨σ1, kd, r, τ1, rb, e1, e2, ?_⟩
  rcases hT with ⟨k0, hx, R1, w1, w2, w3⟩ | ⟨k1, hx, R1, w1, w2, w3⟩
  · refine ⟨Or.inl k0, lw_mk (T := 0) hn G1 (R1.le (by omega) (by omega) (by omega) (by omega)) (by rw [w3]; decide) hH (by rw [w1, I4, f63]) (by rw [w2, I5, f29]) ?_⟩
    rcases hF with ⟨g0, g1, g2⟩ | ⟨g0, -⟩ <;> omega
  · refine ⟨Or.inr k1, lw_mk (T := (c_pv σ (b + 0) 6).toNat) hn G1 (R1.le (by omega) (by omega) (by omega) (by omega)) (by rw [w3]; exact Nat.le_refl _) hH (by rw [w1, I4, f63]) (by rw [w2, I5, f29]) ?_⟩
    rcases hF with ⟨g0, g1, g2⟩ | ⟨g0, g2⟩ <;> omega
end LWG
