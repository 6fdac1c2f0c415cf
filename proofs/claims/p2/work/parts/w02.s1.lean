section LWA
/-- the tables' lists by number -/
def lw_t (k : Nat) : List Cond := match k with
  | 0 => k2_sels lw_privs
  | 1 => tables_1_1
  | 2 => tables_1_2
  | 3 => tables_1_3
  | 4 => tables_1_4
  | 5 => tables_1_5
  | 6 => tables_1_6
  | 7 => tables_1_7
  | _ => tables_1_8
theorem lw_in {w : Cond} (k i : Nat) (h : (lw_t k)[i]? = some w) : w ∈ lw_tbl := by
  have hm := List.mem_of_getElem? h
  show w ∈ k2_sels lw_privs ++ (tables_1_1 ++ (tables_1_2 ++ (tables_1_3 ++ (tables_1_4 ++ (tables_1_5 ++ (tables_1_6 ++ (tables_1_7 ++ tables_1_8)))))))
  simp only [List.mem_append]
  unfold lw_t at hm
  split at hm <;> simp only [hm, true_or, or_true]
def lw_gw : List Cond := lw_tbl.filter goodWord
theorem lw_gi {w : Cond} (k i : Nat) (h : (lw_t k)[i]? = some w) (hg : goodWord w = true) : w ∈ lw_gw := List.mem_filter.mpr ⟨lw_in k i h, hg⟩
theorem lw_gw_ok {w : Cond} (h : w ∈ lw_gw) : goodWord w = true := (List.mem_filter.mp h).2
theorem lw_sub (ws : List Cond) (ps : List (Nat × Nat)) (hp : ps.map (fun q => (lw_t q.1)[q.2]?) = ws.map some) : ∀ w ∈ ws, w ∈ lw_tbl := by
  intro w hw
  have h : some w ∈ ws.map some := List.mem_map.mpr ⟨w, hw, rfl⟩
  rw [← hp] at h
  obtain ⟨q, -, hq⟩ := List.mem_map.mp h
  exact lw_in q.1 q.2 hq
theorem lw_cut {P : Cond → Prop} {ws : List Cond} (n : Nat) (h1 : ∀ w ∈ ws.take n, P w) (h2 : ∀ w ∈ ws.drop n, P w) : ∀ w ∈ ws, P w := fun w hw => by
  rw [← List.take_append_drop n ws] at hw
  exact (List.mem_append.mp hw).elim (h1 w) (h2 w)
end LWA
