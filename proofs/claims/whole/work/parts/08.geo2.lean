/-! what the count says, pair by pair -/
theorem chk_at {dx dy : Nat} (h1 : dx < 16) (h2 : dy < 12) : chkN dx dy = true :=
  List.all_eq_true.mp (List.all_eq_true.mp chk_all dx (List.mem_range.mpr h1)) dy (List.mem_range.mpr h2)
theorem lstN_len (dx dy : Nat) : ∀ (k : Nat) (q : Nat × Nat × Nat), (lstN dx dy k q).length = k
  | 0, _ => rfl
  | k + 1, q => by show (lstN dx dy k _).length + 1 = k + 1; rw [lstN_len dx dy k]
theorem lst_at {dx dy n : Nat} (h : n ≤ endN dx dy) : (lstN dx dy (endN dx dy + 1) (0, 0, 0))[n]? = some (trv dx dy n) := by
  have := lstN_get dx dy (endN dx dy + 1) 0 n (by omega)
  rw [Nat.zero_add] at this
  exact this
theorem geo_end {dx dy : Nat} (h1 : dx < 16) (h2 : dy < 12) : endN dx dy ≤ dx + dy := by
  have h := chk_at h1 h2
  simp only [chkN, Bool.and_eq_true, decide_eq_true_eq] at h
  exact h.1.1.1.1.1
theorem geo_in {dx dy n : Nat} (h1 : dx < 16) (h2 : dy < 12) (hn : n ≤ endN dx dy) : (trv dx dy n).1 ≤ dx ∧ (trv dx dy n).2.1 ≤ dy ∧ (trv dx dy n).2.2 = bgN dx dy (trv dx dy n).1 (trv dx dy n).2.1 ∧ bgN dx dy (trv dx dy n).1 (trv dx dy n).2.1 < edN dx dy (trv dx dy n).1 (trv dx dy n).2.1 ∧ (arrv dx dy (trv dx dy n) = true ∨ lft dx dy (trv dx dy n).1 (trv dx dy n).2.1 = edN dx dy (trv dx dy n).1 (trv dx dy n).2.1) := by
  have h := chk_at h1 h2
  simp only [chkN, Bool.and_eq_true, decide_eq_true_eq] at h
  have h3 := List.all_eq_true.mp h.1.1.1.1.2 _ (List.mem_of_getElem? (lst_at hn))
  simp only [Bool.and_eq_true, decide_eq_true_eq, Bool.or_eq_true] at h3
  exact ⟨h3.1.1.1.1, h3.1.1.1.2, h3.1.1.2, h3.1.2, h3.2⟩
theorem geo_way {dx dy n : Nat} (h1 : dx < 16) (h2 : dy < 12) (hn : n < endN dx dy) : arrv dx dy (trv dx dy n) = false := by
  have h := chk_at h1 h2
  simp only [chkN, Bool.and_eq_true, decide_eq_true_eq] at h
  have h3 : trv dx dy n ∈ (lstN dx dy (endN dx dy + 1) (0, 0, 0)).dropLast := by
    refine List.mem_of_getElem? (i := n) ?_
    rw [List.getElem?_dropLast, lstN_len, if_pos (by omega), lst_at (by omega)]
  have h4 := List.all_eq_true.mp h.1.1.1.2 _ h3
  simpa using h4
theorem geo_arr {dx dy : Nat} (h1 : dx < 16) (h2 : dy < 12) : (trv dx dy (endN dx dy)).1 = dx ∧ (trv dx dy (endN dx dy)).2.1 = dy := by
  have h := chk_at h1 h2
  simp only [chkN, Bool.and_eq_true, decide_eq_true_eq] at h
  have h3 := h.1.1.2
  rw [lst_at (Nat.le_refl _)] at h3
  simpa using h3
theorem geo_inj {dx dy n m : Nat} (h1 : dx < 16) (h2 : dy < 12) (hn : n ≤ endN dx dy) (hm : m ≤ endN dx dy) (e1 : (trv dx dy n).1 = (trv dx dy m).1) (e2 : (trv dx dy n).2.1 = (trv dx dy m).2.1) : n = m := by
  have h := chk_at h1 h2
  simp only [chkN, Bool.and_eq_true, decide_eq_true_eq] at h
  have h3 := h.1.2
  have g : ∀ k : Nat, k ≤ endN dx dy → ((lstN dx dy (endN dx dy + 1) (0, 0, 0)).map fun q => 16 * q.2.1 + q.1)[k]? = some (16 * (trv dx dy k).2.1 + (trv dx dy k).1) := fun k hk => by
    rw [List.getElem?_map, lst_at hk]; rfl
  have hl : ((lstN dx dy (endN dx dy + 1) (0, 0, 0)).map fun q => 16 * q.2.1 + q.1).length = endN dx dy + 1 := by rw [List.length_map, lstN_len]
  refine (List.getElem?_inj (by rw [hl]; omega) h3).mp ?_
  rw [g n hn, g m hm, e1, e2]
theorem geo_all {dx dy i j : Nat} (h1 : dx < 16) (h2 : dy < 12) (hi : i ≤ dx) (hj : j ≤ dy) (hx : bgN dx dy i j < edN dx dy i j) : ∃ n, n ≤ endN dx dy ∧ (trv dx dy n).1 = i ∧ (trv dx dy n).2.1 = j := by
  have h := chk_at h1 h2
  simp only [chkN, Bool.and_eq_true, decide_eq_true_eq] at h
  have h3 := List.all_eq_true.mp (List.all_eq_true.mp h.2 i (List.mem_range.mpr (by omega))) j (List.mem_range.mpr (by omega))
  rw [decide_eq_true hx] at h3
  simp only [Bool.not_true, Bool.false_or] at h3
  obtain ⟨q, hq, h4⟩ := List.any_eq_true.mp h3
  simp only [Bool.and_eq_true, decide_eq_true_eq] at h4
  obtain ⟨n, hn⟩ := List.getElem?_of_mem hq
  have hn2 : n < endN dx dy + 1 := by
    have := (List.getElem?_eq_some_iff.mp hn).1
    rwa [lstN_len] at this
  rw [lst_at (by omega)] at hn
  cases hn
  exact ⟨n, by omega, h4.1, h4.2⟩
