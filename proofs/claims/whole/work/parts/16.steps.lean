/-! ===== steps and cells: what is summed along the line is what is summed over the garden ===== -/
theorem nxB_spec (bk : Nat → Bool) : ∀ (f n : Nat), n ≤ nxB bk f n ∧ nxB bk f n ≤ n + f ∧ (0 < f → n < nxB bk f n) ∧ (∀ j, n < j → j < nxB bk f n → bk j = false) ∧ (nxB bk f n < n + f → bk (nxB bk f n) = true)
  | 0, n => ⟨Nat.le_refl _, Nat.le_refl _, fun h => absurd h (by omega), fun j h1 h2 => absurd h1 (by unfold nxB at h2; omega), fun h => absurd h (by unfold nxB; omega)⟩
  | 1, n => ⟨by unfold nxB; omega, by unfold nxB; omega, fun _ => by unfold nxB; omega, fun j h1 h2 => by unfold nxB at h2; omega, fun h => by unfold nxB at h; omega⟩
  | f + 2, n => by
    have ih := nxB_spec bk (f + 1) (n + 1)
    unfold nxB
    by_cases hb : bk (n + 1) = true
    · rw [if_pos hb]
      exact ⟨by omega, by omega, fun _ => by omega, fun j h1 h2 => by omega, fun _ => hb⟩
    · rw [if_neg hb]
      refine ⟨by omega, by omega, fun _ => by omega, fun j h1 h2 => ?_, fun h => ih.2.2.2.2 (by omega)⟩
      rcases Nat.lt_or_ge (n + 1) j with g | g
      · exact ih.2.2.2.1 j g h2
      · have : j = n + 1 := by omega
        subst this
        cases h : bk (n + 1)
        · rfl
        · exact absurd h hb
theorem nxt_spec {bk : Nat → Bool} {N n : Nat} (hn : n ≤ N) : n ≤ nxt bk N n ∧ nxt bk N n ≤ N ∧ (n < N → n < nxt bk N n) ∧ (∀ j, n < j → j < nxt bk N n → bk j = false) ∧ (nxt bk N n < N → bk (nxt bk N n) = true) := by
  have h := nxB_spec bk (N - n) n
  unfold nxt
  exact ⟨h.1, by omega, fun q => h.2.2.1 (by omega), h.2.2.2.1, fun q => h.2.2.2.2 (by omega)⟩
theorem sumN_flat {f : Nat → Nat} {a : Nat} : ∀ b, a ≤ b → (∀ j, a ≤ j → j < b → f j = 0) → sumN f b = sumN f a
  | 0, h, _ => by have : a = 0 := by omega
                  rw [this]
  | b + 1, h, hz => by
    rcases Nat.lt_or_ge b a with g | g
    · have : a = b + 1 := by omega
      rw [this]
    · show sumN f b + f b = sumN f a
      rw [hz b g (by omega), sumN_flat b g (fun j h1 h2 => hz j h1 (by omega))]; omega
/-- along the line: up to the next one only that one counts -/
theorem sumN_jump {f : Nat → Nat} {bk : Nat → Bool} {N q : Nat} (hq : q ≤ N) (hf : ∀ j, bk (j + 1) = false → f j = 0) (hm : nxt bk N q < N) : sumN f (nxt bk N q) = sumN f q + f (nxt bk N q - 1) := by
  have h := nxt_spec (bk := bk) hq
  have h1 : q < nxt bk N q := h.2.2.1 (by omega)
  obtain ⟨m, hm2⟩ : ∃ m, nxt bk N q = m + 1 := ⟨nxt bk N q - 1, by omega⟩
  have h4 : ∀ j, q ≤ j → j < m → f j = 0 := fun j a b => hf j (h.2.2.2.1 (j + 1) (by omega) (by omega))
  rw [hm2]
  show sumN f m + f m = sumN f q + f (m + 1 - 1)
  rw [sumN_flat m (by omega) h4, Nat.add_sub_cancel]
theorem sumN_stop {f : Nat → Nat} {bk : Nat → Bool} {N q : Nat} (hq : q ≤ N) (hf : ∀ j, bk (j + 1) = false → f j = 0) (hm : nxt bk N q = N) (h1 : q < N ∨ N = 0) : sumN f (N - 1) = sumN f q := by
  have h := nxt_spec (bk := bk) hq
  rcases h1 with h1 | h1
  · exact sumN_flat (N - 1) (by omega) (fun j a b => hf j (h.2.2.2.1 (j + 1) (by omega) (by omega)))
  · have : q = 0 := by omega
    rw [h1, this]
/-- a cell among the first M steps -/
def memS (c9 : Nat → Nat) : Nat → Nat → Bool
  | 0, _ => false
  | M + 1, c => memS c9 M c || decide (c9 (M + 1) = c)
theorem memS_iff {c9 : Nat → Nat} {c : Nat} : ∀ M, memS c9 M c = true ↔ ∃ m, 0 < m ∧ m ≤ M ∧ c9 m = c
  | 0 => ⟨fun h => absurd h (by simp [memS]), fun ⟨m, h1, h2, _⟩ => absurd h1 (by omega)⟩
  | M + 1 => by
    unfold memS
    rw [Bool.or_eq_true, decide_eq_true_eq, memS_iff M]
    constructor
    · rintro (⟨m, h1, h2, h3⟩ | h)
      · exact ⟨m, h1, by omega, h3⟩
      · exact ⟨M + 1, by omega, Nat.le_refl _, h⟩
    · rintro ⟨m, h1, h2, h3⟩
      rcases Nat.lt_or_ge M m with g | g
      · have : m = M + 1 := by omega
        subst this; exact Or.inr h3
      · exact Or.inl ⟨m, h1, g, h3⟩
theorem sumN_put {f : Nat → Nat} {d v : Nat} : ∀ n, d < n → f d = 0 → sumN (fun c => if c = d then v else f c) n = sumN f n + v
  | 0, h, _ => absurd h (by omega)
  | n + 1, h, hz => by
    unfold sumN
    rcases Nat.lt_or_ge d n with g | g
    · rw [sumN_put n g hz, if_neg (by omega)]; omega
    · have : d = n := by omega
      subst this
      rw [if_pos rfl, hz, sumN_congr d (fun k hk => if_neg (by omega))]; omega
/-- the sum over the first M steps is that over the cells among them -/
theorem sumS {c9 : Nat → Nat} {f : Nat → Nat} {N : Nat} (hlt : ∀ m, m ≤ N → c9 m < 192) (hin : ∀ m n, m ≤ N → n ≤ N → c9 m = c9 n → m = n) : ∀ M, M ≤ N → sumN (fun c => if memS c9 M c then f c else 0) 192 = sumN (fun j => f (c9 (j + 1))) M
  | 0, _ => by
    show sumN (fun c => if memS c9 0 c then f c else 0) 192 = 0
    have : ∀ n, sumN (fun c => if memS c9 0 c then f c else 0) n = 0 := by
      intro n
      induction n with
      | zero => rfl
      | succ n ih => unfold sumN; rw [ih]; simp [memS]
    exact this 192
  | M + 1, h => by
    have ih := sumS (f := f) hlt hin M (by omega)
    have hz : (fun c => if memS c9 M c then f c else 0) (c9 (M + 1)) = 0 := by
      show (if memS c9 M (c9 (M + 1)) then f (c9 (M + 1)) else 0) = 0
      rw [if_neg]
      intro q
      obtain ⟨m, h1, h2, h3⟩ := (memS_iff M).mp q
      have := hin m (M + 1) (by omega) h h3
      omega
    have e := sumN_put (f := fun c => if memS c9 M c then f c else 0) (d := c9 (M + 1)) (v := f (c9 (M + 1))) 192 (hlt (M + 1) h) hz
    have e2 : sumN (fun c => if memS c9 (M + 1) c then f c else 0) 192 = sumN (fun c => if c = c9 (M + 1) then f (c9 (M + 1)) else if memS c9 M c then f c else 0) 192 := by
      refine sumN_congr 192 (fun c _ => ?_)
      show (if (memS c9 M c || decide (c9 (M + 1) = c)) then f c else 0) = _
      by_cases g : c = c9 (M + 1)
      · rw [if_pos g, ← g]; simp
      · rw [if_neg g]
        have : decide (c9 (M + 1) = c) = false := decide_eq_false (fun q => g q.symm)
        rw [this, Bool.or_false]
    rw [e2, e, ih]
    rfl
section V
variable {G : GN} {Hh : Nat → Nat} {p k : Nat}
theorem plB_ne (hpl : plB G p = true) : G 1 p ≠ 2 ∧ G 1 p ≠ 4 := by
  unfold plB at hpl
  simp only [Bool.or_eq_true, decide_eq_true_eq] at hpl
  omega
/-- a hedge that blocks lies at a step -/
theorem blk_step (hw : wf G) (hp : p < 192) (hk : k < G 0 2) (hpl : plB G p = true) {c : Nat} (h : blk G Hh p k c = true) : ∃ m, 0 < m ∧ m < NG G p k ∧ csG G p k m = c := by
  unfold blk blB at h
  rw [Bool.and_eq_true, decide_eq_true_eq] at h
  have hk2 : G 1 c = 2 := by
    by_cases q : G 1 c = 2
    · exact q
    · have h2 := h.2
      unfold LK at h2
      rw [if_neg q] at h2; omega
  obtain ⟨m, h1, h2⟩ := cs_all hp (hw.f hk).1 h.1
  refine ⟨m, ?_, ?_, h2⟩
  · rcases Nat.eq_zero_or_pos m with g | g
    · subst g
      rw [cs_0] at h2
      subst h2
      exact absurd hk2 (plB_ne hpl).1
    · exact g
  · rcases Nat.lt_or_ge m (NG G p k) with g | g
    · exact g
    · have e : m = vN p (G 3 k) := by unfold NG at g; omega
      rw [e, cs_N hp (hw.f hk).1] at h2
      have := (hw.f hk).2.1
      rw [h2] at this; omega
theorem csG_lt (hw : wf G) (hp : p < 192) (hk : k < G 0 2) {m : Nat} (hm : m ≤ NG G p k) : csG G p k m < 192 := cs_lt hp (hw.f hk).1 hm
theorem csG_inj (hw : wf G) (hp : p < 192) (hk : k < G 0 2) {m n : Nat} (hm : m ≤ NG G p k) (hn : n ≤ NG G p k) (h : csG G p k m = csG G p k n) : m = n := cs_inj hp (hw.f hk).1 hm hn h
/-- what is summed over the hedges that block, along the line and over the garden -/
theorem sum_blk (hw : wf G) (hp : p < 192) (hk : k < G 0 2) (hpl : plB G p = true) (v : Nat → Nat) : sumN (fun c => if blk G Hh p k c then v c else 0) 192 = sumN (fun j => if bkS G Hh p k (j + 1) then v (csG G p k (j + 1)) else 0) (NG G p k - 1) := by
  have h := sumS (c9 := csG G p k) (f := fun c => if blk G Hh p k c then v c else 0) (N := NG G p k) (fun m hm => csG_lt hw hp hk hm) (fun m n a b c => csG_inj hw hp hk a b c) (NG G p k - 1) (by omega)
  refine Eq.trans ?_ h
  refine sumN_congr 192 (fun c _ => ?_)
  by_cases g : blk G Hh p k c = true
  · obtain ⟨m, h1, h2, h3⟩ := blk_step hw hp hk hpl g
    rw [if_pos ((memS_iff _).mpr ⟨m, h1, by omega, h3⟩)]
  · rw [if_neg g]; split <;> rfl
theorem cnt_blk (hw : wf G) (hp : p < 192) (hk : k < G 0 2) (hpl : plB G p = true) : cntB (blk G Hh p k) 192 = cntB (fun j => bkS G Hh p k (j + 1)) (NG G p k - 1) := by
  rw [cntB_sum, cntB_sum]
  exact sum_blk hw hp hk hpl (fun _ => 1)
/-- the feature is seen just if the first search comes to the end -/
theorem vis_iff (hw : wf G) (hp : p < 192) (hk : k < G 0 2) (hpl : plB G p = true) : visB G Hh p k = decide (nxt (bkS G Hh p k) (NG G p k) 0 = NG G p k) := by
  unfold visB
  rw [cnt_blk hw hp hk hpl]
  have h := nxt_spec (bk := bkS G Hh p k) (N := NG G p k) (n := 0) (Nat.zero_le _)
  by_cases g : nxt (bkS G Hh p k) (NG G p k) 0 = NG G p k
  · rw [decide_eq_true g, decide_eq_true]
    rw [cntB_0]
    intro j hj
    exact h.2.2.2.1 (j + 1) (by omega) (by omega)
  · rw [decide_eq_false g, decide_eq_false]
    rw [cntB_0]
    intro q
    have h1 : nxt (bkS G Hh p k) (NG G p k) 0 < NG G p k := by omega
    have h2 := h.2.2.2.2 h1
    have h3 := h.2.2.1 (by omega)
    have h4 := q (nxt (bkS G Hh p k) (NG G p k) 0 - 1) (by omega)
    rw [show nxt (bkS G Hh p k) (NG G p k) 0 - 1 + 1 = nxt (bkS G Hh p k) (NG G p k) 0 by omega] at h4
    rw [h2] at h4; exact absurd h4 (by decide)
end V
