/-! ===== what the calls make of the garden ===== -/
theorem upN_eq (G : GN) (a i v : Nat) : upN G a i v a i = v := by unfold upN; rw [if_pos ⟨rfl, rfl⟩]
theorem upN_ne (G : GN) (a i v : Nat) {b j : Nat} (h : b ≠ a ∨ j ≠ i) : upN G a i v b j = G b j := by unfold upN; rw [if_neg (by omega)]
theorem upN_o (G : GN) (a i v : Nat) {b : Nat} (h : b ≠ a) : upN G a i v b = G b := by funext j; exact upN_ne G a i v (Or.inl h)
def setN (G : GN) (c K H : Nat) : GN := upN (upN G 1 c K) 2 c H
theorem setN_o {G : GN} {c K H a : Nat} (h1 : a ≠ 1) (h2 : a ≠ 2) : setN G c K H a = G a := by unfold setN; rw [upN_o _ _ _ _ h2, upN_o _ _ _ _ h1]
theorem setN_1 (G : GN) (c K H i : Nat) : setN G c K H 1 i = if i = c then K else G 1 i := by
  unfold setN
  rw [upN_o _ _ _ _ (by decide)]
  by_cases h : i = c
  · rw [if_pos h, h, upN_eq]
  · rw [if_neg h, upN_ne _ _ _ _ (Or.inr h)]
theorem setN_2 (G : GN) (c K H i : Nat) : setN G c K H 2 i = if i = c then H else G 2 i := by
  unfold setN
  by_cases h : i = c
  · rw [if_pos h, h, upN_eq]
  · rw [if_neg h, upN_ne _ _ _ _ (Or.inr h), upN_o _ _ _ _ (by decide)]
theorem wf_set {G : GN} (hw : wf G) {c K H : Nat} (hc : c < 192) (h4 : G 1 c ≠ 4) (hK : K ≤ 4) (hH : H ≤ 60) (h2 : K = 2 → 1 ≤ H ∧ H ≤ 40) (h0 : K ≠ 2 → K ≠ 4 → H = 0) : wf (setN G c K H) := by
  unfold wf
  rw [setN_o (a := 0) (by decide) (by decide), setN_o (a := 3) (by decide) (by decide), setN_o (a := 4) (by decide) (by decide), setN_o (a := 5) (by decide) (by decide), setN_o (a := 6) (by decide) (by decide), setN_o (a := 7) (by decide) (by decide)]
  refine ⟨hw.1, fun i hi => ?_, fun k hk => ?_, hw.2.2.2.1, hw.2.2.2.2⟩
  · rw [setN_1, setN_2]
    by_cases g : i = c
    · rw [if_pos g, if_pos g]; exact ⟨hK, hH, h2, h0⟩
    · rw [if_neg g, if_neg g]; exact hw.c hi
  · have h := hw.f hk
    rw [setN_1, if_neg (fun q => h4 (by rw [← q]; exact h.2.1))]
    exact h
def T_new (c r : Nat) : GN := fun a i => if a = 0 then (if i = 0 then c else if i = 1 then r else 0) else 0
theorem wf_new {c r : Nat} (h1 : 3 ≤ c) (h2 : c ≤ 16) (h3 : 3 ≤ r) (h4 : r ≤ 12) : wf (T_new c r) := by
  refine ⟨⟨h1, h2, h3, h4, Nat.zero_le _, Nat.zero_le _, Nat.zero_le _⟩, fun i _ => ⟨Nat.zero_le _, Nat.zero_le _, fun q => ?_, fun _ _ => rfl⟩, fun k hk => ?_, fun k hk => ?_, fun k hk => ?_⟩
  · exact absurd (show (0 : Nat) = 2 from q) (by decide)
  · exact absurd (show k < 0 from hk) (by omega)
  · exact absurd (show k < 0 from hk) (by omega)
  · exact absurd (show k < 0 from hk) (by omega)
def rB (c r : Int32) : Bool := decide (3 ≤ c.toInt) && decide (c.toInt ≤ 16) && decide (3 ≤ r.toInt) && decide (r.toInt ≤ 12)
def F_reset (c r : Int32) : Int32 := if rB c r then c * r else -4
def Tf_reset (G : GN) (c r : Int32) : GN := if rB c r then T_new (nN c) (nN r) else G
/-- the error of a change: g says that the values are good -/
def cErr (G : GN) (x y : Int32) (g : Bool) : Int32 := if hasB G x y then (if g then (if G 1 (cN x y) = 4 then -6 else 0) else -4) else -1
theorem cErr_0 {G : GN} {x y : Int32} {g : Bool} (h : cErr G x y g = 0) : hasB G x y = true ∧ g = true ∧ G 1 (cN x y) ≠ 4 := by
  unfold cErr at h
  split at h
  · rename_i h1
    split at h
    · rename_i h2
      split at h
      · exact absurd h (by decide)
      · rename_i h3; exact ⟨h1, h2, h3⟩
    · exact absurd h (by decide)
  · exact absurd h (by decide)
def pkB (k : Int32) : Bool := decide (k = 0) || decide (k = 1) || decide (k = 3)
theorem pkB_n {k : Int32} (h : pkB k = true) : k = nI (nN k) ∧ (nN k = 0 ∨ nN k = 1 ∨ nN k = 3) := by
  unfold pkB at h
  simp only [Bool.or_eq_true, decide_eq_true_eq] at h
  rcases h with (h | h) | h <;> subst h <;> decide
def inB (v : Int32) (a b : Nat) : Bool := decide ((a : Int) ≤ v.toInt) && decide (v.toInt ≤ (b : Int))
theorem inB_n {v : Int32} {a b : Nat} (h : inB v a b = true) : v = nI (nN v) ∧ a ≤ nN v ∧ nN v ≤ b := by
  unfold inB at h
  simp only [Bool.and_eq_true, decide_eq_true_eq] at h
  exact ⟨nN_eq (by omega), by unfold nN; omega, by unfold nN; omega⟩
theorem rB_n {c r : Int32} (h : rB c r = true) : c = nI (nN c) ∧ r = nI (nN r) ∧ 3 ≤ nN c ∧ nN c ≤ 16 ∧ 3 ≤ nN r ∧ nN r ≤ 12 := by
  unfold rB at h
  simp only [Bool.and_eq_true, decide_eq_true_eq] at h
  exact ⟨nN_eq (by omega), nN_eq (by omega), by unfold nN; omega, by unfold nN; omega, by unfold nN; omega, by unfold nN; omega⟩
def F_lay (G : GN) (x y k : Int32) : Int32 := if cErr G x y (pkB k) = 0 then nI (G 1 (cN x y)) else cErr G x y (pkB k)
def Tf_lay (G : GN) (x y k : Int32) : GN := if cErr G x y (pkB k) = 0 then setN G (cN x y) (nN k) 0 else G
theorem wf_lay {G : GN} (hw : wf G) (x y k : Int32) : wf (Tf_lay G x y k) := by
  unfold Tf_lay
  split
  · rename_i h
    obtain ⟨h1, h2, h3⟩ := cErr_0 h
    have h4 := (pkB_n h2).2
    exact wf_set hw (has_c hw h1) h3 (by omega) (by omega) (fun q => by omega) (fun _ _ => rfl)
  · exact hw
def F_plant (G : GN) (x y h : Int32) : Int32 := if cErr G x y (inB h 1 40) = 0 then nI (G 2 (cN x y)) else cErr G x y (inB h 1 40)
def Tf_plant (G : GN) (x y h : Int32) : GN := if cErr G x y (inB h 1 40) = 0 then setN G (cN x y) 2 (nN h) else G
theorem wf_plant {G : GN} (hw : wf G) (x y k : Int32) : wf (Tf_plant G x y k) := by
  unfold Tf_plant
  split
  · rename_i h
    obtain ⟨h1, h2, h3⟩ := cErr_0 h
    have h4 := (inB_n h2).2
    exact wf_set hw (has_c hw h1) h3 (by decide) (by omega) (fun q => by omega) (fun q _ => absurd rfl q)
  · exact hw
def T_add (G : GN) (c h w : Nat) : GN := upN (upN (upN (setN G c 4 h) 3 (G 0 2) c) 4 (G 0 2) w) 0 2 (G 0 2 + 1)
theorem T_add_0 (G : GN) (c h w i : Nat) : T_add G c h w 0 i = if i = 2 then G 0 2 + 1 else G 0 i := by
  unfold T_add
  by_cases g : i = 2
  · rw [if_pos g, g, upN_eq]
  · rw [if_neg g, upN_ne _ _ _ _ (Or.inr g), upN_o _ _ _ _ (by decide), upN_o _ _ _ _ (by decide), setN_o (by decide) (by decide)]
theorem T_add_12 (G : GN) (c h w : Nat) {a : Nat} (ha : a ≠ 0) (ha3 : a ≠ 3) (ha4 : a ≠ 4) : T_add G c h w a = setN G c 4 h a := by
  unfold T_add
  rw [upN_o _ _ _ _ ha, upN_o _ _ _ _ ha4, upN_o _ _ _ _ ha3]
theorem T_add_3 (G : GN) (c h w i : Nat) : T_add G c h w 3 i = if i = G 0 2 then c else G 3 i := by
  unfold T_add
  rw [upN_o _ _ _ _ (by decide), upN_o _ _ _ _ (by decide)]
  by_cases g : i = G 0 2
  · rw [if_pos g, g, upN_eq]
  · rw [if_neg g, upN_ne _ _ _ _ (Or.inr g), setN_o (by decide) (by decide)]
theorem T_add_4 (G : GN) (c h w i : Nat) : T_add G c h w 4 i = if i = G 0 2 then w else G 4 i := by
  unfold T_add
  rw [upN_o _ _ _ _ (by decide)]
  by_cases g : i = G 0 2
  · rw [if_pos g, g, upN_eq]
  · rw [if_neg g, upN_ne _ _ _ _ (Or.inr g), upN_o _ _ _ _ (by decide), setN_o (by decide) (by decide)]
def gdB (h w : Int32) : Bool := inB h 0 60 && inB w 1 9
def F_add (G : GN) (x y h w : Int32) : Int32 := if cErr G x y (gdB h w) = 0 then (if G 0 2 < 10 then nI (G 0 2) else -5) else cErr G x y (gdB h w)
def Tf_add (G : GN) (x y h w : Int32) : GN := if cErr G x y (gdB h w) = 0 then (if G 0 2 < 10 then T_add G (cN x y) (nN h) (nN w) else G) else G
theorem wf_add {G : GN} (hw : wf G) (x y h w : Int32) : wf (Tf_add G x y h w) := by
  unfold Tf_add
  split
  · rename_i q
    split
    · rename_i q2
      obtain ⟨h1, h2, h3⟩ := cErr_0 q
      unfold gdB at h2
      rw [Bool.and_eq_true] at h2
      have a1 := (inB_n h2.1).2
      have a2 := (inB_n h2.2).2
      have hc := has_c hw h1
      have hs := wf_set (K := 4) (H := nN h) hw hc h3 (by decide) (by omega) (fun z => absurd z (by decide)) (fun _ z => absurd rfl z)
      have s0 : setN G (cN x y) 4 (nN h) 0 = G 0 := setN_o (by decide) (by decide)
      unfold wf
      rw [T_add_12 (a := 1) _ _ _ _ (by decide) (by decide) (by decide), T_add_12 (a := 2) _ _ _ _ (by decide) (by decide) (by decide), T_add_12 (a := 5) _ _ _ _ (by decide) (by decide) (by decide), T_add_12 (a := 6) _ _ _ _ (by decide) (by decide) (by decide), T_add_12 (a := 7) _ _ _ _ (by decide) (by decide) (by decide)]
      simp only [T_add_0, T_add_3, T_add_4]
      have hs1 := hs.1
      rw [s0] at hs1
      refine ⟨by simp only [if_true]; simp; omega, hs.2.1, fun k hk => ?_, ?_, ?_⟩
      · simp only [if_true] at hk
        by_cases g : k = G 0 2
        · rw [if_pos g, if_pos g, setN_1, if_pos rfl]; exact ⟨hc, rfl, by omega⟩
        · rw [if_neg g, if_neg g]
          have := hs.2.2.1 k (by rw [s0]; omega)
          rw [setN_o (a := 3) (by decide) (by decide), setN_o (a := 4) (by decide) (by decide)] at this
          exact this
      · intro i hi
        have := hs.2.2.2.1 i (by rw [s0]; simpa using hi)
        exact this
      · intro i hi
        have := hs.2.2.2.2 i (by rw [s0]; simpa using hi)
        rw [s0] at this
        refine ⟨this.1, ?_⟩
        simp only [if_true]
        omega
    · exact hw
  · exact hw
def nbB (a b : Nat) : Bool := decide (dXn b a + dYn b a = 1)
def T_walk (G : GN) (c : Nat) : GN := upN (upN G 5 (G 0 3) c) 0 3 (G 0 3 + 1)
theorem T_walk_0 (G : GN) (c i : Nat) : T_walk G c 0 i = if i = 3 then G 0 3 + 1 else G 0 i := by
  unfold T_walk
  by_cases g : i = 3
  · rw [if_pos g, g, upN_eq]
  · rw [if_neg g, upN_ne _ _ _ _ (Or.inr g), upN_o _ _ _ _ (by decide)]
theorem T_walk_5 (G : GN) (c i : Nat) : T_walk G c 5 i = if i = G 0 3 then c else G 5 i := by
  unfold T_walk
  rw [upN_o _ _ _ _ (by decide)]
  by_cases g : i = G 0 3
  · rw [if_pos g, g, upN_eq]
  · rw [if_neg g, upN_ne _ _ _ _ (Or.inr g)]
theorem T_walk_o (G : GN) (c : Nat) {a : Nat} (h0 : a ≠ 0) (h5 : a ≠ 5) : T_walk G c a = G a := by unfold T_walk; rw [upN_o _ _ _ _ h0, upN_o _ _ _ _ h5]
/-- the last place is no neighbour -/
def farB (G : GN) (c : Nat) : Bool := decide (0 < G 0 3) && !nbB (G 5 (G 0 3 - 1)) c
def F_walkTo (G : GN) (x y : Int32) : Int32 := if pErr G x y = 0 then (if farB G (cN x y) then -6 else (if G 0 3 < 40 then nI (G 0 3 + 1) else -5)) else pErr G x y
def Tf_walkTo (G : GN) (x y : Int32) : GN := if pErr G x y = 0 then (if farB G (cN x y) then G else (if G 0 3 < 40 then T_walk G (cN x y) else G)) else G
theorem wf_walkTo {G : GN} (hw : wf G) (x y : Int32) : wf (Tf_walkTo G x y) := by
  unfold Tf_walkTo
  split
  · rename_i q
    split
    · exact hw
    · split
      · rename_i q3
        have hc := has_c hw (pErr_0 q).1
        have h1 := hw.1
        unfold wf
        rw [T_walk_o (a := 1) _ _ (by decide) (by decide), T_walk_o (a := 2) _ _ (by decide) (by decide), T_walk_o (a := 3) _ _ (by decide) (by decide), T_walk_o (a := 4) _ _ (by decide) (by decide), T_walk_o (a := 6) _ _ (by decide) (by decide), T_walk_o (a := 7) _ _ (by decide) (by decide)]
        simp only [T_walk_0, T_walk_5]
        refine ⟨by simp; omega, hw.2.1, fun k hk => hw.2.2.1 k (by simpa using hk), fun i hi => ?_, fun i hi => ?_⟩
        · simp only [if_true] at hi
          by_cases g : i = G 0 3
          · rw [if_pos g]; exact hc
          · rw [if_neg g]; exact hw.2.2.2.1 i (by omega)
        · have := hw.2.2.2.2 i (by simpa using hi)
          simpa using this
      · exact hw
  · exact hw
theorem wf_cnt3 {G : GN} (hw : wf G) {n : Nat} (hn : n ≤ G 0 3) : wf (upN G 0 3 n) := by
  have h1 := hw.1
  have e : ∀ i, upN G 0 3 n 0 i = if i = 3 then n else G 0 i := fun i => by
    by_cases g : i = 3
    · rw [if_pos g, g, upN_eq]
    · rw [if_neg g, upN_ne _ _ _ _ (Or.inr g)]
  unfold wf
  rw [upN_o (b := 1) _ _ _ _ (by decide), upN_o (b := 2) _ _ _ _ (by decide), upN_o (b := 3) _ _ _ _ (by decide), upN_o (b := 4) _ _ _ _ (by decide), upN_o (b := 5) _ _ _ _ (by decide), upN_o (b := 6) _ _ _ _ (by decide), upN_o (b := 7) _ _ _ _ (by decide)]
  simp only [e]
  refine ⟨by simp; omega, hw.2.1, fun k hk => hw.2.2.1 k (by simpa using hk), fun i hi => hw.2.2.2.1 i ?_, fun i hi => ?_⟩
  · simp only [if_true] at hi; omega
  · have := hw.2.2.2.2 i (by simpa using hi)
    simpa using this
def wbB (G : GN) (n : Int32) : Bool := decide (0 ≤ n.toInt) && decide (n.toInt ≤ (G 0 3 : Int))
def F_walkBack (G : GN) (n : Int32) : Int32 := if wbB G n then nI (G 0 3 - nN n) else -4
def Tf_walkBack (G : GN) (n : Int32) : GN := if wbB G n then upN G 0 3 (G 0 3 - nN n) else G
theorem wf_walkBack {G : GN} (hw : wf G) (n : Int32) : wf (Tf_walkBack G n) := by
  unfold Tf_walkBack
  split
  · exact wf_cnt3 hw (by omega)
  · exact hw
def T_wish (G : GN) (c k : Nat) : GN := upN (upN (upN G 6 (G 0 4) c) 7 (G 0 4) k) 0 4 (G 0 4 + 1)
theorem T_wish_0 (G : GN) (c k i : Nat) : T_wish G c k 0 i = if i = 4 then G 0 4 + 1 else G 0 i := by
  unfold T_wish
  by_cases g : i = 4
  · rw [if_pos g, g, upN_eq]
  · rw [if_neg g, upN_ne _ _ _ _ (Or.inr g), upN_o _ _ _ _ (by decide), upN_o _ _ _ _ (by decide)]
theorem T_wish_6 (G : GN) (c k i : Nat) : T_wish G c k 6 i = if i = G 0 4 then c else G 6 i := by
  unfold T_wish
  rw [upN_o _ _ _ _ (by decide), upN_o _ _ _ _ (by decide)]
  by_cases g : i = G 0 4
  · rw [if_pos g, g, upN_eq]
  · rw [if_neg g, upN_ne _ _ _ _ (Or.inr g)]
theorem T_wish_7 (G : GN) (c k i : Nat) : T_wish G c k 7 i = if i = G 0 4 then k else G 7 i := by
  unfold T_wish
  rw [upN_o _ _ _ _ (by decide)]
  by_cases g : i = G 0 4
  · rw [if_pos g, g, upN_eq]
  · rw [if_neg g, upN_ne _ _ _ _ (Or.inr g), upN_o _ _ _ _ (by decide)]
theorem T_wish_o (G : GN) (c k : Nat) {a : Nat} (h0 : a ≠ 0) (h6 : a ≠ 6) (h7 : a ≠ 7) : T_wish G c k a = G a := by unfold T_wish; rw [upN_o _ _ _ _ h0, upN_o _ _ _ _ h7, upN_o _ _ _ _ h6]
def F_wish (G : GN) (x y f : Int32) : Int32 := if vErr G x y f = 0 then (if G 0 4 < 10 then nI (G 0 4) else -5) else vErr G x y f
def Tf_wish (G : GN) (x y f : Int32) : GN := if vErr G x y f = 0 then (if G 0 4 < 10 then T_wish G (cN x y) (nN f) else G) else G
theorem wf_wish {G : GN} (hw : wf G) (x y f : Int32) : wf (Tf_wish G x y f) := by
  unfold Tf_wish
  split
  · rename_i q
    split
    · rename_i q2
      obtain ⟨h1, h2, h3⟩ := vErr_0 q
      have hc := has_c hw h1
      have hk := (ft_k h2).2
      have g1 := hw.1
      unfold wf
      rw [T_wish_o (a := 1) _ _ _ (by decide) (by decide) (by decide), T_wish_o (a := 2) _ _ _ (by decide) (by decide) (by decide), T_wish_o (a := 3) _ _ _ (by decide) (by decide) (by decide), T_wish_o (a := 4) _ _ _ (by decide) (by decide) (by decide), T_wish_o (a := 5) _ _ _ (by decide) (by decide) (by decide)]
      simp only [T_wish_0, T_wish_6, T_wish_7]
      refine ⟨by simp; omega, hw.2.1, fun k9 hk9 => hw.2.2.1 k9 (by simpa using hk9), fun i hi => hw.2.2.2.1 i (by simpa using hi), fun i hi => ?_⟩
      simp only [if_true] at hi
      by_cases g : i = G 0 4
      · rw [if_pos g, if_pos g]; exact ⟨hc, by simpa using hk⟩
      · rw [if_neg g, if_neg g]
        have := hw.2.2.2.2 i (by omega)
        simpa using this
    · exact hw
  · exact hw
def T_clear (G : GN) : GN := upN G 0 4 0
theorem T_clear_0 (G : GN) (i : Nat) : T_clear G 0 i = if i = 4 then 0 else G 0 i := by
  unfold T_clear
  by_cases g : i = 4
  · rw [if_pos g, g, upN_eq]
  · rw [if_neg g, upN_ne _ _ _ _ (Or.inr g)]
theorem T_clear_o (G : GN) {a : Nat} (h : a ≠ 0) : T_clear G a = G a := by unfold T_clear; rw [upN_o _ _ _ _ h]
theorem wf_clear {G : GN} (hw : wf G) : wf (T_clear G) := by
  have h1 := hw.1
  unfold wf
  rw [T_clear_o (a := 1) _ (by decide), T_clear_o (a := 2) _ (by decide), T_clear_o (a := 3) _ (by decide), T_clear_o (a := 4) _ (by decide), T_clear_o (a := 5) _ (by decide), T_clear_o (a := 6) _ (by decide), T_clear_o (a := 7) _ (by decide)]
  simp only [T_clear_0]
  exact ⟨by simp; omega, hw.2.1, fun k hk => hw.2.2.1 k (by simpa using hk), fun i hi => hw.2.2.2.1 i (by simpa using hi), fun i hi => absurd hi (by simp)⟩
def F_kind (G : GN) (x y : Int32) : Int32 := if hasB G x y then nI (G 1 (cN x y)) else -1
def F_height (G : GN) (x y : Int32) : Int32 := if hasB G x y then nI (G 2 (cN x y)) else -1
def hdB (G : GN) (c : Nat) : Bool := decide (G 1 c = 2)
def F_count (G : GN) (w : Int32) : Int32 := if w = 0 then nI (G 0 2) else if w = 1 then nI (cntB (hdB G) 192) else if w = 2 then nI (G 0 3) else if w = 3 then nI (G 0 4) else -4
