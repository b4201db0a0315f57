/-! ===== what the calls answer, in the garden's numbers ===== -/
def nN (x : Int32) : Nat := x.toInt.toNat
def cN (x y : Int32) : Nat := 16 * nN y + nN x
def hasB (G : GN) (x y : Int32) : Bool := decide (0 ≤ x.toInt) && decide (x.toInt < G 0 0) && decide (0 ≤ y.toInt) && decide (y.toInt < G 0 1)
def ftB (G : GN) (f : Int32) : Bool := decide (0 ≤ f.toInt) && decide (f.toInt < G 0 2)
theorem nN_eq {x : Int32} (h : 0 ≤ x.toInt) : x = nI (nN x) := Int32.toInt_inj.mp (by
  have := Int32.toInt_lt x
  unfold nN; rw [nI_toInt (by omega)]; omega)
theorem nN_nI {n : Nat} (h : n < 2 ^ 31) : nN (nI n) = n := by unfold nN; rw [nI_toInt h]; rfl
theorem has_x {G : GN} {x y : Int32} (h : hasB G x y = true) : x = nI (nN x) ∧ y = nI (nN y) ∧ nN x < G 0 0 ∧ nN y < G 0 1 := by
  unfold hasB at h
  simp only [Bool.and_eq_true, decide_eq_true_eq] at h
  refine ⟨nN_eq h.1.1.1, nN_eq h.1.2, ?_, ?_⟩ <;> unfold nN <;> omega
theorem has_c {G : GN} (hw : wf G) {x y : Int32} (h : hasB G x y = true) : cN x y < 192 := by
  have h1 := has_x h
  have h2 := hw.1
  unfold cN; omega
theorem has_xy {G : GN} (hw : wf G) {x y : Int32} (h : hasB G x y = true) : cN x y % 16 = nN x ∧ cN x y / 16 = nN y := by
  have h1 := has_x h
  have h2 := hw.1
  unfold cN; omega
theorem ft_k {G : GN} {f : Int32} (h : ftB G f = true) : f = nI (nN f) ∧ nN f < G 0 2 := by
  unfold ftB at h
  simp only [Bool.and_eq_true, decide_eq_true_eq] at h
  exact ⟨nN_eq h.1, by unfold nN; omega⟩
/-- the place's error, the view's error -/
def pErr (G : GN) (x y : Int32) : Int32 := if hasB G x y then (if plB G (cN x y) then 0 else -3) else -1
def vErr (G : GN) (x y f : Int32) : Int32 := if hasB G x y then (if ftB G f then (if plB G (cN x y) then 0 else -3) else -2) else -1
theorem vErr_0 {G : GN} {x y f : Int32} (h : vErr G x y f = 0) : hasB G x y = true ∧ ftB G f = true ∧ plB G (cN x y) = true := by
  unfold vErr at h
  split at h
  · rename_i h1
    split at h
    · rename_i h2
      split at h
      · rename_i h3; exact ⟨h1, h2, h3⟩
      · exact absurd h (by decide)
    · exact absurd h (by decide)
  · exact absurd h (by decide)
theorem pErr_0 {G : GN} {x y : Int32} (h : pErr G x y = 0) : hasB G x y = true ∧ plB G (cN x y) = true := by
  unfold pErr at h
  split at h
  · rename_i h1
    split at h
    · rename_i h3; exact ⟨h1, h3⟩
    · exact absurd h (by decide)
  · exact absurd h (by decide)
theorem pErr_1 {G : GN} {x y : Int32} (h1 : hasB G x y = true) (h2 : plB G (cN x y) = true) : pErr G x y = 0 := by unfold pErr; rw [if_pos h1, if_pos h2]
/-! the class's tests are these -/
theorem hasC {G : GN} {S : GS} (hw : wf G) (he : encC G S) (x y : Int32) : fX1_hasCell S x y = if hasB G x y then 1 else 0 := by
  have hw1 := hw.1
  unfold fX1_hasCell hasB
  rw [he.1.1, he.1.2.1]
  by_cases h1 : x < 0
  · rw [if_pos h1]
    rw [Int32.lt_iff_toInt_lt, Int32.toInt_zero] at h1
    rw [decide_eq_false (show ¬ 0 ≤ x.toInt by omega)]; rfl
  · rw [if_neg h1]
    rw [Int32.lt_iff_toInt_lt, Int32.toInt_zero] at h1
    rw [decide_eq_true (show 0 ≤ x.toInt by omega)]
    by_cases h2 : nI (G 0 0) ≤ x
    · rw [if_pos h2]
      rw [Int32.le_iff_toInt_le, nI_toInt (by omega)] at h2
      rw [decide_eq_false (show ¬ x.toInt < G 0 0 by omega)]; rfl
    · rw [if_neg h2]
      rw [Int32.le_iff_toInt_le, nI_toInt (by omega)] at h2
      rw [decide_eq_true (show x.toInt < G 0 0 by omega)]
      by_cases h3 : y < 0
      · rw [if_pos h3]
        rw [Int32.lt_iff_toInt_lt, Int32.toInt_zero] at h3
        rw [decide_eq_false (show ¬ 0 ≤ y.toInt by omega)]; rfl
      · rw [if_neg h3]
        rw [Int32.lt_iff_toInt_lt, Int32.toInt_zero] at h3
        rw [decide_eq_true (show 0 ≤ y.toInt by omega)]
        by_cases h4 : nI (G 0 1) ≤ y
        · rw [if_pos h4]
          rw [Int32.le_iff_toInt_le, nI_toInt (by omega)] at h4
          rw [decide_eq_false (show ¬ y.toInt < G 0 1 by omega)]; rfl
        · rw [if_neg h4]
          rw [Int32.le_iff_toInt_le, nI_toInt (by omega)] at h4
          rw [decide_eq_true (show y.toInt < G 0 1 by omega)]; rfl
theorem ite10 {P : Prop} [Decidable P] : (if P then (1 : Int32) else 0) = 0 ↔ ¬ P := by
  by_cases h : P
  · rw [if_pos h]; exact ⟨fun q => absurd q (by decide), fun q => absurd h q⟩
  · rw [if_neg h]; exact ⟨fun _ => h, fun _ => rfl⟩
theorem ite01 {P : Prop} [Decidable P] : (if P then (0 : Int32) else 1) = 0 ↔ P := by
  by_cases h : P
  · rw [if_pos h]; exact ⟨fun _ => h, fun _ => rfl⟩
  · rw [if_neg h]; exact ⟨fun q => absurd q (by decide), fun q => absurd q h⟩
theorem kindE {n : Nat} (h : n ≤ 60) (k : Nat) (hk : k ≤ 60) {v : Int32} (hv : v = nI k) : nI n = v ↔ n = k := by rw [hv]; exact nI_eq (by omega) (by omega)
theorem pkC {n : Nat} (h : n ≤ 60) : fX1_isPlaceKind (nI n) = if (decide (n = 0) || decide (n = 1) || decide (n = 3)) then 1 else 0 := by
  unfold fX1_isPlaceKind
  simp only [kindE h 0 (by decide) (show (0 : Int32) = nI 0 from rfl), kindE h 1 (by decide) (show (1 : Int32) = nI 1 from rfl), kindE h 3 (by decide) (show (3 : Int32) = nI 3 from rfl)]
  by_cases a : n = 0
  · simp [a]
  · by_cases b : n = 1
    · simp [b]
    · by_cases c : n = 3 <;> simp [a, b, c]
theorem placeC {G : GN} {S : GS} (hw : wf G) (he : encC G S) {c : Nat} (hc : c < 192) : fX1_isPlace S (nI c) = if plB G c then 1 else 0 := by
  unfold fX1_isPlace
  rw [icn_nI hc, if_neg (by decide), nI_clamp (by omega), he.2.1 c hc, pkC (by have := (hw.c hc).1; omega)]
  show (if (if plB G c = true then (1 : Int32) else 0) = 0 then (0 : Int32) else 1) = _
  cases plB G c <;> rfl
theorem cellC {G : GN} {x y : Int32} (h : hasB G x y = true) : fX1_cellAt x y = nI (cN x y) := by
  have h1 := has_x h
  unfold cN
  rw [← cellAt_nI, ← h1.1, ← h1.2.1]
theorem ftC {G : GN} {S : GS} (hw : wf G) (he : encC G S) (f : Int32) : fX1_hasFeature S f = if ftB G f then 1 else 0 := by
  have hw1 := hw.1
  unfold fX1_hasFeature ftB
  rw [he.1.2.2.1]
  by_cases h1 : f < 0
  · rw [if_pos h1]
    rw [Int32.lt_iff_toInt_lt, Int32.toInt_zero] at h1
    rw [decide_eq_false (show ¬ 0 ≤ f.toInt by omega)]; rfl
  · rw [if_neg h1]
    rw [Int32.lt_iff_toInt_lt, Int32.toInt_zero] at h1
    rw [decide_eq_true (show 0 ≤ f.toInt by omega)]
    by_cases h2 : nI (G 0 2) ≤ f
    · rw [if_pos h2]
      rw [Int32.le_iff_toInt_le, nI_toInt (by omega)] at h2
      rw [decide_eq_false (show ¬ f.toInt < G 0 2 by omega)]; rfl
    · rw [if_neg h2]
      rw [Int32.le_iff_toInt_le, nI_toInt (by omega)] at h2
      rw [decide_eq_true (show f.toInt < G 0 2 by omega)]; rfl
theorem pErrC {G : GN} {S : GS} (hw : wf G) (he : encC G S) (x y : Int32) : fX1_placeError S x y = pErr G x y := by
  unfold fX1_placeError pErr
  rw [hasC hw he]
  by_cases h : hasB G x y = true
  · rw [if_pos h, if_pos h, if_neg (by decide), cellC h, placeC hw he (has_c hw h)]
    by_cases h2 : plB G (cN x y) = true
    · rw [if_pos h2, if_pos h2]; rfl
    · rw [if_neg h2, if_neg h2]; rfl
  · rw [if_neg h, if_neg h]; rfl
theorem vErrC {G : GN} {S : GS} (hw : wf G) (he : encC G S) (x y f : Int32) : fX1_viewError S x y f = vErr G x y f := by
  unfold fX1_viewError vErr
  rw [hasC hw he, ftC hw he, pErrC hw he]
  by_cases h : hasB G x y = true
  · rw [if_pos h, if_pos h, if_neg (by decide)]
    by_cases h2 : ftB G f = true
    · rw [if_pos h2, if_pos h2, if_neg (by decide)]; unfold pErr; rw [if_pos h]
    · rw [if_neg h2, if_neg h2]; rfl
  · rw [if_neg h, if_neg h]; rfl
/-! the reference's -/
theorem encM.ok {G : GN} {S : GS} (h : encM G S) (hw : wf G) : okM S := ⟨G 0 0, G 0 1, hw.1.1, hw.1.2.1, hw.1.2.2.1, hw.1.2.2.2.1, h.1.1, h.1.2.1⟩
theorem in_nI {v : Int32} {n : Nat} (hn : n < 2 ^ 31) : fX2_in v 0 (nI n) = if (decide (0 ≤ v.toInt) && decide (v.toInt ≤ n)) then 1 else 0 := by
  unfold fX2_in
  by_cases h1 : v < 0
  · rw [if_pos h1]
    rw [Int32.lt_iff_toInt_lt, Int32.toInt_zero] at h1
    rw [decide_eq_false (show ¬ 0 ≤ v.toInt by omega)]; rfl
  · rw [if_neg h1]
    rw [Int32.lt_iff_toInt_lt, Int32.toInt_zero] at h1
    rw [decide_eq_true (show 0 ≤ v.toInt by omega)]
    by_cases h2 : nI n < v
    · rw [if_pos h2]
      rw [Int32.lt_iff_toInt_lt, nI_toInt hn] at h2
      rw [decide_eq_false (show ¬ v.toInt ≤ n by omega)]; rfl
    · rw [if_neg h2]
      rw [Int32.lt_iff_toInt_lt, nI_toInt hn] at h2
      rw [decide_eq_true (show v.toInt ≤ n by omega)]; rfl
theorem in_m1 {v : Int32} {n : Nat} (hn : n < 2 ^ 31) : fX2_in v 0 (nI n - 1) = if (decide (0 ≤ v.toInt) && decide (v.toInt < n)) then 1 else 0 := by
  rcases Nat.eq_zero_or_pos n with h | h
  · subst h
    have e : fX2_in v 0 (nI 0 - 1) = 0 := by
      unfold fX2_in
      split
      · rfl
      · rename_i q
        rw [if_pos]
        rw [Int32.lt_iff_toInt_lt, Int32.toInt_zero] at q
        rw [Int32.lt_iff_toInt_lt, show (nI 0 - 1).toInt = -1 by decide]; omega
    rw [e]
    by_cases g : 0 ≤ v.toInt
    · rw [decide_eq_false (show ¬ v.toInt < ((0 : Nat) : Int) by omega), Bool.and_false]; rfl
    · rw [decide_eq_false g]; rfl
  · rw [nI_m1 h, in_nI (by omega)]
    have : decide (v.toInt ≤ ((n - 1 : Nat) : Int)) = decide (v.toInt < (n : Int)) := by
      by_cases g : v.toInt < (n : Int)
      · rw [decide_eq_true g, decide_eq_true (by omega)]
      · rw [decide_eq_false g, decide_eq_false (by omega)]
    rw [this]
theorem noC {G : GN} {S : GS} (hw : wf G) (he : encM G S) (x y : Int32) : fX2_noCell S x y = if hasB G x y then 0 else 1 := by
  have hw1 := hw.1
  unfold fX2_noCell hasB
  rw [he.1.1, he.1.2.1, in_m1 (by omega), in_m1 (by omega)]
  cases decide (0 ≤ x.toInt) <;> cases decide (x.toInt < (G 0 0 : Int)) <;> cases decide (0 ≤ y.toInt) <;> cases decide (y.toInt < (G 0 1 : Int)) <;> rfl
theorem noF {G : GN} {S : GS} (hw : wf G) (he : encM G S) (f : Int32) : fX2_noFeature S f = if ftB G f then 0 else 1 := by
  have hw1 := hw.1
  unfold fX2_noFeature ftB
  rw [he.1.2.2.1, in_m1 (by omega)]
  cases decide (0 ≤ f.toInt) <;> cases decide (f.toInt < (G 0 2 : Int)) <;> rfl
theorem cellM {G : GN} {x y : Int32} (h : hasB G x y = true) : 16 * y + x = nI (cN x y) := cellC h
theorem placeM {G : GN} {S : GS} (hw : wf G) (he : encM G S) {c : Nat} (hc : c < 192) {x y : Int32} (hi : 16 * y + x = nI c) : fX2_isPlace S x y = if plB G c then 1 else 0 := by
  unfold fX2_isPlace
  have h := (hw.c hc).1
  rw [hi, nI_clamp (by omega), he.2.1 c hc]
  simp only [kindE (show G 1 c ≤ 60 by omega) 0 (by decide) (show (0 : Int32) = nI 0 from rfl), kindE (show G 1 c ≤ 60 by omega) 1 (by decide) (show (1 : Int32) = nI 1 from rfl), kindE (show G 1 c ≤ 60 by omega) 3 (by decide) (show (3 : Int32) = nI 3 from rfl)]
  unfold plB
  by_cases a : G 1 c = 0
  · simp [a]
  · by_cases b : G 1 c = 1
    · simp [b]
    · by_cases d : G 1 c = 3 <;> simp [a, b, d]
theorem vErrM {G : GN} {S : GS} (hw : wf G) (he : encM G S) (x y f : Int32) : fX2_viewBarred S x y f = vErr G x y f := by
  unfold fX2_viewBarred vErr
  rw [noC hw he, noF hw he]
  by_cases h : hasB G x y = true
  · rw [if_pos h, if_pos h, if_pos rfl]
    by_cases h2 : ftB G f = true
    · rw [if_pos h2, if_pos h2, if_pos rfl, placeM hw he (has_c hw h) (cellM h)]
      by_cases h3 : plB G (cN x y) = true
      · rw [if_pos h3, if_pos h3]; rfl
      · rw [if_neg h3, if_neg h3]; rfl
    · rw [if_neg h2, if_neg h2]; rfl
  · rw [if_neg h, if_neg h]; rfl
