/-! ===== the line's fields, in numbers ===== -/
theorem nI_one : (1 : Int32) = nI 1 := rfl
theorem nI_two : (2 : Int32) = nI 2 := rfl
theorem half_nI (i : Nat) : 2 * nI i + 1 = nI (2 * i + 1) := by rw [nI_two, pk_mul, nI_one, nI_add]
theorem mx_nI {n : Nat} (h : n < 2 ^ 31) : (if 1 < nI n then nI n else 1) = nI (mx1 n) := by
  unfold mx1
  by_cases h0 : n = 0
  · subst h0; rfl
  · rw [if_neg h0]
    by_cases h1 : n = 1
    · subst h1; rfl
    · rw [if_pos]
      rw [nI_one]; exact nI_lt (by omega) h
theorem sub_pos {a b : Nat} (ha : a < 2 ^ 30) (hb : b < 2 ^ 30) : 0 < nI a - nI b ↔ b < a := by
  rw [Int32.lt_iff_toInt_lt, pk_sub_toInt ha hb, Int32.toInt_zero]; omega
theorem sub_neg {a b : Nat} (ha : a < 2 ^ 30) (hb : b < 2 ^ 30) : nI a - nI b < 0 ↔ a < b := by
  rw [Int32.lt_iff_toInt_lt, pk_sub_toInt ha hb, Int32.toInt_zero]; omega
theorem sub_nn {a b : Nat} (ha : a < 2 ^ 30) (hb : b < 2 ^ 30) : 0 ≤ nI a - nI b ↔ b ≤ a := by
  rw [Int32.le_iff_toInt_le, pk_sub_toInt ha hb, Int32.toInt_zero]; omega
theorem bnd2 {i dy : Nat} (hi : i ≤ 20) (hd : dy ≤ 20) : (2 * i + 1) * dy < 2 ^ 30 := by
  have := Nat.mul_le_mul (show 2 * i + 1 ≤ 41 by omega) hd
  omega
def LN (a0 a1 a2 a5 a6 : Int32) (dx dy : Nat) (q : Nat × Nat × Nat) : Nat → Int32 := ln a0 a1 a2 (nI dx) (nI dy) a5 a6 (nI q.1) (nI q.2.1) (nI q.2.2) (nI (lft dx dy q.1 q.2.1)) (nI ((2 * q.1 + 1) * dy) - nI ((2 * q.2.1 + 1) * dx))
theorem look_LN {a0 a1 a2 a5 a6 x y : Int32} {dx dy i j e : Nat} (h1 : dx < 16) (h2 : dy < 12) (hi : i ≤ 16) (hj : j ≤ 16) : gX0_lookAhead (ln a0 a1 a2 (nI dx) (nI dy) a5 a6 (nI i) (nI j) (nI e) x y) = LN a0 a1 a2 a5 a6 dx dy (i, j, e) := by
  show (if 0 < (2 * nI i + 1) * nI dy - (2 * nI j + 1) * nI dx then ln a0 a1 a2 (nI dx) (nI dy) a5 a6 (nI i) (nI j) (nI e) ((2 * nI j + 1) * (if 1 < nI dx then nI dx else 1)) ((2 * nI i + 1) * nI dy - (2 * nI j + 1) * nI dx) else ln a0 a1 a2 (nI dx) (nI dy) a5 a6 (nI i) (nI j) (nI e) ((2 * nI i + 1) * (if 1 < nI dy then nI dy else 1)) ((2 * nI i + 1) * nI dy - (2 * nI j + 1) * nI dx)) = ln a0 a1 a2 (nI dx) (nI dy) a5 a6 (nI i) (nI j) (nI e) (nI (lft dx dy i j)) (nI ((2 * i + 1) * dy) - nI ((2 * j + 1) * dx))
  rw [half_nI, half_nI, mx_nI (by omega), mx_nI (by omega), pk_mul, pk_mul, pk_mul, pk_mul]
  unfold lft
  by_cases h : (2 * i + 1) * dy ≤ (2 * j + 1) * dx
  · rw [if_neg (fun q => by have := (sub_pos (bnd2 (by omega) (by omega)) (bnd2 (by omega) (by omega))).mp q; omega), if_pos h]
  · rw [if_pos ((sub_pos (bnd2 (by omega) (by omega)) (bnd2 (by omega) (by omega))).mpr (by omega)), if_neg h]
theorem arr_LN {a0 a1 a2 a5 a6 : Int32} {dx dy : Nat} {q : Nat × Nat × Nat} (h1 : dx < 16) (h2 : dy < 12) (hi : q.1 ≤ 16) (hj : q.2.1 ≤ 16) : fX0_hasArrived (LN a0 a1 a2 a5 a6 dx dy q) = if arrv dx dy q then 1 else 0 := by
  show (if nI q.1 < nI dx then (0 : Int32) else (if nI q.2.1 < nI dy then 0 else 1)) = _
  unfold arrv
  by_cases g1 : dx ≤ q.1
  · rw [if_neg (nI_nlt g1 (by omega))]
    by_cases g2 : dy ≤ q.2.1
    · rw [if_neg (nI_nlt g2 (by omega))]; simp [g1, g2]
    · rw [if_pos (nI_lt (by omega) (by omega))]; simp [g2]
  · rw [if_pos (nI_lt (by omega) (by omega))]; simp [g1]
theorem adv_LN {a0 a1 a2 a5 a6 : Int32} {dx dy : Nat} {q : Nat × Nat × Nat} (h1 : dx < 16) (h2 : dy < 12) (hi : q.1 < 16) (hj : q.2.1 < 16) (ha : arrv dx dy q = false) :
    gX0_advance (LN a0 a1 a2 a5 a6 dx dy q) = LN a0 a1 a2 a5 a6 dx dy (stp dx dy q) ∧ fX0_advance (LN a0 a1 a2 a5 a6 dx dy q) = if arrv dx dy (stp dx dy q) then 0 else 1 := by
  have e0 : fX0_hasArrived (LN a0 a1 a2 a5 a6 dx dy q) = 0 := by rw [arr_LN h1 h2 (by omega) (by omega), ha]; rfl
  have b1 : (2 * q.1 + 1) * dy < 2 ^ 30 := bnd2 (by omega) (by omega)
  have b2 : (2 * q.2.1 + 1) * dx < 2 ^ 30 := bnd2 (by omega) (by omega)
  have key : ∀ r : Nat × Nat × Nat, r.1 ≤ 16 → r.2.1 ≤ 16 → (if fX0_hasArrived (LN a0 a1 a2 a5 a6 dx dy r) = 0 then (1 : Int32) else 0) = if arrv dx dy r then 0 else 1 := fun r g1 g2 => by
    rw [arr_LN h1 h2 g1 g2]; cases arrv dx dy r <;> rfl
  unfold gX0_advance fX0_advance
  rw [if_pos e0, if_pos e0]
  show (if 0 < nI ((2 * q.1 + 1) * dy) - nI ((2 * q.2.1 + 1) * dx) then _ else _) = _ ∧ (if 0 < nI ((2 * q.1 + 1) * dy) - nI ((2 * q.2.1 + 1) * dx) then _ else _) = _
  by_cases c1 : (2 * q.1 + 1) * dy ≤ (2 * q.2.1 + 1) * dx
  · have n1 : ¬ 0 < nI ((2 * q.1 + 1) * dy) - nI ((2 * q.2.1 + 1) * dx) := fun g => by have := (sub_pos b1 b2).mp g; omega
    rw [if_neg n1, if_neg n1]
    show (if nI ((2 * q.1 + 1) * dy) - nI ((2 * q.2.1 + 1) * dx) < 0 then _ else _) = _ ∧ (if nI ((2 * q.1 + 1) * dy) - nI ((2 * q.2.1 + 1) * dx) < 0 then _ else _) = _
    by_cases c2 : (2 * q.2.1 + 1) * dx ≤ (2 * q.1 + 1) * dy
    · have n2 : ¬ nI ((2 * q.1 + 1) * dy) - nI ((2 * q.2.1 + 1) * dx) < 0 := fun g => by have := (sub_neg b1 b2).mp g; omega
      have es : stp dx dy q = (q.1 + 1, q.2.1 + 1, lft dx dy q.1 q.2.1) := by unfold stp; rw [if_pos c1, if_pos c2]
      have el : gX0_lookAhead (ln a0 a1 a2 (nI dx) (nI dy) a5 a6 (nI q.1 + 1) (nI q.2.1 + 1) (nI (lft dx dy q.1 q.2.1)) (nI (lft dx dy q.1 q.2.1)) (nI ((2 * q.1 + 1) * dy) - nI ((2 * q.2.1 + 1) * dx))) = LN a0 a1 a2 a5 a6 dx dy (q.1 + 1, q.2.1 + 1, lft dx dy q.1 q.2.1) := by
        rw [nI_1, nI_1]; exact look_LN h1 h2 (by omega) (by omega)
      rw [if_neg n2, if_neg n2, es]
      refine ⟨?_, ?_⟩
      · show (if fX0_hasArrived (gX0_lookAhead (ln a0 a1 a2 (nI dx) (nI dy) a5 a6 (nI q.1 + 1) (nI q.2.1 + 1) (nI (lft dx dy q.1 q.2.1)) (nI (lft dx dy q.1 q.2.1)) (nI ((2 * q.1 + 1) * dy) - nI ((2 * q.2.1 + 1) * dx)))) = 0 then gX0_lookAhead (ln a0 a1 a2 (nI dx) (nI dy) a5 a6 (nI q.1 + 1) (nI q.2.1 + 1) (nI (lft dx dy q.1 q.2.1)) (nI (lft dx dy q.1 q.2.1)) (nI ((2 * q.1 + 1) * dy) - nI ((2 * q.2.1 + 1) * dx))) else gX0_lookAhead (ln a0 a1 a2 (nI dx) (nI dy) a5 a6 (nI q.1 + 1) (nI q.2.1 + 1) (nI (lft dx dy q.1 q.2.1)) (nI (lft dx dy q.1 q.2.1)) (nI ((2 * q.1 + 1) * dy) - nI ((2 * q.2.1 + 1) * dx)))) = _
        rw [el]; split <;> rfl
      · show (if fX0_hasArrived (gX0_lookAhead (ln a0 a1 a2 (nI dx) (nI dy) a5 a6 (nI q.1 + 1) (nI q.2.1 + 1) (nI (lft dx dy q.1 q.2.1)) (nI (lft dx dy q.1 q.2.1)) (nI ((2 * q.1 + 1) * dy) - nI ((2 * q.2.1 + 1) * dx)))) = 0 then (1 : Int32) else 0) = _
        rw [el]; exact key _ (by show q.1 + 1 ≤ 16; omega) (by show q.2.1 + 1 ≤ 16; omega)
    · have n2 : nI ((2 * q.1 + 1) * dy) - nI ((2 * q.2.1 + 1) * dx) < 0 := (sub_neg b1 b2).mpr (by omega)
      have es : stp dx dy q = (q.1 + 1, q.2.1, lft dx dy q.1 q.2.1) := by unfold stp; rw [if_pos c1, if_neg c2]
      have el : gX0_lookAhead (ln a0 a1 a2 (nI dx) (nI dy) a5 a6 (nI q.1 + 1) (nI q.2.1) (nI (lft dx dy q.1 q.2.1)) (nI (lft dx dy q.1 q.2.1)) (nI ((2 * q.1 + 1) * dy) - nI ((2 * q.2.1 + 1) * dx))) = LN a0 a1 a2 a5 a6 dx dy (q.1 + 1, q.2.1, lft dx dy q.1 q.2.1) := by
        rw [nI_1]; exact look_LN h1 h2 (by omega) (by omega)
      rw [if_pos n2, if_pos n2, es]
      refine ⟨?_, ?_⟩
      · show (if fX0_hasArrived (gX0_lookAhead (ln a0 a1 a2 (nI dx) (nI dy) a5 a6 (nI q.1 + 1) (nI q.2.1) (nI (lft dx dy q.1 q.2.1)) (nI (lft dx dy q.1 q.2.1)) (nI ((2 * q.1 + 1) * dy) - nI ((2 * q.2.1 + 1) * dx)))) = 0 then gX0_lookAhead (ln a0 a1 a2 (nI dx) (nI dy) a5 a6 (nI q.1 + 1) (nI q.2.1) (nI (lft dx dy q.1 q.2.1)) (nI (lft dx dy q.1 q.2.1)) (nI ((2 * q.1 + 1) * dy) - nI ((2 * q.2.1 + 1) * dx))) else gX0_lookAhead (ln a0 a1 a2 (nI dx) (nI dy) a5 a6 (nI q.1 + 1) (nI q.2.1) (nI (lft dx dy q.1 q.2.1)) (nI (lft dx dy q.1 q.2.1)) (nI ((2 * q.1 + 1) * dy) - nI ((2 * q.2.1 + 1) * dx)))) = _
        rw [el]; split <;> rfl
      · show (if fX0_hasArrived (gX0_lookAhead (ln a0 a1 a2 (nI dx) (nI dy) a5 a6 (nI q.1 + 1) (nI q.2.1) (nI (lft dx dy q.1 q.2.1)) (nI (lft dx dy q.1 q.2.1)) (nI ((2 * q.1 + 1) * dy) - nI ((2 * q.2.1 + 1) * dx)))) = 0 then (1 : Int32) else 0) = _
        rw [el]; exact key _ (by show q.1 + 1 ≤ 16; omega) (by show q.2.1 ≤ 16; omega)
  · have n1 : 0 < nI ((2 * q.1 + 1) * dy) - nI ((2 * q.2.1 + 1) * dx) := (sub_pos b1 b2).mpr (by omega)
    have n2 : ¬ nI ((2 * q.1 + 1) * dy) - nI ((2 * q.2.1 + 1) * dx) < 0 := fun g => by have := (sub_neg b1 b2).mp g; omega
    have es : stp dx dy q = (q.1, q.2.1 + 1, lft dx dy q.1 q.2.1) := by unfold stp; rw [if_neg c1, if_pos (by omega)]
    have el : gX0_lookAhead (ln a0 a1 a2 (nI dx) (nI dy) a5 a6 (nI q.1) (nI q.2.1 + 1) (nI (lft dx dy q.1 q.2.1)) (nI (lft dx dy q.1 q.2.1)) (nI ((2 * q.1 + 1) * dy) - nI ((2 * q.2.1 + 1) * dx))) = LN a0 a1 a2 a5 a6 dx dy (q.1, q.2.1 + 1, lft dx dy q.1 q.2.1) := by
      rw [nI_1]; exact look_LN h1 h2 (by omega) (by omega)
    rw [if_pos n1, if_pos n1]
    show (if nI ((2 * q.1 + 1) * dy) - nI ((2 * q.2.1 + 1) * dx) < 0 then _ else _) = _ ∧ (if nI ((2 * q.1 + 1) * dy) - nI ((2 * q.2.1 + 1) * dx) < 0 then _ else _) = _
    rw [if_neg n2, if_neg n2, es]
    refine ⟨?_, ?_⟩
    · show (if fX0_hasArrived (gX0_lookAhead (ln a0 a1 a2 (nI dx) (nI dy) a5 a6 (nI q.1) (nI q.2.1 + 1) (nI (lft dx dy q.1 q.2.1)) (nI (lft dx dy q.1 q.2.1)) (nI ((2 * q.1 + 1) * dy) - nI ((2 * q.2.1 + 1) * dx)))) = 0 then gX0_lookAhead (ln a0 a1 a2 (nI dx) (nI dy) a5 a6 (nI q.1) (nI q.2.1 + 1) (nI (lft dx dy q.1 q.2.1)) (nI (lft dx dy q.1 q.2.1)) (nI ((2 * q.1 + 1) * dy) - nI ((2 * q.2.1 + 1) * dx))) else gX0_lookAhead (ln a0 a1 a2 (nI dx) (nI dy) a5 a6 (nI q.1) (nI q.2.1 + 1) (nI (lft dx dy q.1 q.2.1)) (nI (lft dx dy q.1 q.2.1)) (nI ((2 * q.1 + 1) * dy) - nI ((2 * q.2.1 + 1) * dx)))) = _
      rw [el]; split <;> rfl
    · show (if fX0_hasArrived (gX0_lookAhead (ln a0 a1 a2 (nI dx) (nI dy) a5 a6 (nI q.1) (nI q.2.1 + 1) (nI (lft dx dy q.1 q.2.1)) (nI (lft dx dy q.1 q.2.1)) (nI ((2 * q.1 + 1) * dy) - nI ((2 * q.2.1 + 1) * dx)))) = 0 then (1 : Int32) else 0) = _
      rw [el]; exact key _ (by show q.1 ≤ 16; omega) (by show q.2.1 + 1 ≤ 16; omega)
