/-! ===== which cells the reference's line crosses ===== -/
def fXn (p t c : Nat) : Nat := if t % 16 < p % 16 then p % 16 - c % 16 else c % 16 - p % 16
def fYn (p t c : Nat) : Nat := if t / 16 < p / 16 then p / 16 - c / 16 else c / 16 - p / 16
def inXn (p t c : Nat) : Prop := csX p t (fXn p t c) = c % 16 ∧ fXn p t c ≤ dXn p t
def inYn (p t c : Nat) : Prop := csY p t (fYn p t c) = c / 16 ∧ fYn p t c ≤ dYn p t
def aXz (p t : Nat) : Int := ((t % 16 : Nat) : Int) - ((p % 16 : Nat) : Int)
def aYz (p t : Nat) : Int := ((t / 16 : Nat) : Int) - ((p / 16 : Nat) : Int)
theorem aX_abs (p t : Nat) : (aXz p t).natAbs = dXn p t := by unfold aXz dXn; split <;> omega
theorem aY_abs (p t : Nat) : (aYz p t).natAbs = dYn p t := by unfold aYz dYn; split <;> omega
theorem axX_in {p t c : Nat} (h : inXn p t c) : (aXz p t = 0 → aXz p c = 0) ∧ (aXz p t ≠ 0 → zfar (aXz p c) (aXz p t) = (fXn p t c : Int)) := by
  obtain ⟨h1, h2⟩ := h
  unfold fXn csX dXn at *
  unfold aXz zfar
  by_cases g : t % 16 < p % 16
  · simp only [if_pos g] at *
    refine ⟨fun e => by omega, fun e => ?_⟩
    rw [if_pos (by omega)]; omega
  · simp only [if_neg g] at *
    refine ⟨fun e => by omega, fun e => ?_⟩
    rw [if_neg (by omega)]; omega
theorem axX_out {p t c : Nat} (h : ¬ inXn p t c) : (aXz p t = 0 ∧ aXz p c ≠ 0) ∨ (aXz p t ≠ 0 ∧ (zfar (aXz p c) (aXz p t) < 0 ∨ (dXn p t : Int) < zfar (aXz p c) (aXz p t))) := by
  unfold inXn at h
  unfold fXn csX dXn at *
  unfold aXz zfar
  by_cases g : t % 16 < p % 16
  · simp only [if_pos g] at *
    refine Or.inr ⟨by omega, ?_⟩
    rw [if_pos (by omega)]; omega
  · simp only [if_neg g] at *
    by_cases g2 : t % 16 = p % 16
    · exact Or.inl ⟨by omega, by omega⟩
    · refine Or.inr ⟨by omega, ?_⟩
      rw [if_neg (by omega)]; omega
theorem axY_in {p t c : Nat} (h : inYn p t c) : (aYz p t = 0 → aYz p c = 0) ∧ (aYz p t ≠ 0 → zfar (aYz p c) (aYz p t) = (fYn p t c : Int)) := by
  obtain ⟨h1, h2⟩ := h
  unfold fYn csY dYn at *
  unfold aYz zfar
  by_cases g : t / 16 < p / 16
  · simp only [if_pos g] at *
    refine ⟨fun e => by omega, fun e => ?_⟩
    rw [if_pos (by omega)]; omega
  · simp only [if_neg g] at *
    refine ⟨fun e => by omega, fun e => ?_⟩
    rw [if_neg (by omega)]; omega
theorem axY_out {p t c : Nat} (h : ¬ inYn p t c) : (aYz p t = 0 ∧ aYz p c ≠ 0) ∨ (aYz p t ≠ 0 ∧ (zfar (aYz p c) (aYz p t) < 0 ∨ (dYn p t : Int) < zfar (aYz p c) (aYz p t))) := by
  unfold inYn at h
  unfold fYn csY dYn at *
  unfold aYz zfar
  by_cases g : t / 16 < p / 16
  · simp only [if_pos g] at *
    refine Or.inr ⟨by omega, ?_⟩
    rw [if_pos (by omega)]; omega
  · simp only [if_neg g] at *
    by_cases g2 : t / 16 = p / 16
    · exact Or.inl ⟨by omega, by omega⟩
    · refine Or.inr ⟨by omega, ?_⟩
      rw [if_neg (by omega)]; omega
theorem nB_ge (h o al b : Int) : b ≤ nB h o al b := by
  unfold nB
  split
  · exact Int.le_refl _
  · split <;> omega
theorem nE_neg {h o al e : Int} (he : e ≤ -1) : nE h o al e ≤ -1 := by
  unfold nE
  split
  · split <;> omega
  · split <;> omega
theorem nE_le {h o al e : Int} (hal : al ≠ 0) : nE h o al e ≤ e := by unfold nE; rw [if_neg hal]; split <;> omega
theorem nE_le0 {h o al e : Int} (he : -1 ≤ e) : nE h o al e ≤ e := by
  unfold nE
  split
  · split <;> omega
  · split <;> omega
/-- a strip that lies behind, or beyond, or beside: nothing is left -/
theorem ax_out {d h P : Nat} {o al b e : Int} (hh : 0 < h) (hP : al ≠ 0 → P = 2 * d * h) (ho : (al = 0 ∧ o ≠ 0) ∨ (al ≠ 0 ∧ (zfar o al < 0 ∨ (d : Int) < zfar o al))) (hb : 0 ≤ b) (he : e ≤ P) : nE h o al e ≤ -1 ∨ (P : Int) < nB h o al b := by
  rcases ho with ⟨h1, h2⟩ | ⟨h1, h2 | h2⟩
  · refine Or.inl ?_
    unfold nE; rw [if_pos h1, if_neg h2]; omega
  · refine Or.inl ?_
    unfold nE; rw [if_neg h1]
    have : (2 * zfar o al + 1) * (h : Int) ≤ (-1) * (h : Int) := Int.mul_le_mul_of_nonneg_right (by omega) (by omega)
    split <;> omega
  · refine Or.inr ?_
    unfold nB; rw [if_neg h1]
    have h3 : (2 * (d : Int) + 1) * (h : Int) ≤ (2 * zfar o al - 1) * (h : Int) := Int.mul_le_mul_of_nonneg_right (by omega) (by omega)
    have h4 : (2 * (d : Int) + 1) * (h : Int) = P + h := by
      rw [hP h1, Int.add_mul]; simp
    split <;> omega
/-- a strip on the way -/
theorem ax_in {h : Nat} {o al b e : Int} {i : Nat} (h0 : al = 0 → o = 0) (hf : al ≠ 0 → zfar o al = (i : Int)) (hb : 0 ≤ b) : nB h o al b = (if al = 0 then b else max b (((2 * i - 1) * h : Nat) : Int)) ∧ nE h o al e = if al = 0 then e else min e (((2 * i + 1) * h : Nat) : Int) := by
  unfold nB nE
  by_cases c : al = 0
  · rw [if_pos c, if_pos c, if_pos c, if_pos c, if_pos (h0 c)]; exact ⟨rfl, rfl⟩
  · rw [if_neg c, if_neg c, if_neg c, if_neg c, hf c]
    have e2 : ((2 * i + 1 : Nat) : Int) * (h : Int) = (2 * (i : Int) + 1) * (h : Int) := by simp
    refine ⟨?_, ?_⟩
    · cases i with
      | zero =>
        have e3 : (2 * ((0 : Nat) : Int) - 1) * (h : Int) = -(h : Int) := by simp
        rw [e3]
        have e4 : (((2 * 0 - 1) * h : Nat) : Int) = 0 := by simp
        rw [e4]
        split <;> omega
      | succ k =>
        have e3 : (2 * ((k + 1 : Nat) : Int) - 1) * (h : Int) = (((2 * (k + 1) - 1) * h : Nat) : Int) := by
          rw [Int.natCast_mul]; congr 1; omega
        rw [e3]
        split <;> omega
    · rw [Int.natCast_mul, e2]
      split <;> omega
def mB (p t c : Nat) : Int := nB (mx1 (dXn p t)) (aYz p c) (aYz p t) (nB (mx1 (dYn p t)) (aXz p c) (aXz p t) 0)
def mE (p t c : Nat) : Int := nE (mx1 (dXn p t)) (aYz p c) (aYz p t) (nE (mx1 (dYn p t)) (aXz p c) (aXz p t) (prt p t))
/-- the cell is crossed -/
def Xc (p t c : Nat) : Prop := (inXn p t c ∧ inYn p t c) ∧ bgN (dXn p t) (dYn p t) (fXn p t c) (fYn p t c) < edN (dXn p t) (dYn p t) (fXn p t c) (fYn p t c)
theorem mcross_in {p t c : Nat} (hX : inXn p t c) (hY : inYn p t c) : mB p t c = (bgN (dXn p t) (dYn p t) (fXn p t c) (fYn p t c) : Nat) ∧ mE p t c = (edN (dXn p t) (dYn p t) (fXn p t c) (fYn p t c) : Nat) := by
  have a1 := ax_in (h := mx1 (dYn p t)) (b := 0) (e := (prt p t : Int)) (axX_in hX).1 (axX_in hX).2 (Int.le_refl 0)
  have g1 : 0 ≤ nB (mx1 (dYn p t)) (aXz p c) (aXz p t) 0 := nB_ge _ _ _ _
  have a2 := ax_in (h := mx1 (dXn p t)) (b := nB (mx1 (dYn p t)) (aXz p c) (aXz p t) 0) (e := nE (mx1 (dYn p t)) (aXz p c) (aXz p t) (prt p t)) (axY_in hY).1 (axY_in hY).2 g1
  have zx : aXz p t = 0 ↔ dXn p t = 0 := by have := aX_abs p t; omega
  have zy : aYz p t = 0 ↔ dYn p t = 0 := by have := aY_abs p t; omega
  have hp0 : 2 * mx1 (dXn p t) * mx1 (dYn p t) = prt p t := rfl
  unfold mB mE bgN edN
  rw [a2.1, a2.2, a1.1, a1.2, hp0]
  simp only [zx, zy]
  generalize (2 * fXn p t c - 1) * mx1 (dYn p t) = A1
  generalize (2 * fXn p t c + 1) * mx1 (dYn p t) = A2
  generalize (2 * fYn p t c - 1) * mx1 (dXn p t) = A3
  generalize (2 * fYn p t c + 1) * mx1 (dXn p t) = A4
  generalize prt p t = P
  by_cases c1 : dXn p t = 0 <;> by_cases c2 : dYn p t = 0 <;> simp only [c1, c2, if_true, if_false] <;> omega
theorem mx1_of {n : Nat} (h : n ≠ 0) : mx1 n = n := by unfold mx1; rw [if_neg h]
theorem mcross_out {p t c : Nat} (h : ¬ (inXn p t c ∧ inYn p t c)) : ¬ mB p t c < mE p t c := by
  have gx : aXz p t ≠ 0 → prt p t = 2 * dXn p t * mx1 (dYn p t) := fun h0 => by
    unfold prt; rw [mx1_of (by have := aX_abs p t; omega)]
  have gy : aYz p t ≠ 0 → prt p t = 2 * dYn p t * mx1 (dXn p t) := fun h0 => by
    unfold prt; rw [mx1_of (n := dYn p t) (by have := aY_abs p t; omega), Nat.mul_assoc, Nat.mul_comm (mx1 _), ← Nat.mul_assoc]
  have b0 : 0 ≤ nB (mx1 (dYn p t)) (aXz p c) (aXz p t) 0 := nB_ge _ _ _ _
  have b1 : nB (mx1 (dYn p t)) (aXz p c) (aXz p t) 0 ≤ mB p t c := nB_ge _ _ _ _
  have e0 : nE (mx1 (dYn p t)) (aXz p c) (aXz p t) (prt p t) ≤ prt p t := nE_le0 (by omega)
  have e1 : mE p t c ≤ prt p t := by
    unfold mE
    by_cases q : -1 ≤ nE (mx1 (dYn p t)) (aXz p c) (aXz p t) (prt p t)
    · exact Int.le_trans (nE_le0 q) e0
    · have := nE_neg (h := mx1 (dXn p t)) (o := aYz p c) (al := aYz p t) (show nE (mx1 (dYn p t)) (aXz p c) (aXz p t) (prt p t) ≤ -1 by omega)
      omega
  by_cases hX : inXn p t c
  · have hY : ¬ inYn p t c := fun q => h ⟨hX, q⟩
    rcases ax_out (P := prt p t) (mx1_pos (dXn p t)) gy (axY_out hY) b0 e0 with q | q
    · have : mE p t c ≤ -1 := q
      omega
    · have : (prt p t : Int) < mB p t c := q
      omega
  · rcases ax_out (P := prt p t) (b := 0) (e := prt p t) (mx1_pos (dYn p t)) gx (axX_out hX) (Int.le_refl 0) (Int.le_refl _) with q | q
    · have : mE p t c ≤ -1 := nE_neg q
      omega
    · omega
theorem mcross {p t c : Nat} : mB p t c < mE p t c ↔ Xc p t c := by
  unfold Xc
  by_cases h : inXn p t c ∧ inYn p t c
  · rw [(mcross_in h.1 h.2).1, (mcross_in h.1 h.2).2]
    constructor
    · intro q; exact ⟨h, by omega⟩
    · intro q; have := q.2; omega
  · constructor
    · intro q; exact absurd q (mcross_out h)
    · intro q; exact absurd q.1 h
