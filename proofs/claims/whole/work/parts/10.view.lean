/-! ===== a view: from cell p to cell t, eye and top ===== -/
def dXn (p t : Nat) : Nat := if t % 16 < p % 16 then p % 16 - t % 16 else t % 16 - p % 16
def dYn (p t : Nat) : Nat := if t / 16 < p / 16 then p / 16 - t / 16 else t / 16 - p / 16
theorem dXn_lt (p t : Nat) : dXn p t < 16 := by unfold dXn; split <;> omega
theorem dYn_lt {p t : Nat} (hp : p < 192) (ht : t < 192) : dYn p t < 12 := by unfold dYn; split <;> omega
def tv (p t n : Nat) : Nat × Nat × Nat := trv (dXn p t) (dYn p t) n
def sgX (p t : Nat) : Int32 := if t % 16 < p % 16 then -1 else 1
def sgY (p t : Nat) : Int32 := if t / 16 < p / 16 then -16 else 16
def lineF (p t e u n : Nat) : Nat → Int32 := LN (nI p) (nI e) (nI u) (sgX p t) (sgY p t) (dXn p t) (dYn p t) (tv p t n)
theorem abs_nI {a b : Nat} (ha : a < 2 ^ 30) (hb : b < 2 ^ 30) : (if 0 ≤ nI a - nI b then nI a - nI b else 0 - (nI a - nI b)) = nI (if a < b then b - a else a - b) := by
  by_cases h : a < b
  · rw [if_neg (fun q => by have := (sub_nn ha hb).mp q; omega), if_pos h, ← pk_sub (by omega), Int32.zero_sub, Int32.neg_sub]
  · rw [if_pos ((sub_nn ha hb).mpr (by omega)), if_neg h, pk_sub (by omega)]
theorem col_nI {k : Nat} (h : k < 192) : fX1_columnOf (nI k) = nI (k % 16) := rem16 h
theorem row_nI {k : Nat} (h : k < 192) : fX1_rowOf (nI k) = nI (k / 16) := div16 h
theorem aim_F {p t e u : Nat} (hp : p < 192) (ht : t < 192) (F : Nat → Int32) : gX0_aim F (nI p) (nI e) (nI t) (nI u) = lineF p t e u 0 := by
  unfold gX0_aim
  rw [col_nI hp, col_nI ht, row_nI hp, row_nI ht, abs_nI (by omega) (by omega), abs_nI (by omega) (by omega)]
  have e1 : (if 0 ≤ nI (t % 16) - nI (p % 16) then (1 : Int32) else -1) = sgX p t := by
    unfold sgX
    by_cases h : t % 16 < p % 16
    · rw [if_neg (fun q => by have := (sub_nn (by omega) (by omega)).mp q; omega), if_pos h]
    · rw [if_pos ((sub_nn (by omega) (by omega)).mpr (by omega)), if_neg h]
  have e2 : (if 0 ≤ nI (t / 16) - nI (p / 16) then (16 : Int32) else -16) = sgY p t := by
    unfold sgY
    by_cases h : t / 16 < p / 16
    · rw [if_neg (fun q => by have := (sub_nn (by omega) (by omega)).mp q; omega), if_pos h]
    · rw [if_pos ((sub_nn (by omega) (by omega)).mpr (by omega)), if_neg h]
  rw [e1, e2]
  exact look_LN (i := 0) (j := 0) (e := 0) (dXn_lt p t) (dYn_lt hp ht) (by omega) (by omega)
/-- how many steps to the end -/
def vN (p t : Nat) : Nat := endN (dXn p t) (dYn p t)
theorem vN_le {p t : Nat} (hp : p < 192) (ht : t < 192) : vN p t ≤ 26 := by
  have := geo_end (dXn_lt p t) (dYn_lt hp ht)
  have := dXn_lt p t
  have := dYn_lt hp ht
  unfold vN; omega
theorem tv_in {p t n : Nat} (hp : p < 192) (ht : t < 192) (hn : n ≤ vN p t) : (tv p t n).1 ≤ dXn p t ∧ (tv p t n).2.1 ≤ dYn p t := by
  have := geo_in (dXn_lt p t) (dYn_lt hp ht) hn
  exact ⟨this.1, this.2.1⟩
theorem tv_arr {p t n : Nat} (hp : p < 192) (ht : t < 192) (hn : n ≤ vN p t) : arrv (dXn p t) (dYn p t) (tv p t n) = decide (n = vN p t) := by
  by_cases h : n = vN p t
  · subst h
    have h3 := geo_arr (dXn_lt p t) (dYn_lt hp ht)
    have e : decide (vN p t = vN p t) = true := decide_eq_true rfl
    rw [e]
    unfold arrv tv vN
    rw [h3.1, h3.2]
    simp
  · rw [decide_eq_false h]
    exact geo_way (dXn_lt p t) (dYn_lt hp ht) (by unfold vN at hn h; omega)
theorem adv_F {p t e u n : Nat} (hp : p < 192) (ht : t < 192) (hn : n < vN p t) : gX0_advance (lineF p t e u n) = lineF p t e u (n + 1) ∧ fX0_advance (lineF p t e u n) = if n + 1 = vN p t then 0 else 1 := by
  have hx := dXn_lt p t
  have hy := dYn_lt hp ht
  have hi := tv_in hp ht (Nat.le_of_lt hn)
  have ha := tv_arr hp ht (Nat.le_of_lt hn)
  rw [decide_eq_false (by omega)] at ha
  have h3 := adv_LN (a0 := nI p) (a1 := nI e) (a2 := nI u) (a5 := sgX p t) (a6 := sgY p t) hx hy (by omega) (by omega) ha
  refine ⟨h3.1, h3.2.trans ?_⟩
  have h4 := tv_arr hp ht (n := n + 1) (by omega)
  have e4 : stp (dXn p t) (dYn p t) (tv p t n) = tv p t (n + 1) := rfl
  rw [e4, h4]
  by_cases h : n + 1 = vN p t
  · rw [decide_eq_true h, if_pos h]; rfl
  · rw [decide_eq_false h, if_neg h]; rfl
theorem end_F {p t e u : Nat} (hp : p < 192) (ht : t < 192) : fX0_advance (lineF p t e u (vN p t)) = 0 ∧ gX0_advance (lineF p t e u (vN p t)) = lineF p t e u (vN p t) := by
  have hx := dXn_lt p t
  have hy := dYn_lt hp ht
  have hi := tv_in hp ht (Nat.le_refl (vN p t))
  have h4 := tv_arr hp ht (Nat.le_refl (vN p t))
  rw [decide_eq_true rfl] at h4
  have e1 : ¬ fX0_hasArrived (lineF p t e u (vN p t)) = 0 := by
    unfold lineF
    rw [arr_LN hx hy (by omega) (by omega), h4]; decide
  unfold fX0_advance gX0_advance
  rw [if_neg e1, if_neg e1]
  exact ⟨rfl, rfl⟩
/-- the cell at a step -/
def csX (p t i : Nat) : Nat := if t % 16 < p % 16 then p % 16 - i else p % 16 + i
def csY (p t j : Nat) : Nat := if t / 16 < p / 16 then p / 16 - j else p / 16 + j
def cs (p t n : Nat) : Nat := 16 * csY p t (tv p t n).2.1 + csX p t (tv p t n).1
theorem csX_lt {p t i : Nat} (h : i ≤ dXn p t) : csX p t i < 16 := by
  unfold csX; unfold dXn at h
  split at h
  · rename_i g; rw [if_pos g]; omega
  · rename_i g; rw [if_neg g]; omega
theorem csY_lt {p t j : Nat} (hp : p < 192) (ht : t < 192) (h : j ≤ dYn p t) : csY p t j < 12 := by
  unfold csY; unfold dYn at h
  split at h
  · rename_i g; rw [if_pos g]; omega
  · rename_i g; rw [if_neg g]; omega
theorem cs_lt {p t n : Nat} (hp : p < 192) (ht : t < 192) (hn : n ≤ vN p t) : cs p t n < 192 := by
  have h := tv_in hp ht hn
  have := csX_lt h.1
  have := csY_lt hp ht h.2
  unfold cs; omega
theorem cross_F {p t e u n : Nat} (hp : p < 192) (ht : t < 192) (hn : n ≤ vN p t) : fX0_crossedCell (lineF p t e u n) = nI (cs p t n) := by
  have h := tv_in hp ht hn
  show (nI p + nI (tv p t n).1 * sgX p t) + nI (tv p t n).2.1 * sgY p t = _
  have ep : nI p = 16 * nI (p / 16) + nI (p % 16) := by
    rw [idx_nI]; congr 1; omega
  have ec : nI (cs p t n) = 16 * nI (csY p t (tv p t n).2.1) + nI (csX p t (tv p t n).1) := by rw [idx_nI]; rfl
  have ex : nI (csX p t (tv p t n).1) = nI (p % 16) + nI (tv p t n).1 * sgX p t := by
    have hi := h.1
    unfold csX sgX; unfold dXn at hi
    split
    · rename_i g
      rw [if_pos g] at hi
      rw [← pk_sub (by omega)]; grind
    · rw [← nI_add]; grind
  have ey : 16 * nI (csY p t (tv p t n).2.1) = 16 * nI (p / 16) + nI (tv p t n).2.1 * sgY p t := by
    have hi := h.2
    unfold csY sgY; unfold dYn at hi
    split
    · rename_i g
      rw [if_pos g] at hi
      rw [← pk_sub (by omega)]; grind
    · rw [← nI_add]; grind
  rw [ec, ep, ex, ey]; grind

/-! how high the line is -/
theorem nx_xor (a b : Nat) : nI a ^^^ nI b = nI (a ^^^ b) := by
  apply Int32.toBitVec_inj.1
  show BitVec.ofNat 32 a ^^^ BitVec.ofNat 32 b = BitVec.ofNat 32 (a ^^^ b)
  apply BitVec.eq_of_getLsbD_eq
  intro i hi
  simp [hi]
theorem fdiv_nI {a d : Nat} (ha : a < 2 ^ 31) (h0 : 0 < d) (hd : d < 2 ^ 31) : fJ9_floorDiv_7cf53 (nI a) (nI d) = nI (a / d) := by
  unfold fJ9_floorDiv_7cf53
  rw [nx_xor, if_pos (nI_pos' (Nat.xor_lt_two_pow ha hd)), pk_div ha h0 hd]
def prt (p t : Nat) : Nat := 2 * mx1 (dXn p t) * mx1 (dYn p t)
theorem mx1_pos (n : Nat) : 0 < mx1 n := by unfold mx1; split <;> omega
theorem mx1_le {n k : Nat} (h : n ≤ k) (hk : 1 ≤ k) : mx1 n ≤ k := by unfold mx1; split <;> omega
theorem prt_pos (p t : Nat) : 0 < prt p t := by
  unfold prt
  exact Nat.mul_pos (Nat.mul_pos (by decide) (mx1_pos _)) (mx1_pos _)
theorem prt_le {p t : Nat} (hp : p < 192) (ht : t < 192) : prt p t ≤ 330 := by
  have h1 := mx1_le (show dXn p t ≤ 15 by have := dXn_lt p t; omega) (by decide)
  have h2 := mx1_le (show dYn p t ≤ 11 by have := dYn_lt hp ht; omega) (by decide)
  have h3 := Nat.mul_le_mul (Nat.mul_le_mul (Nat.le_refl 2) h1) h2
  unfold prt; omega
theorem prt_F {p t e u n : Nat} (hp : p < 192) (ht : t < 192) : 2 * (if 1 < lineF p t e u n 3 then lineF p t e u n 3 else 1) * (if 1 < lineF p t e u n 4 then lineF p t e u n 4 else 1) = nI (prt p t) := by
  show 2 * (if 1 < nI (dXn p t) then nI (dXn p t) else 1) * (if 1 < nI (dYn p t) then nI (dYn p t) else 1) = _
  have := dXn_lt p t
  have := dYn_lt hp ht
  rw [mx_nI (by omega), mx_nI (by omega), nI_two, pk_mul, pk_mul]; rfl
theorem prt_ne {p t e u n : Nat} (hp : p < 192) (ht : t < 192) : ¬ 2 * (if 1 < lineF p t e u n 3 then lineF p t e u n 3 else 1) * (if 1 < lineF p t e u n 4 then lineF p t e u n 4 else 1) = 0 := by
  rw [prt_F hp ht]
  have := prt_le hp ht
  exact nI_ne0 (prt_pos p t) (by omega)
/-- the least height above a cell, in parts: P parts, from b to l -/
def clN (e u P b l : Nat) : Nat := if u < e then e * P - l * (e - u) else e * P + b * (u - e)
theorem clN_lt {e u P b l : Nat} (he : e ≤ 60) (hu : u ≤ 60) (hP : P ≤ 330) (hb : b ≤ P) : clN e u P b l < 2 ^ 20 := by
  unfold clN
  have h1 := Nat.mul_le_mul he hP
  split
  · omega
  · have h2 := Nat.mul_le_mul (Nat.le_trans hb hP) (show u - e ≤ 60 by omega)
    omega
theorem cl_eq {e u P b l : Nat} (he : e ≤ 60) (hu : u ≤ 60) (hl : l ≤ P) : nI e * nI P + (nI u - nI e) * (if nI u < nI e then nI l else nI b) = nI (clN e u P b l) := by
  unfold clN
  by_cases h : u < e
  · have h1 : l * (e - u) ≤ e * P := by
      have := Nat.mul_le_mul hl (show e - u ≤ e by omega)
      rw [Nat.mul_comm e P]; exact this
    rw [if_pos (nI_lt h (by omega)), if_pos h, ← pk_sub h1, ← pk_mul, ← pk_mul, ← pk_sub (by omega)]; grind
  · rw [if_neg (nI_nlt (by omega) (by omega)), if_neg h, ← nI_add, ← pk_mul, ← pk_mul, ← pk_sub (by omega)]; grind
theorem ed_le (dx dy i j : Nat) : edN dx dy i j ≤ 2 * mx1 dx * mx1 dy := Nat.min_le_left _ _
/-- the greatest whole number that is not above the clearance at a step -/
def wn (p t e u n : Nat) : Nat := clN e u (prt p t) (bgN (dXn p t) (dYn p t) (tv p t n).1 (tv p t n).2.1) (edN (dXn p t) (dYn p t) (tv p t n).1 (tv p t n).2.1) / prt p t
theorem whole_F {p t e u n : Nat} (hp : p < 192) (ht : t < 192) (he : e ≤ 60) (hu : u ≤ 60) (hn : n < vN p t) : fX0_wholeClearance (lineF p t e u n) = nI (wn p t e u n) := by
  have hx := dXn_lt p t
  have hy := dYn_lt hp ht
  have h := geo_in hx hy (n := n) (Nat.le_of_lt hn)
  have ha := tv_arr hp ht (Nat.le_of_lt hn)
  rw [decide_eq_false (by omega)] at ha
  have e1 : (tv p t n).2.2 = bgN (dXn p t) (dYn p t) (tv p t n).1 (tv p t n).2.1 := h.2.2.1
  have e2 : lft (dXn p t) (dYn p t) (tv p t n).1 (tv p t n).2.1 = edN (dXn p t) (dYn p t) (tv p t n).1 (tv p t n).2.1 := by
    rcases h.2.2.2.2 with q | q
    · exact absurd (ha.symm.trans q) (by decide)
    · exact q
  have hl : edN (dXn p t) (dYn p t) (tv p t n).1 (tv p t n).2.1 ≤ prt p t := ed_le _ _ _ _
  have hb : bgN (dXn p t) (dYn p t) (tv p t n).1 (tv p t n).2.1 ≤ prt p t := by
    have h4 : bgN (dXn p t) (dYn p t) (tv p t n).1 (tv p t n).2.1 < edN (dXn p t) (dYn p t) (tv p t n).1 (tv p t n).2.1 := h.2.2.2.1
    omega
  have hP := prt_le hp ht
  unfold fX0_wholeClearance
  rw [prt_F hp ht]
  show fJ9_floorDiv_7cf53 (nI e * nI (prt p t) + (nI u - nI e) * (if nI u < nI e then nI (lft (dXn p t) (dYn p t) (tv p t n).1 (tv p t n).2.1) else nI (tv p t n).2.2)) (nI (prt p t)) = _
  rw [e1, e2, cl_eq he hu hl, fdiv_nI (Nat.lt_trans (clN_lt he hu hP hb) (by decide)) (prt_pos p t) (by omega)]
  rfl
