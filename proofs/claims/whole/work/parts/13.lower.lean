/-! ===== the clearance of a cell: the reference's, and the class's at its step ===== -/
def lkF (p t e u : Nat) (x7 x8 : Int32) : Nat → Int32 := lm (nI (p % 16)) (nI (p / 16)) (zI (aXz p t)) (zI (aYz p t)) (nI e) (nI u) (nI (prt p t)) x7 x8
theorem subX (p t : Nat) : nI (t % 16) - nI (p % 16) = zI (aXz p t) := by rw [zI_nat, zI_nat, zI_sub]; rfl
theorem subY (p t : Nat) : nI (t / 16) - nI (p / 16) = zI (aYz p t) := by rw [zI_nat, zI_nat, zI_sub]; rfl
theorem aX_sml (p t : Nat) : (aXz p t).natAbs ≤ 20 := by unfold aXz; omega
theorem aY_sml {p t : Nat} (hp : p < 192) (ht : t < 192) : (aYz p t).natAbs ≤ 20 := by unfold aYz; omega
theorem cellE (p : Nat) : 16 * (p / 16) + p % 16 = p := by omega
theorem look_F {S : GS} {F : Nat → Int32} {p t e u f : Nat} (hp : p < 192) (ht : t < 192) (he : (if S 2 p = 3 then (11 : Int32) else 16) = nI e) (hu : S 3 t = nI u) : gX2_look S F (p % 16) (p / 16) f (t % 16) (t / 16) = lkF p t e u (F 7) (F 8) := by
  have sx : sml (aXz p t) := by have := aX_sml p t; unfold sml; omega
  have sy : sml (aYz p t) := by have := aY_sml hp ht; unfold sml; omega
  have bx := dXn_lt p t
  have bY := dYn_lt hp ht
  unfold gX2_look lkF
  rw [cellE, cellE, he, hu, subX, subY, size_zI sx, size_zI sy, aX_abs, aY_abs, alo_nI (by omega), alo_nI (by omega), nI_two, pk_mul, pk_mul]
  rfl
theorem half_x {p t : Nat} (h : aXz p t ≠ 0) : prt p t / 2 / (aXz p t).natAbs = mx1 (dYn p t) := by
  have h0 : dXn p t ≠ 0 := by have := aX_abs p t; omega
  rw [aX_abs]
  unfold prt
  rw [mx1_of h0, Nat.mul_assoc, Nat.mul_div_cancel_left _ (by decide : 0 < 2), Nat.mul_div_cancel_left _ (by omega)]
theorem half_y {p t : Nat} (h : aYz p t ≠ 0) : prt p t / 2 / (aYz p t).natAbs = mx1 (dXn p t) := by
  have h0 : dYn p t ≠ 0 := by have := aY_abs p t; omega
  rw [aY_abs]
  unfold prt
  rw [mx1_of (n := dYn p t) h0, Nat.mul_assoc, Nat.mul_div_cancel_left _ (by decide : 0 < 2), Nat.mul_div_cancel _ (by omega)]
theorem nB_sml {h : Nat} {o al b : Int} (hh : h ≤ 400) (ho : o.natAbs ≤ 20) (hb : sml b) : sml (nB h o al b) := by
  unfold nB
  split
  · exact hb
  · split
    · exact hb
    · exact sml_mul (A := 41) (B := 400) (by unfold zfar; split <;> omega) (by omega) (by decide)
theorem nE_sml {h : Nat} {o al b : Int} (hh : h ≤ 400) (ho : o.natAbs ≤ 20) (hb : sml b) : sml (nE h o al b) := by
  unfold nE
  split
  · split
    · exact hb
    · unfold sml; omega
  · split
    · exact hb
    · exact sml_mul (A := 41) (B := 400) (by unfold zfar; split <;> omega) (by omega) (by decide)
theorem nr2_Z {S : GS} {p t e u c : Nat} {x7 x8 : Int32} (hp : p < 192) (ht : t < 192) (hc : c < 192) : nr2 S (lkF p t e u x7 x8) (nI (c % 16)) (nI (c / 16)) 7 = zI (mB p t c) ∧ nr2 S (lkF p t e u x7 x8) (nI (c % 16)) (nI (c / 16)) 8 = zI (mE p t c) := by
  have hP := prt_le hp ht
  have m1 : mx1 (dXn p t) ≤ 400 := mx1_le (by have := dXn_lt p t; omega) (by decide)
  have m2 : mx1 (dYn p t) ≤ 400 := mx1_le (by have := dYn_lt hp ht; omega) (by decide)
  have s0 : sml 0 := by unfold sml; omega
  have sP : sml (prt p t : Int) := by unfold sml; omega
  have r1 := nr_Z (S := S) (F := lm (nI (p % 16)) (nI (p / 16)) (zI (aXz p t)) (zI (aYz p t)) (nI e) (nI u) (nI (prt p t)) 0 (nI (prt p t))) (P := prt p t) (h := mx1 (dYn p t)) (o := aXz p c) (al := aXz p t) (b := 0) (e := (prt p t : Int)) rfl rfl (zI_nat _) (by omega) half_x m2 (aX_sml p c) (aX_sml p t) s0 sP
  have r2 := nr_Z (S := S) (F := gX2_narrow S (lm (nI (p % 16)) (nI (p / 16)) (zI (aXz p t)) (zI (aYz p t)) (nI e) (nI u) (nI (prt p t)) 0 (nI (prt p t))) (zI (aXz p c)) (zI (aXz p t))) (P := prt p t) (h := mx1 (dXn p t)) (o := aYz p c) (al := aYz p t) (nr_keep _ _ _ _ 6 (by decide)) r1.1 r1.2 (by omega) half_y m1 (aY_sml hp hc) (aY_sml hp ht) (nB_sml m2 (aX_sml p c) s0) (nE_sml m2 (aX_sml p c) sP)
  have e1 : nr2 S (lkF p t e u x7 x8) (nI (c % 16)) (nI (c / 16)) = gX2_narrow S (gX2_narrow S (lm (nI (p % 16)) (nI (p / 16)) (zI (aXz p t)) (zI (aYz p t)) (nI e) (nI u) (nI (prt p t)) 0 (nI (prt p t))) (nI (c % 16) - nI (p % 16)) (zI (aXz p t))) (nI (c / 16) - nI (p / 16)) (zI (aYz p t)) := rfl
  rw [e1, subX, subY]
  exact r2
def wcl (p t e u c : Nat) : Nat := clN e u (prt p t) (bgN (dXn p t) (dYn p t) (fXn p t c) (fYn p t c)) (edN (dXn p t) (dYn p t) (fXn p t c) (fYn p t c)) / prt p t
def XcB (p t c : Nat) : Bool := decide (csX p t (fXn p t c) = c % 16) && decide (fXn p t c ≤ dXn p t) && decide (csY p t (fYn p t c) = c / 16) && decide (fYn p t c ≤ dYn p t) && decide (bgN (dXn p t) (dYn p t) (fXn p t c) (fYn p t c) < edN (dXn p t) (dYn p t) (fXn p t c) (fYn p t c))
theorem XcB_iff {p t c : Nat} : XcB p t c = true ↔ Xc p t c := by
  unfold XcB Xc inXn inYn
  simp only [Bool.and_eq_true, decide_eq_true_eq, and_assoc]
/-- a hedge of height L in the cell c would block -/
def blB (p t e u c L : Nat) : Bool := XcB p t c && decide (wcl p t e u c < L)
theorem cl_spec {S : GS} {p t e u c : Nat} {x7 x8 : Int32} (hp : p < 192) (ht : t < 192) (hc : c < 192) (he : e ≤ 60) (hu : u ≤ 60) : fX2_clearance S (lkF p t e u x7 x8) (nI (c % 16)) (nI (c / 16)) = if XcB p t c = true then nI (clN e u (prt p t) (bgN (dXn p t) (dYn p t) (fXn p t c) (fYn p t c)) (edN (dXn p t) (dYn p t) (fXn p t c) (fYn p t c))) else -1 := by
  have hz := nr2_Z (S := S) (e := e) (u := u) (x7 := x7) (x8 := x8) hp ht hc
  have hP := prt_le hp ht
  have m1 : mx1 (dXn p t) ≤ 400 := mx1_le (by have := dXn_lt p t; omega) (by decide)
  have m2 : mx1 (dYn p t) ≤ 400 := mx1_le (by have := dYn_lt hp ht; omega) (by decide)
  have s0 : sml 0 := by unfold sml; omega
  have sP : sml (prt p t : Int) := by unfold sml; omega
  have sB : sml (mB p t c) := nB_sml m1 (aY_sml hp hc) (nB_sml m2 (aX_sml p c) s0)
  have sE : sml (mE p t c) := nE_sml m1 (aY_sml hp hc) (nE_sml m2 (aX_sml p c) sP)
  rw [cl_f, hz.1, hz.2]
  by_cases hX : Xc p t c
  · rw [if_pos ((zI_lt sB sE).mpr (mcross.mpr hX)), if_pos (XcB_iff.mpr hX)]
    have hm := mcross_in hX.1.1 hX.1.2
    have hlt := hX.2
    have hl : edN (dXn p t) (dYn p t) (fXn p t c) (fYn p t c) ≤ prt p t := ed_le _ _ _ _
    rw [hm.1, hm.2, ← zI_nat, ← zI_nat]
    generalize hb0 : bgN (dXn p t) (dYn p t) (fXn p t c) (fYn p t c) = b at *
    generalize hl0 : edN (dXn p t) (dYn p t) (fXn p t c) (fYn p t c) = l at *
    show (if nI e * nI (prt p t) + nI l * (nI u - nI e) ≤ nI e * nI (prt p t) + nI b * (nI u - nI e) then nI e * nI (prt p t) + nI l * (nI u - nI e) else nI e * nI (prt p t) + nI b * (nI u - nI e)) = _
    have hv : ∀ x : Nat, x ≤ 330 → nI e * nI (prt p t) + nI x * (nI u - nI e) = zI ((e : Int) * (prt p t : Int) + (x : Int) * ((u : Int) - (e : Int))) := fun x _ => by
      rw [zI_nat, zI_nat, zI_nat, zI_nat, zI_mul, zI_sub, zI_mul, zI_add]
    have sv : ∀ x : Nat, x ≤ 330 → sml ((e : Int) * (prt p t : Int) + (x : Int) * ((u : Int) - (e : Int))) := fun x hx => by
      have h1 := Nat.mul_le_mul he hP
      have h2 : ((x : Int) * ((u : Int) - (e : Int))).natAbs ≤ 330 * 60 := by rw [Int.natAbs_mul]; exact Nat.mul_le_mul (by omega) (by omega)
      have h3 : ((e : Int) * (prt p t : Int)).natAbs ≤ 60 * 330 := by rw [Int.natAbs_mul]; exact Nat.mul_le_mul (by omega) (by omega)
      unfold sml; omega
    rw [hv l (by omega), hv b (by omega)]
    by_cases hue : u < e
    · have h5 : (l : Int) * ((u : Int) - (e : Int)) ≤ (b : Int) * ((u : Int) - (e : Int)) := Int.mul_le_mul_of_nonpos_right (by omega) (by omega)
      rw [if_pos ((zI_le (sv l (by omega)) (sv b (by omega))).mpr (by omega)), ← hv l (by omega)]
      have := cl_eq (b := b) he hu hl
      rw [if_pos (nI_lt hue (by omega))] at this
      rw [← this]; grind
    · have h6 : nI e * nI (prt p t) + nI b * (nI u - nI e) = nI (clN e u (prt p t) b l) := by
        have := cl_eq (b := b) he hu hl
        rw [if_neg (nI_nlt (by omega) (by omega))] at this
        rw [← this]; grind
      split
      · rename_i h7
        have h8 := (zI_le (sv l (by omega)) (sv b (by omega))).mp h7
        have h9 : (l : Int) * ((u : Int) - (e : Int)) = (b : Int) * ((u : Int) - (e : Int)) := by
          have : (b : Int) * ((u : Int) - (e : Int)) ≤ (l : Int) * ((u : Int) - (e : Int)) := Int.mul_le_mul_of_nonneg_right (by omega) (by omega)
          omega
        rw [h9, ← hv b (by omega), h6]
      · rw [← hv b (by omega), h6]
  · rw [if_neg (fun q => hX (mcross.mp ((zI_lt sB sE).mp q))), if_neg (fun q => hX (XcB_iff.mp q))]
theorem low_spec {S : GS} {p t e u c L : Nat} {x7 x8 : Int32} (hp : p < 192) (ht : t < 192) (hc : c < 192) (he : e ≤ 60) (hu : u ≤ 60) (hL : S 17 c = nI L) (hL9 : L ≤ 60) : fX2_loweredTo S (lkF p t e u x7 x8) c = if blB p t e u c L = true then nI (wcl p t e u c) else -1 := by
  have hP := prt_le hp ht
  have hP0 := prt_pos p t
  unfold fX2_loweredTo
  rw [cl_whole, cl_spec hp ht hc he hu, hL]
  show (if nI L = 0 then (-1 : Int32) else _) = _
  by_cases h0 : L = 0
  · rw [if_pos (by rw [h0]; rfl), if_neg]
    unfold blB; rw [h0]; simp
  · rw [if_neg (nI_ne0 (by omega) (by omega))]
    by_cases hX : XcB p t c = true
    · rw [if_pos hX]
      have hXc := XcB_iff.mp hX
      have hl : edN (dXn p t) (dYn p t) (fXn p t c) (fYn p t c) ≤ prt p t := ed_le _ _ _ _
      have hb : bgN (dXn p t) (dYn p t) (fXn p t c) (fYn p t c) ≤ prt p t := by have := hXc.2; omega
      have hcl := clN_lt (l := edN (dXn p t) (dYn p t) (fXn p t c) (fYn p t c)) he hu hP hb
      have hm := Nat.mul_le_mul hL9 hP
      rw [if_neg (nI_pos (by omega))]
      show (if nI L * nI (prt p t) ≤ _ then (-1 : Int32) else _ / nI (prt p t)) = _
      rw [pk_mul, pk_div (by omega) hP0 (by omega)]
      unfold blB wcl
      rw [hX, Bool.true_and]
      by_cases hq : clN e u (prt p t) (bgN (dXn p t) (dYn p t) (fXn p t c) (fYn p t c)) (edN (dXn p t) (dYn p t) (fXn p t c) (fYn p t c)) / prt p t < L
      · have h2 := (Nat.div_lt_iff_lt_mul hP0).mp hq
        rw [if_neg (nI_ge h2 (by omega)), if_pos (decide_eq_true hq)]
      · have h2 : ¬ clN e u (prt p t) (bgN (dXn p t) (dYn p t) (fXn p t c) (fYn p t c)) (edN (dXn p t) (dYn p t) (fXn p t c) (fYn p t c)) < L * prt p t := fun q => hq ((Nat.div_lt_iff_lt_mul hP0).mpr q)
        rw [if_pos (nI_le (by omega) (by omega)), if_neg (by rw [decide_eq_false hq]; decide)]
    · rw [if_neg hX]
      have : blB p t e u c L = false := by unfold blB; cases h : XcB p t c <;> simp_all
      rw [if_pos (by decide), this]; rfl
/-! the class's steps -/
theorem cs_0 (p t : Nat) : cs p t 0 = p := by
  have h : tv p t 0 = (0, 0, 0) := rfl
  unfold cs csX csY; rw [h]; simp; omega
theorem cs_N {p t : Nat} (hp : p < 192) (ht : t < 192) : cs p t (vN p t) = t := by
  have h := geo_arr (dXn_lt p t) (dYn_lt hp ht)
  have h1 : (tv p t (vN p t)).1 = dXn p t := h.1
  have h2 : (tv p t (vN p t)).2.1 = dYn p t := h.2
  unfold cs csX csY; rw [h1, h2]; unfold dXn dYn
  split <;> split <;> omega
theorem cs_f {p t n : Nat} (hp : p < 192) (ht : t < 192) (hn : n ≤ vN p t) : fXn p t (cs p t n) = (tv p t n).1 ∧ fYn p t (cs p t n) = (tv p t n).2.1 ∧ cs p t n % 16 = csX p t (tv p t n).1 ∧ cs p t n / 16 = csY p t (tv p t n).2.1 := by
  have h := tv_in hp ht hn
  have h1 := csX_lt h.1
  have e1 : cs p t n % 16 = csX p t (tv p t n).1 := by unfold cs; omega
  have e2 : cs p t n / 16 = csY p t (tv p t n).2.1 := by unfold cs; omega
  refine ⟨?_, ?_, e1, e2⟩
  · unfold fXn; rw [e1]
    have := h.1
    unfold csX; unfold dXn at this
    split <;> simp_all <;> omega
  · unfold fYn; rw [e2]
    have := h.2
    unfold csY; unfold dYn at this
    split <;> simp_all <;> omega
theorem cs_X {p t e u n : Nat} (hp : p < 192) (ht : t < 192) (hn : n ≤ vN p t) : XcB p t (cs p t n) = true ∧ wcl p t e u (cs p t n) = wn p t e u n := by
  have h := cs_f hp ht hn
  have hg := geo_in (dXn_lt p t) (dYn_lt hp ht) hn
  refine ⟨?_, ?_⟩
  · rw [XcB_iff]
    unfold Xc inXn inYn
    rw [h.1, h.2.1, h.2.2.1, h.2.2.2]
    exact ⟨⟨⟨rfl, hg.1⟩, ⟨rfl, hg.2.1⟩⟩, hg.2.2.2.1⟩
  · unfold wcl wn; rw [h.1, h.2.1]
theorem cs_all {p t c : Nat} (hp : p < 192) (ht : t < 192) (hX : XcB p t c = true) : ∃ n, n ≤ vN p t ∧ cs p t n = c := by
  obtain ⟨⟨⟨a1, a2⟩, ⟨a3, a4⟩⟩, a5⟩ := XcB_iff.mp hX
  obtain ⟨n, h1, h2, h3⟩ := geo_all (dXn_lt p t) (dYn_lt hp ht) a2 a4 a5
  refine ⟨n, h1, ?_⟩
  have h2' : (tv p t n).1 = fXn p t c := h2
  have h3' : (tv p t n).2.1 = fYn p t c := h3
  unfold cs; rw [h2', h3', a1, a3]; omega
theorem cs_inj {p t n m : Nat} (hp : p < 192) (ht : t < 192) (hn : n ≤ vN p t) (hm : m ≤ vN p t) (h : cs p t n = cs p t m) : n = m := by
  have h1 := cs_f hp ht hn
  have h2 := cs_f hp ht hm
  rw [h] at h1
  exact geo_inj (dXn_lt p t) (dYn_lt hp ht) hn hm (h1.1.symm.trans h2.1) (h1.2.1.symm.trans h2.2.1)
