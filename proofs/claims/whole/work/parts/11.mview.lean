/-! ===== the reference's view, in numbers ===== -/
def zI (i : Int) : Int32 := Int32.ofInt i
theorem zI_nat (n : Nat) : nI n = zI (n : Int) := by
  apply Int32.toBitVec_inj.1
  show BitVec.ofNat 32 n = BitVec.ofInt 32 (n : Int)
  rw [BitVec.ofInt_natCast]
theorem zI_add (a b : Int) : zI a + zI b = zI (a + b) := (Int32.ofInt_add a b).symm
theorem zI_mul (a b : Int) : zI a * zI b = zI (a * b) := (Int32.ofInt_mul a b).symm
theorem zI_sub (a b : Int) : zI a - zI b = zI (a - b) := (Int32.ofInt_sub a b).symm
theorem zI_neg (a : Int) : -zI a = zI (-a) := (Int32.ofInt_neg a).symm
theorem zI_toInt {a : Int} (h1 : -2147483648 ≤ a) (h2 : a < 2147483648) : (zI a).toInt = a := by
  unfold zI
  rw [Int32.toInt_ofInt, show Int32.size = 4294967296 from rfl]
  exact Int.bmod_eq_of_le (by omega) (by omega)
/-- a small number -/
def sml (a : Int) : Prop := -1000000 ≤ a ∧ a ≤ 1000000
theorem zI_lt {a b : Int} (ha : sml a) (hb : sml b) : zI a < zI b ↔ a < b := by
  unfold sml at ha hb
  rw [Int32.lt_iff_toInt_lt, zI_toInt (by omega) (by omega), zI_toInt (by omega) (by omega)]
theorem zI_le {a b : Int} (ha : sml a) (hb : sml b) : zI a ≤ zI b ↔ a ≤ b := by
  unfold sml at ha hb
  rw [Int32.le_iff_toInt_le, zI_toInt (by omega) (by omega), zI_toInt (by omega) (by omega)]
theorem zI_eq {a b : Int} (ha : sml a) (hb : sml b) : zI a = zI b ↔ a = b := by
  unfold sml at ha hb
  rw [← Int32.toInt_inj, zI_toInt (by omega) (by omega), zI_toInt (by omega) (by omega)]
theorem zI_0 : (0 : Int32) = zI 0 := rfl
theorem zI_1 : (1 : Int32) = zI 1 := rfl
theorem zI_2 : (2 : Int32) = zI 2 := rfl
theorem zI_m1 : (-1 : Int32) = zI (-1) := rfl
theorem sml_mul {a b : Int} {A B : Nat} (ha : a.natAbs ≤ A) (hb : b.natAbs ≤ B) (h : A * B ≤ 1000000) : sml (a * b) := by
  have h1 : (a * b).natAbs ≤ A * B := by rw [Int.natAbs_mul]; exact Nat.mul_le_mul ha hb
  unfold sml; omega
theorem size_zI {a : Int} (ha : sml a) : fX2_size (zI a) = nI a.natAbs := by
  unfold fX2_size
  rw [zI_0]
  by_cases h : 0 ≤ a
  · rw [if_pos ((zI_le (by unfold sml; omega) ha).mpr h), zI_nat]; congr 1; omega
  · rw [if_neg (fun q => h ((zI_le (by unfold sml; omega) ha).mp q)), zI_neg, zI_nat]; congr 1; omega
theorem alo_nI {n : Nat} (h : n < 2 ^ 31) : fX2_atLeastOne (nI n) = nI (mx1 n) := by
  unfold fX2_atLeastOne mx1
  by_cases h0 : n = 0
  · subst h0; rfl
  · rw [if_neg h0, if_pos]
    rw [nI_one]; exact nI_le (by omega) h
/-- the strip's part of one direction, over the whole numbers -/
def zfar (o al : Int) : Int := if al ≤ 0 then -o else o
def nB (hf o al b : Int) : Int := if al = 0 then b else (if (2 * zfar o al - 1) * hf ≤ b then b else (2 * zfar o al - 1) * hf)
def nE (hf o al e : Int) : Int := if al = 0 then (if o = 0 then e else -1) else (if e ≤ (2 * zfar o al + 1) * hf then e else (2 * zfar o al + 1) * hf)
theorem nr_Z {S : GS} {F : Nat → Int32} {P h : Nat} {o al b e : Int} (h6 : F 6 = nI P) (h7 : F 7 = zI b) (h8 : F 8 = zI e) (hP : P ≤ 400) (hh : al ≠ 0 → P / 2 / al.natAbs = h) (hh9 : h ≤ 400) (ho : o.natAbs ≤ 20) (hal : al.natAbs ≤ 20) (hb : sml b) (he : sml e) :
    gX2_narrow S F (zI o) (zI al) 7 = zI (nB h o al b) ∧ gX2_narrow S F (zI o) (zI al) 8 = zI (nE h o al e) := by
  have so : sml o := by unfold sml; omega
  have sa : sml al := by unfold sml; omega
  have s0 : sml 0 := by unfold sml; omega
  unfold gX2_narrow nB nE
  rw [h7, h8, h6]
  by_cases c : al = 0
  · rw [if_pos (show zI al = 0 by rw [c]; rfl), if_pos c, if_pos c]
    refine ⟨rfl, ?_⟩
    show (if zI o = 0 then zI e else -1) = _
    by_cases c2 : o = 0
    · rw [if_pos c2, if_pos (by rw [c2]; rfl)]
    · rw [if_neg c2, if_neg (show ¬ zI o = 0 from fun q => c2 ((zI_eq so s0).mp q))]; rfl
  · rw [if_neg (show ¬ zI al = 0 from fun q => c ((zI_eq sa s0).mp q)), if_neg c, if_neg c]
    have ehalf : nI P / 2 / fX2_size (zI al) = zI (h : Int) := by
      rw [size_zI sa, nI_two, pk_div (by omega) (by decide) (by decide), pk_div (by omega) (by omega) (by omega), hh c, zI_nat]
    have efar : (if zI al ≤ 0 then -zI o else zI o) = zI (zfar o al) := by
      unfold zfar
      by_cases c3 : al ≤ 0
      · rw [if_pos c3, if_pos (show zI al ≤ 0 from (zI_le sa s0).mpr c3), zI_neg]
      · rw [if_neg c3, if_neg (show ¬ zI al ≤ 0 from fun q => c3 ((zI_le sa s0).mp q))]
    have hz : (zfar o al).natAbs ≤ 20 := by unfold zfar; split <;> omega
    have s1 : sml ((2 * zfar o al - 1) * (h : Int)) := sml_mul (A := 41) (B := 400) (by omega) (by omega) (by decide)
    have s2 : sml ((2 * zfar o al + 1) * (h : Int)) := sml_mul (A := 41) (B := 400) (by omega) (by omega) (by decide)
    have e1 : (2 * (if zI al ≤ 0 then -zI o else zI o) - 1) * (nI P / 2 / fX2_size (zI al)) = zI ((2 * zfar o al - 1) * (h : Int)) := by
      rw [efar, ehalf, zI_2, zI_1, zI_mul, zI_sub, zI_mul]
    have e2 : (2 * (if zI al ≤ 0 then -zI o else zI o) + 1) * (nI P / 2 / fX2_size (zI al)) = zI ((2 * zfar o al + 1) * (h : Int)) := by
      rw [efar, ehalf, zI_2, zI_1, zI_mul, zI_add, zI_mul]
    rw [e1, e2]
    refine ⟨?_, ?_⟩
    · show (if zI ((2 * zfar o al - 1) * (h : Int)) ≤ zI b then zI b else zI ((2 * zfar o al - 1) * (h : Int))) = _
      by_cases c4 : (2 * zfar o al - 1) * (h : Int) ≤ b
      · rw [if_pos c4, if_pos ((zI_le s1 hb).mpr c4)]
      · rw [if_neg c4, if_neg (fun q => c4 ((zI_le s1 hb).mp q))]
    · show (if zI e ≤ zI ((2 * zfar o al + 1) * (h : Int)) then zI e else zI ((2 * zfar o al + 1) * (h : Int))) = _
      by_cases c4 : e ≤ (2 * zfar o al + 1) * (h : Int)
      · rw [if_pos c4, if_pos ((zI_le he s2).mpr c4)]
      · rw [if_neg c4, if_neg (fun q => c4 ((zI_le he s2).mp q))]
