/-! ===== the class and its line: methods without loops ===== -/
theorem icn_in {x : Int32} (h : ¬ fX1_isCellNumber x = 0) : vp_in x 192 := by
  unfold fX1_isCellNumber at h
  rw [vp_in_iff]
  have e192 : (192 : Int32).toInt = 192 := by decide
  have e0 : (0 : Int32).toInt = 0 := by decide
  split at h
  · exact absurd rfl h
  · rename_i h1
    split at h
    · exact absurd rfl h
    · rename_i h2
      rw [Int32.lt_iff_toInt_lt, e0] at h1
      rw [Int32.le_iff_toInt_le, e192] at h2
      omega
/-- the size of the garden is bounded -/
def okC (S : GS) : Prop := S 0 0 ≤ 16 ∧ S 0 1 ≤ 12

def fX1_hasCell (S : GS) (x : Int32) (y : Int32) : Int32 := if x < 0 then 0 else (if S 0 0 ≤ x then 0 else (if y < 0 then 0 else (if S 0 1 ≤ y then 0 else 1)))
set_option maxHeartbeats 4000000 in
set_option maxRecDepth 100000 in
theorem kX1_hasCell {l : Launch} {D : va_G} {cy : ClassId} {hs : Nat → Nat} {X : va_W} (S : GS) (x : Int32) (y : Int32) : Ct l D cy (wC cy hs X) yX1_hasCell cX1_hasCell 3 (some .boolean) 0 0 S [.ref (hs 0), .int x, .int y] (QI D (wC cy hs X) (exI (fX1_hasCell S x y) (S))) := by
  refine Ct.of wC_adr (plainFor_of_name (by decide)) (Nat.le_of_ble_eq_true rfl) ?_
  intro p e s m below meth c ls C hl hG
  obtain ⟨hx, hb, hml, hown, hts, hr, hlk⟩ := C
  have hl : lv_has ls 3 [(0, .ref (hs 0)), (1, .int x), (2, .int y)] := hl
  refine lv_iload_n hx hb dX1_hasCell_0 rfl (lv_at hl 1 rfl) ?_
  refine lv_if_lt (tgt := 28) hx hb dX1_hasCell_1 (by decide) (fun c1 => ?_) (fun c1 => ?_)
  · refine lv_iconst (v := 0) hx hb dX1_hasCell_28 (by decide) ?_
    exact g_zret hx hb hr hlk hG rfl ⟨by unfold fX1_hasCell; rw [if_pos c1], rfl⟩ dX1_hasCell_29
  · refine lv_iload_n hx hb dX1_hasCell_4 rfl (lv_at hl 1 rfl) ?_
    refine lv_aload_n hx hb dX1_hasCell_5 rfl (lv_at hl 0 rfl) ?_
    refine g_get hx hb hts hown hG inX1 0 rfl rfl 0 (by decide) q105 (v := .int (S 0 0)) rfl dX1_hasCell_6 ?_
    refine lv_icmp_ge (tgt := 28) hx hb dX1_hasCell_9 (by decide) (fun c2 => ?_) (fun c2 => ?_)
    · refine lv_iconst (v := 0) hx hb dX1_hasCell_28 (by decide) ?_
      exact g_zret hx hb hr hlk hG rfl ⟨by unfold fX1_hasCell; rw [if_neg c1, if_pos c2], rfl⟩ dX1_hasCell_29
    · refine lv_iload_n hx hb dX1_hasCell_12 rfl (lv_at hl 2 rfl) ?_
      refine lv_if_lt (tgt := 28) hx hb dX1_hasCell_13 (by decide) (fun c3 => ?_) (fun c3 => ?_)
      · refine lv_iconst (v := 0) hx hb dX1_hasCell_28 (by decide) ?_
        exact g_zret hx hb hr hlk hG rfl ⟨by unfold fX1_hasCell; rw [if_neg c1, if_neg c2, if_pos c3], rfl⟩ dX1_hasCell_29
      · refine lv_iload_n hx hb dX1_hasCell_16 rfl (lv_at hl 2 rfl) ?_
        refine lv_aload_n hx hb dX1_hasCell_17 rfl (lv_at hl 0 rfl) ?_
        refine g_get hx hb hts hown hG inX1 0 rfl rfl 1 (by decide) q106 (v := .int (S 0 1)) rfl dX1_hasCell_18 ?_
        refine lv_icmp_ge (tgt := 28) hx hb dX1_hasCell_21 (by decide) (fun c4 => ?_) (fun c4 => ?_)
        · refine lv_iconst (v := 0) hx hb dX1_hasCell_28 (by decide) ?_
          exact g_zret hx hb hr hlk hG rfl ⟨by unfold fX1_hasCell; rw [if_neg c1, if_neg c2, if_neg c3, if_pos c4], rfl⟩ dX1_hasCell_29
        · refine lv_iconst (v := 1) hx hb dX1_hasCell_24 (by decide) ?_
          refine lv_goto (tgt := 29) hx hb dX1_hasCell_25 (by decide) ?_
          exact g_zret hx hb hr hlk hG rfl ⟨by unfold fX1_hasCell; rw [if_neg c1, if_neg c2, if_neg c3, if_neg c4], rfl⟩ dX1_hasCell_29

theorem cell_in {S : GS} {x y : Int32} (ho : okC S) (h : ¬ fX1_hasCell S x y = 0) : ∃ a b : Nat, a < 16 ∧ b < 12 ∧ x = nI a ∧ y = nI b ∧ nI a < S 0 0 ∧ nI b < S 0 1 := by
  unfold fX1_hasCell at h
  obtain ⟨ho1, ho2⟩ := ho
  have e16 : (16 : Int32).toInt = 16 := by decide
  have e12 : (12 : Int32).toInt = 12 := by decide
  have e0 : (0 : Int32).toInt = 0 := by decide
  split at h
  · exact absurd rfl h
  · rename_i h1
    split at h
    · exact absurd rfl h
    · rename_i h2
      split at h
      · exact absurd rfl h
      · rename_i h3
        split at h
        · exact absurd rfl h
        · rename_i h4
          rw [Int32.lt_iff_toInt_lt, e0] at h1 h3
          rw [Int32.le_iff_toInt_le] at h2 h4
          rw [Int32.le_iff_toInt_le, e16] at ho1
          rw [Int32.le_iff_toInt_le, e12] at ho2
          have ex : x = nI x.toInt.toNat := Int32.toInt_inj.mp (by rw [nI_toInt (by omega)]; omega)
          have ey : y = nI y.toInt.toNat := Int32.toInt_inj.mp (by rw [nI_toInt (by omega)]; omega)
          refine ⟨x.toInt.toNat, y.toInt.toNat, by omega, by omega, ex, ey, ?_, ?_⟩
          · rw [← ex, Int32.lt_iff_toInt_lt]; omega
          · rw [← ey, Int32.lt_iff_toInt_lt]; omega
theorem cellAt_nI (a b : Nat) : fX1_cellAt (nI a) (nI b) = nI (16 * b + a) := by
  unfold fX1_cellAt
  rw [show (16 : Int32) = nI 16 from rfl, pk_mul, nI_add]
theorem cellAt_in {S : GS} {x y : Int32} (ho : okC S) (h : ¬ fX1_hasCell S x y = 0) : vp_in (fX1_cellAt x y) 192 := by
  obtain ⟨a, b, ha, hb, rfl, rfl, -, -⟩ := cell_in ho h
  rw [cellAt_nI]
  exact vp_in_nI (by omega) (by decide)

def fX1_isPlace (S : GS) (x : Int32) : Int32 := if fX1_isCellNumber x = 0 then 0 else (if fX1_isPlaceKind (S 2 (x).toNatClampNeg) = 0 then 0 else 1)
set_option maxHeartbeats 4000000 in
set_option maxRecDepth 100000 in
theorem kX1_isPlace {l : Launch} {D : va_G} {cy : ClassId} {hs : Nat → Nat} {X : va_W} (S : GS) (x : Int32) : Ct l D cy (wC cy hs X) yX1_isPlace cX1_isPlace 2 (some .boolean) 1 20 S [.ref (hs 0), .int x] (QI D (wC cy hs X) (exI (fX1_isPlace S x) (S))) := by
  refine Ct.of wC_adr (plainFor_of_name (by decide)) (Nat.le_of_ble_eq_true rfl) ?_
  intro p e s m below meth c ls C hl hG
  obtain ⟨hx, hb, hml, hown, hts, hr, hlk⟩ := C
  have hl : lv_has ls 2 [(0, .ref (hs 0)), (1, .int x)] := hl
  refine lv_iload_n hx hb dX1_isPlace_0 rfl (lv_at hl 1 rfl) ?_
  refine g_stat (As := [.int x]) (rest := []) ⟨hx, hb, hml, hown, hts⟩ (kX1_isCellNumber x) wyX1_isCellNumber q221 hG ⟨by decide, by decide⟩ rfl rfl hl.1 (Nat.le_of_ble_eq_true rfl) ⟨Nat.le_refl 0, Nat.le_refl 0⟩ dX1_isPlace_1 (fun H locs hG => ?_)
  refine lv_if_eq (tgt := 23) hx hb dX1_isPlace_4 (by decide) (fun c1 => ?_) (fun c1 => ?_)
  · refine lv_iconst (v := 0) hx hb dX1_isPlace_23 (by decide) ?_
    exact g_zret hx hb hr hlk hG rfl ⟨by unfold fX1_isPlace; rw [if_pos c1], rfl⟩ dX1_isPlace_24
  · refine lv_aload_n hx hb dX1_isPlace_7 rfl (lv_at hl 0 rfl) ?_
    refine g_get hx hb hts hown hG inX1 0 rfl rfl 2 (by decide) q107 (v := .ref (hs 2)) rfl dX1_isPlace_8 ?_
    refine lv_iload_n hx hb dX1_isPlace_11 rfl (lv_at hl 1 rfl) ?_
    refine g_ald (f := S 2) hx hb hG 1 rfl (icn_in c1) dX1_isPlace_12 ?_
    refine g_stat (As := [.int (S 2 (x).toNatClampNeg)]) (rest := []) ⟨hx, hb, hml, hown, hts⟩ (kX1_isPlaceKind (S 2 (x).toNatClampNeg)) wyX1_isPlaceKind q159 hG ⟨by decide, by decide⟩ rfl rfl hl.1 (Nat.le_of_ble_eq_true rfl) ⟨Nat.le_refl 0, Nat.le_refl 0⟩ dX1_isPlace_13 (fun H locs hG => ?_)
    refine lv_if_eq (tgt := 23) hx hb dX1_isPlace_16 (by decide) (fun c2 => ?_) (fun c2 => ?_)
    · refine lv_iconst (v := 0) hx hb dX1_isPlace_23 (by decide) ?_
      exact g_zret hx hb hr hlk hG rfl ⟨by unfold fX1_isPlace; rw [if_neg c1, if_pos c2], rfl⟩ dX1_isPlace_24
    · refine lv_iconst (v := 1) hx hb dX1_isPlace_19 (by decide) ?_
      refine lv_goto (tgt := 24) hx hb dX1_isPlace_20 (by decide) ?_
      exact g_zret hx hb hr hlk hG rfl ⟨by unfold fX1_isPlace; rw [if_neg c1, if_neg c2], rfl⟩ dX1_isPlace_24
def fX1_hasFeature (S : GS) (x : Int32) : Int32 := if x < 0 then 0 else (if S 0 4 ≤ x then 0 else 1)
set_option maxHeartbeats 4000000 in
set_option maxRecDepth 100000 in
theorem kX1_hasFeature {l : Launch} {D : va_G} {cy : ClassId} {hs : Nat → Nat} {X : va_W} (S : GS) (x : Int32) : Ct l D cy (wC cy hs X) yX1_hasFeature cX1_hasFeature 2 (some .boolean) 0 0 S [.ref (hs 0), .int x] (QI D (wC cy hs X) (exI (fX1_hasFeature S x) (S))) := by
  refine Ct.of wC_adr (plainFor_of_name (by decide)) (Nat.le_of_ble_eq_true rfl) ?_
  intro p e s m below meth c ls C hl hG
  obtain ⟨hx, hb, hml, hown, hts, hr, hlk⟩ := C
  have hl : lv_has ls 2 [(0, .ref (hs 0)), (1, .int x)] := hl
  refine lv_iload_n hx hb dX1_hasFeature_0 rfl (lv_at hl 1 rfl) ?_
  refine lv_if_lt (tgt := 16) hx hb dX1_hasFeature_1 (by decide) (fun c1 => ?_) (fun c1 => ?_)
  · refine lv_iconst (v := 0) hx hb dX1_hasFeature_16 (by decide) ?_
    exact g_zret hx hb hr hlk hG rfl ⟨by unfold fX1_hasFeature; rw [if_pos c1], rfl⟩ dX1_hasFeature_17
  · refine lv_iload_n hx hb dX1_hasFeature_4 rfl (lv_at hl 1 rfl) ?_
    refine lv_aload_n hx hb dX1_hasFeature_5 rfl (lv_at hl 0 rfl) ?_
    refine g_get hx hb hts hown hG inX1 0 rfl rfl 4 (by decide) q109 (v := .int (S 0 4)) rfl dX1_hasFeature_6 ?_
    refine lv_icmp_ge (tgt := 16) hx hb dX1_hasFeature_9 (by decide) (fun c2 => ?_) (fun c2 => ?_)
    · refine lv_iconst (v := 0) hx hb dX1_hasFeature_16 (by decide) ?_
      exact g_zret hx hb hr hlk hG rfl ⟨by unfold fX1_hasFeature; rw [if_neg c1, if_pos c2], rfl⟩ dX1_hasFeature_17
    · refine lv_iconst (v := 1) hx hb dX1_hasFeature_12 (by decide) ?_
      refine lv_goto (tgt := 17) hx hb dX1_hasFeature_13 (by decide) ?_
      exact g_zret hx hb hr hlk hG rfl ⟨by unfold fX1_hasFeature; rw [if_neg c1, if_neg c2], rfl⟩ dX1_hasFeature_17
def fX1_changeError (S : GS) (x : Int32) (y : Int32) (g : Int32) : Int32 := if fX1_hasCell S x y = 0 then (-1) else (if g = 0 then (-4) else (if S 2 (fX1_cellAt x y).toNatClampNeg = 4 then (-6) else 0))
set_option maxHeartbeats 4000000 in
set_option maxRecDepth 100000 in
theorem kX1_changeError {l : Launch} {D : va_G} {cy : ClassId} {hs : Nat → Nat} {X : va_W} (S : GS) (x : Int32) (y : Int32) (g : Int32) (ho : okC S) : Ct l D cy (wC cy hs X) yX1_changeError cX1_changeError 4 (some .int) 1 22 S [.ref (hs 0), .int x, .int y, .int g] (QI D (wC cy hs X) (exI (fX1_changeError S x y g) (S))) := by
  refine Ct.of wC_adr (plainFor_of_name (by decide)) (Nat.le_of_ble_eq_true rfl) ?_
  intro p e s m below meth c ls C hl hG
  obtain ⟨hx, hb, hml, hown, hts, hr, hlk⟩ := C
  have hl : lv_has ls 4 [(0, .ref (hs 0)), (1, .int x), (2, .int y), (3, .int g)] := hl
  refine lv_aload_n hx hb dX1_changeError_0 rfl (lv_at hl 0 rfl) ?_
  refine lv_iload_n hx hb dX1_changeError_1 rfl (lv_at hl 1 rfl) ?_
  refine lv_iload_n hx hb dX1_changeError_2 rfl (lv_at hl 2 rfl) ?_
  refine g_calliE wC_adr hG (g_runV (As := [.int x, .int y]) (rest := []) ⟨hx, hb, hml, hown, hts⟩ wC_adr (kX1_hasCell S x y) wyX1_hasCell q166 hG 0 rfl rfl ⟨by decide, by decide⟩ rfl rfl hl.1 (Nat.le_of_ble_eq_true rfl) ⟨Nat.le_refl 0, Nat.le_refl 0⟩ dX1_changeError_3) (fun H locs hG => ?_)
  refine lv_if_ne (tgt := 11) hx hb dX1_changeError_6 (by decide) (fun c1 => ?_) (fun c1 => ?_)
  · refine lv_iload_n hx hb dX1_changeError_11 rfl (lv_at hl 3 rfl) ?_
    refine lv_if_ne (tgt := 18) hx hb dX1_changeError_12 (by decide) (fun c2 => ?_) (fun c2 => ?_)
    · refine lv_aload_n hx hb dX1_changeError_18 rfl (lv_at hl 0 rfl) ?_
      refine g_get hx hb hts hown hG inX1 0 rfl rfl 2 (by decide) q107 (v := .ref (hs 2)) rfl dX1_changeError_19 ?_
      refine lv_iload_n hx hb dX1_changeError_22 rfl (lv_at hl 1 rfl) ?_
      refine lv_iload_n hx hb dX1_changeError_23 rfl (lv_at hl 2 rfl) ?_
      refine g_stat (As := [.int x, .int y]) (rest := [.ref (hs 2)]) ⟨hx, hb, hml, hown, hts⟩ (kX1_cellAt x y) wyX1_cellAt q170 hG ⟨by decide, by decide⟩ rfl rfl hl.1 (Nat.le_of_ble_eq_true rfl) ⟨Nat.le_refl 0, Nat.le_refl 0⟩ dX1_changeError_24 (fun H locs hG => ?_)
      refine g_ald (f := S 2) hx hb hG 1 rfl (cellAt_in ho c1) dX1_changeError_27 ?_
      refine lv_iconst (v := 4) hx hb dX1_changeError_28 (by decide) ?_
      refine g_dia (P := S 2 (fX1_cellAt x y).toNatClampNeg = 4) (J := 38) (A9 := (-6)) (B9 := 0) (ls9 := ls) (rest9 := []) (fun ka4 kb5 => ?_) ?_
      · refine lv_icmp_ne (tgt := 37) hx hb dX1_changeError_29 (by decide) (fun c3 => ?_) (fun c3 => ?_)
        · refine lv_iconst (v := 0) hx hb dX1_changeError_37 (by decide) ?_
          exact kb5 c3
        · refine lv_bipush (v := (-6)) hx hb dX1_changeError_32 (by decide) ?_
          refine lv_goto (tgt := 38) hx hb dX1_changeError_34 (by decide) ?_
          exact ka4 c3
      exact g_iret hx hb hr hlk hG ⟨by unfold fX1_changeError; rw [if_neg c1, if_neg c2], rfl⟩ dX1_changeError_38
    · refine lv_bipush (v := (-4)) hx hb dX1_changeError_15 (by decide) ?_
      exact g_iret hx hb hr hlk hG ⟨by unfold fX1_changeError; rw [if_neg c1, if_pos c2], rfl⟩ dX1_changeError_17
  · refine lv_iconst (v := (-1)) hx hb dX1_changeError_9 (by decide) ?_
    exact g_iret hx hb hr hlk hG ⟨by unfold fX1_changeError; rw [if_pos c1], rfl⟩ dX1_changeError_10
def fX1_placeError (S : GS) (x : Int32) (y : Int32) : Int32 := if fX1_hasCell S x y = 0 then (-1) else (if fX1_isPlace S (fX1_cellAt x y) = 0 then (-3) else 0)
set_option maxHeartbeats 4000000 in
set_option maxRecDepth 100000 in
theorem kX1_placeError {l : Launch} {D : va_G} {cy : ClassId} {hs : Nat → Nat} {X : va_W} (S : GS) (x : Int32) (y : Int32) : Ct l D cy (wC cy hs X) yX1_placeError cX1_placeError 3 (some .int) 2 41 S [.ref (hs 0), .int x, .int y] (QI D (wC cy hs X) (exI (fX1_placeError S x y) (S))) := by
  refine Ct.of wC_adr (plainFor_of_name (by decide)) (Nat.le_of_ble_eq_true rfl) ?_
  intro p e s m below meth c ls C hl hG
  obtain ⟨hx, hb, hml, hown, hts, hr, hlk⟩ := C
  have hl : lv_has ls 3 [(0, .ref (hs 0)), (1, .int x), (2, .int y)] := hl
  refine lv_aload_n hx hb dX1_placeError_0 rfl (lv_at hl 0 rfl) ?_
  refine lv_iload_n hx hb dX1_placeError_1 rfl (lv_at hl 1 rfl) ?_
  refine lv_iload_n hx hb dX1_placeError_2 rfl (lv_at hl 2 rfl) ?_
  refine g_calliE wC_adr hG (g_runV (As := [.int x, .int y]) (rest := []) ⟨hx, hb, hml, hown, hts⟩ wC_adr (kX1_hasCell S x y) wyX1_hasCell q166 hG 0 rfl rfl ⟨by decide, by decide⟩ rfl rfl hl.1 (Nat.le_of_ble_eq_true rfl) ⟨Nat.le_refl 0, Nat.le_refl 0⟩ dX1_placeError_3) (fun H locs hG => ?_)
  refine lv_if_ne (tgt := 11) hx hb dX1_placeError_6 (by decide) (fun c1 => ?_) (fun c1 => ?_)
  · refine lv_aload_n hx hb dX1_placeError_11 rfl (lv_at hl 0 rfl) ?_
    refine lv_iload_n hx hb dX1_placeError_12 rfl (lv_at hl 1 rfl) ?_
    refine lv_iload_n hx hb dX1_placeError_13 rfl (lv_at hl 2 rfl) ?_
    refine g_stat (As := [.int x, .int y]) (rest := [.ref (hs 0)]) ⟨hx, hb, hml, hown, hts⟩ (kX1_cellAt x y) wyX1_cellAt q170 hG ⟨by decide, by decide⟩ rfl rfl hl.1 (Nat.le_of_ble_eq_true rfl) ⟨Nat.le_refl 0, Nat.le_refl 0⟩ dX1_placeError_14 (fun H locs hG => ?_)
    refine g_calliE wC_adr hG (g_runV (As := [.int (fX1_cellAt x y)]) (rest := []) ⟨hx, hb, hml, hown, hts⟩ wC_adr (kX1_isPlace S (fX1_cellAt x y)) wyX1_isPlace q217 hG 0 rfl rfl ⟨by decide, by decide⟩ rfl rfl hl.1 (Nat.le_of_ble_eq_true rfl) ⟨Nat.le_refl 0, Nat.le_refl 0⟩ dX1_placeError_17) (fun H locs hG => ?_)
    refine g_dia (P := fX1_isPlace S (fX1_cellAt x y) = 0) (J := 29) (A9 := (-3)) (B9 := 0) (ls9 := ls) (rest9 := []) (fun ka3 kb4 => ?_) ?_
    · refine lv_if_eq (tgt := 27) hx hb dX1_placeError_20 (by decide) (fun c2 => ?_) (fun c2 => ?_)
      · refine lv_bipush (v := (-3)) hx hb dX1_placeError_27 (by decide) ?_
        exact ka3 c2
      · refine lv_iconst (v := 0) hx hb dX1_placeError_23 (by decide) ?_
        refine lv_goto (tgt := 29) hx hb dX1_placeError_24 (by decide) ?_
        exact kb4 c2
    exact g_iret hx hb hr hlk hG ⟨by unfold fX1_placeError; rw [if_neg c1], rfl⟩ dX1_placeError_29
  · refine lv_iconst (v := (-1)) hx hb dX1_placeError_9 (by decide) ?_
    exact g_iret hx hb hr hlk hG ⟨by unfold fX1_placeError; rw [if_pos c1], rfl⟩ dX1_placeError_10
def fX1_viewError (S : GS) (x : Int32) (y : Int32) (f : Int32) : Int32 := if fX1_hasCell S x y = 0 then (-1) else (if fX1_hasFeature S f = 0 then (-2) else fX1_placeError S x y)
set_option maxHeartbeats 4000000 in
set_option maxRecDepth 100000 in
theorem kX1_viewError {l : Launch} {D : va_G} {cy : ClassId} {hs : Nat → Nat} {X : va_W} (S : GS) (x : Int32) (y : Int32) (f : Int32) : Ct l D cy (wC cy hs X) yX1_viewError cX1_viewError 4 (some .int) 3 63 S [.ref (hs 0), .int x, .int y, .int f] (QI D (wC cy hs X) (exI (fX1_viewError S x y f) (S))) := by
  refine Ct.of wC_adr (plainFor_of_name (by decide)) (Nat.le_of_ble_eq_true rfl) ?_
  intro p e s m below meth c ls C hl hG
  obtain ⟨hx, hb, hml, hown, hts, hr, hlk⟩ := C
  have hl : lv_has ls 4 [(0, .ref (hs 0)), (1, .int x), (2, .int y), (3, .int f)] := hl
  refine lv_aload_n hx hb dX1_viewError_0 rfl (lv_at hl 0 rfl) ?_
  refine lv_iload_n hx hb dX1_viewError_1 rfl (lv_at hl 1 rfl) ?_
  refine lv_iload_n hx hb dX1_viewError_2 rfl (lv_at hl 2 rfl) ?_
  refine g_calliE wC_adr hG (g_runV (As := [.int x, .int y]) (rest := []) ⟨hx, hb, hml, hown, hts⟩ wC_adr (kX1_hasCell S x y) wyX1_hasCell q166 hG 0 rfl rfl ⟨by decide, by decide⟩ rfl rfl hl.1 (Nat.le_of_ble_eq_true rfl) ⟨Nat.le_refl 0, Nat.le_refl 0⟩ dX1_viewError_3) (fun H locs hG => ?_)
  refine lv_if_ne (tgt := 11) hx hb dX1_viewError_6 (by decide) (fun c1 => ?_) (fun c1 => ?_)
  · refine lv_aload_n hx hb dX1_viewError_11 rfl (lv_at hl 0 rfl) ?_
    refine lv_iload_n hx hb dX1_viewError_12 rfl (lv_at hl 3 rfl) ?_
    refine g_calliE wC_adr hG (g_runV (As := [.int f]) (rest := []) ⟨hx, hb, hml, hown, hts⟩ wC_adr (kX1_hasFeature S f) wyX1_hasFeature q209 hG 0 rfl rfl ⟨by decide, by decide⟩ rfl rfl hl.1 (Nat.le_of_ble_eq_true rfl) ⟨Nat.le_refl 0, Nat.le_refl 0⟩ dX1_viewError_13) (fun H locs hG => ?_)
    refine lv_if_eq (tgt := 28) hx hb dX1_viewError_16 (by decide) (fun c2 => ?_) (fun c2 => ?_)
    · refine lv_bipush (v := (-2)) hx hb dX1_viewError_28 (by decide) ?_
      exact g_iret hx hb hr hlk hG ⟨by unfold fX1_viewError; rw [if_neg c1, if_pos c2], rfl⟩ dX1_viewError_30
    · refine lv_aload_n hx hb dX1_viewError_19 rfl (lv_at hl 0 rfl) ?_
      refine lv_iload_n hx hb dX1_viewError_20 rfl (lv_at hl 1 rfl) ?_
      refine lv_iload_n hx hb dX1_viewError_21 rfl (lv_at hl 2 rfl) ?_
      refine g_calliE wC_adr hG (g_runV (As := [.int x, .int y]) (rest := []) ⟨hx, hb, hml, hown, hts⟩ wC_adr (kX1_placeError S x y) wyX1_placeError q213 hG 0 rfl rfl ⟨by decide, by decide⟩ rfl rfl hl.1 (Nat.le_of_ble_eq_true rfl) ⟨Nat.le_refl 0, Nat.le_refl 0⟩ dX1_viewError_22) (fun H locs hG => ?_)
      refine lv_goto (tgt := 30) hx hb dX1_viewError_25 (by decide) ?_
      exact g_iret hx hb hr hlk hG ⟨by unfold fX1_viewError; rw [if_neg c1, if_neg c2], rfl⟩ dX1_viewError_30
  · refine lv_iconst (v := (-1)) hx hb dX1_viewError_9 (by decide) ?_
    exact g_iret hx hb hr hlk hG ⟨by unfold fX1_viewError; rw [if_pos c1], rfl⟩ dX1_viewError_10
def gX1_setCell (S : GS) (k : Nat) (kd : Int32) (ht : Int32) : GS := up2 (up2 S 2 k kd) 3 k ht
set_option maxHeartbeats 4000000 in
set_option maxRecDepth 100000 in
theorem kX1_setCell {l : Launch} {D : va_G} {cy : ClassId} {hs : Nat → Nat} {X : va_W} (S : GS) (k : Nat) (kd : Int32) (ht : Int32) (hk : k < 192) : Ct l D cy (wC cy hs X) yX1_setCell cX1_setCell 4 none 0 0 S [.ref (hs 0), .int (nI k), .int kd, .int ht] (QV D (wC cy hs X) (exV (gX1_setCell S k kd ht))) := by
  refine Ct.of wC_adr (plainFor_of_name (by decide)) (Nat.le_of_ble_eq_true rfl) ?_
  intro p e s m below meth c ls C hl hG
  obtain ⟨hx, hb, hml, hown, hts, hr, hlk⟩ := C
  have hl : lv_has ls 4 [(0, .ref (hs 0)), (1, .int (nI k)), (2, .int kd), (3, .int ht)] := hl
  refine lv_aload_n hx hb dX1_setCell_0 rfl (lv_at hl 0 rfl) ?_
  refine g_get hx hb hts hown hG inX1 0 rfl rfl 2 (by decide) q107 (v := .ref (hs 2)) rfl dX1_setCell_1 ?_
  refine lv_iload_n hx hb dX1_setCell_4 rfl (lv_at hl 1 rfl) ?_
  refine lv_iload_n hx hb dX1_setCell_5 rfl (lv_at hl 2 rfl) ?_
  refine g_astN (f := S 2) hx hb hG 1 rfl (by decide) (k) (rfl) (hk) (up2 S 2 k kd) (rfl) dX1_setCell_6 (fun H locs hG => ?_)
  refine lv_aload_n hx hb dX1_setCell_7 rfl (lv_at hl 0 rfl) ?_
  refine g_get hx hb hts hown hG inX1 0 rfl rfl 3 (by decide) q108 (v := .ref (hs 3)) rfl dX1_setCell_8 ?_
  refine lv_iload_n hx hb dX1_setCell_11 rfl (lv_at hl 1 rfl) ?_
  refine lv_iload_n hx hb dX1_setCell_12 rfl (lv_at hl 3 rfl) ?_
  refine g_astN (f := (up2 S 2 k kd) 3) hx hb hG 2 rfl (by decide) (k) (rfl) (hk) (up2 (up2 S 2 k kd) 3 k ht) (rfl) dX1_setCell_13 (fun H locs hG => ?_)
  exact g_vret hx hb hr hlk hG (rfl) dX1_setCell_14
def ln (a0 a1 a2 a3 a4 a5 a6 a7 a8 a9 a10 a11 : Int32) : Nat → Int32 := fun k => match k with
  | 0 => a0
  | 1 => a1
  | 2 => a2
  | 3 => a3
  | 4 => a4
  | 5 => a5
  | 6 => a6
  | 7 => a7
  | 8 => a8
  | 9 => a9
  | 10 => a10
  | _ => a11
def gX0_lookAhead (F : Nat → Int32) : Nat → Int32 := if 0 < (((2 * (F 7)) + 1) * (F 4)) - (((2 * (F 8)) + 1) * (F 3)) then ln (F 0) (F 1) (F 2) (F 3) (F 4) (F 5) (F 6) (F 7) (F 8) (F 9) (((2 * (F 8)) + 1) * (if 1 < (F 3) then F 3 else 1)) ((((2 * (F 7)) + 1) * (F 4)) - (((2 * (F 8)) + 1) * (F 3))) else ln (F 0) (F 1) (F 2) (F 3) (F 4) (F 5) (F 6) (F 7) (F 8) (F 9) (((2 * (F 7)) + 1) * (if 1 < (F 4) then F 4 else 1)) ((((2 * (F 7)) + 1) * (F 4)) - (((2 * (F 8)) + 1) * (F 3)))
set_option maxHeartbeats 4000000 in
set_option maxRecDepth 100000 in
theorem kX0_lookAhead {l : Launch} {D : va_G} {cy : ClassId} {hs : Nat → Nat} {X : va_W} (S : GS) (F : Nat → Int32) : Ct l D cy (wC cy hs X) yX0_lookAhead cX0_lookAhead 3 none 1 21 (sc S 13 F) [.ref (hs 13)] (QV D (wC cy hs X) (exV (sc S 13 (gX0_lookAhead F)))) := by
  refine Ct.of wC_adr (plainFor_of_name (by decide)) (Nat.le_of_ble_eq_true rfl) ?_
  intro p e s m below meth c ls C hl hG
  obtain ⟨hx, hb, hml, hown, hts, hr, hlk⟩ := C
  have hl : lv_has ls 3 [(0, .ref (hs 13))] := hl
  refine lv_iconst (v := 2) hx hb dX0_lookAhead_0 (by decide) ?_
  refine lv_aload_n hx hb dX0_lookAhead_1 rfl (lv_at hl 0 rfl) ?_
  refine g_get hx hb hts hown hG inX0 9 rfl rfl 7 (by decide) q67 (v := .int (F 7)) rfl dX0_lookAhead_2 ?_
  refine lv_imul hx hb dX0_lookAhead_5 ?_
  refine lv_iconst (v := 1) hx hb dX0_lookAhead_6 (by decide) ?_
  refine lv_iadd hx hb dX0_lookAhead_7 ?_
  refine lv_istore_n (lv' := [(1, .int ((2 * (F 7)) + 1)), (0, .ref (hs 13))]) hx hb dX0_lookAhead_8 rfl hl (by decide) rfl (fun ls hl => ?_)
  refine lv_iconst (v := 2) hx hb dX0_lookAhead_9 (by decide) ?_
  refine lv_aload_n hx hb dX0_lookAhead_10 rfl (lv_at hl 1 rfl) ?_
  refine g_get hx hb hts hown hG inX0 9 rfl rfl 8 (by decide) q68 (v := .int (F 8)) rfl dX0_lookAhead_11 ?_
  refine lv_imul hx hb dX0_lookAhead_14 ?_
  refine lv_iconst (v := 1) hx hb dX0_lookAhead_15 (by decide) ?_
  refine lv_iadd hx hb dX0_lookAhead_16 ?_
  refine lv_istore_n (lv' := [(2, .int ((2 * (F 8)) + 1)), (1, .int ((2 * (F 7)) + 1)), (0, .ref (hs 13))]) hx hb dX0_lookAhead_17 rfl hl (by decide) rfl (fun ls hl => ?_)
  refine lv_aload_n hx hb dX0_lookAhead_18 rfl (lv_at hl 2 rfl) ?_
  refine lv_iload_n hx hb dX0_lookAhead_19 rfl (lv_at hl 1 rfl) ?_
  refine lv_aload_n hx hb dX0_lookAhead_20 rfl (lv_at hl 2 rfl) ?_
  refine g_get hx hb hts hown hG inX0 9 rfl rfl 4 (by decide) q64 (v := .int (F 4)) rfl dX0_lookAhead_21 ?_
  refine lv_imul hx hb dX0_lookAhead_24 ?_
  refine lv_iload_n hx hb dX0_lookAhead_25 rfl (lv_at hl 0 rfl) ?_
  refine lv_aload_n hx hb dX0_lookAhead_26 rfl (lv_at hl 2 rfl) ?_
  refine g_get hx hb hts hown hG inX0 9 rfl rfl 3 (by decide) q63 (v := .int (F 3)) rfl dX0_lookAhead_27 ?_
  refine lv_imul hx hb dX0_lookAhead_30 ?_
  refine lv_isub hx hb dX0_lookAhead_31 ?_
  refine g_put hx hb hts hown hG inX0 tyX0 tyX0_ok nmX0 9 rfl rfl 11 (by decide) q71 rfl (by decide +kernel) (Nat.le_of_ble_eq_true rfl) (sc S 13 (ln (F 0) (F 1) (F 2) (F 3) (F 4) (F 5) (F 6) (F 7) (F 8) (F 9) (F 10) ((((2 * (F 7)) + 1) * (F 4)) - (((2 * (F 8)) + 1) * (F 3))))) rfl dX0_lookAhead_32 (fun H locs hG => ?_)
  refine lv_aload_n hx hb dX0_lookAhead_35 rfl (lv_at hl 2 rfl) ?_
  refine lv_aload_n hx hb dX0_lookAhead_36 rfl (lv_at hl 2 rfl) ?_
  refine g_get hx hb hts hown hG inX0 9 rfl rfl 11 (by decide) q71 (v := .int ((((2 * (F 7)) + 1) * (F 4)) - (((2 * (F 8)) + 1) * (F 3)))) rfl dX0_lookAhead_37 ?_
  refine lv_if_gt (tgt := 56) hx hb dX0_lookAhead_40 (by decide) (fun c1 => ?_) (fun c1 => ?_)
  · refine lv_iload_n hx hb dX0_lookAhead_56 rfl (lv_at hl 0 rfl) ?_
    refine lv_iconst (v := 1) hx hb dX0_lookAhead_57 (by decide) ?_
    refine lv_aload_n hx hb dX0_lookAhead_58 rfl (lv_at hl 2 rfl) ?_
    refine g_get hx hb hts hown hG inX0 9 rfl rfl 3 (by decide) q63 (v := .int (F 3)) rfl dX0_lookAhead_59 ?_
    refine va_mmax hx hb (hml.trans hl.1.symm) hown (hts _ q249) (hts _ q250) (hts _ q44) (hts _ q251) (Nat.le_of_ble_eq_true rfl) (Nat.le_of_ble_eq_true rfl) (Nat.le_refl _) (Nat.le_refl _) dX0_lookAhead_62 ?_
    refine lv_imul hx hb dX0_lookAhead_65 ?_
    refine g_put hx hb hts hown hG inX0 tyX0 tyX0_ok nmX0 9 rfl rfl 10 (by decide) q70 rfl (by decide +kernel) (Nat.le_of_ble_eq_true rfl) (sc S 13 (ln (F 0) (F 1) (F 2) (F 3) (F 4) (F 5) (F 6) (F 7) (F 8) (F 9) (((2 * (F 8)) + 1) * (if 1 < (F 3) then F 3 else 1)) ((((2 * (F 7)) + 1) * (F 4)) - (((2 * (F 8)) + 1) * (F 3))))) rfl dX0_lookAhead_66 (fun H locs hG => ?_)
    exact g_vret hx hb hr hlk hG (by unfold gX0_lookAhead; rw [if_pos c1]) dX0_lookAhead_69
  · refine lv_iload_n hx hb dX0_lookAhead_43 rfl (lv_at hl 1 rfl) ?_
    refine lv_iconst (v := 1) hx hb dX0_lookAhead_44 (by decide) ?_
    refine lv_aload_n hx hb dX0_lookAhead_45 rfl (lv_at hl 2 rfl) ?_
    refine g_get hx hb hts hown hG inX0 9 rfl rfl 4 (by decide) q64 (v := .int (F 4)) rfl dX0_lookAhead_46 ?_
    refine va_mmax hx hb (hml.trans hl.1.symm) hown (hts _ q249) (hts _ q250) (hts _ q44) (hts _ q251) (Nat.le_of_ble_eq_true rfl) (Nat.le_of_ble_eq_true rfl) (Nat.le_refl _) (Nat.le_refl _) dX0_lookAhead_49 ?_
    refine lv_imul hx hb dX0_lookAhead_52 ?_
    refine lv_goto (tgt := 66) hx hb dX0_lookAhead_53 (by decide) ?_
    refine g_put hx hb hts hown hG inX0 tyX0 tyX0_ok nmX0 9 rfl rfl 10 (by decide) q70 rfl (by decide +kernel) (Nat.le_of_ble_eq_true rfl) (sc S 13 (ln (F 0) (F 1) (F 2) (F 3) (F 4) (F 5) (F 6) (F 7) (F 8) (F 9) (((2 * (F 7)) + 1) * (if 1 < (F 4) then F 4 else 1)) ((((2 * (F 7)) + 1) * (F 4)) - (((2 * (F 8)) + 1) * (F 3))))) rfl dX0_lookAhead_66 (fun H locs hG => ?_)
    exact g_vret hx hb hr hlk hG (by unfold gX0_lookAhead; rw [if_neg c1]) dX0_lookAhead_69
def fX0_hasArrived (F : Nat → Int32) : Int32 := if F 7 < F 3 then 0 else (if F 8 < F 4 then 0 else 1)
set_option maxHeartbeats 4000000 in
set_option maxRecDepth 100000 in
theorem kX0_hasArrived {l : Launch} {D : va_G} {cy : ClassId} {hs : Nat → Nat} {X : va_W} (S : GS) (F : Nat → Int32) : Ct l D cy (wC cy hs X) yX0_hasArrived cX0_hasArrived 1 (some .boolean) 0 0 (sc S 13 F) [.ref (hs 13)] (QI D (wC cy hs X) (exI (fX0_hasArrived F) (sc S 13 F))) := by
  refine Ct.of wC_adr (plainFor_of_name (by decide)) (Nat.le_of_ble_eq_true rfl) ?_
  intro p e s m below meth c ls C hl hG
  obtain ⟨hx, hb, hml, hown, hts, hr, hlk⟩ := C
  have hl : lv_has ls 1 [(0, .ref (hs 13))] := hl
  refine lv_aload_n hx hb dX0_hasArrived_0 rfl (lv_at hl 0 rfl) ?_
  refine g_get hx hb hts hown hG inX0 9 rfl rfl 7 (by decide) q67 (v := .int (F 7)) rfl dX0_hasArrived_1 ?_
  refine lv_aload_n hx hb dX0_hasArrived_4 rfl (lv_at hl 0 rfl) ?_
  refine g_get hx hb hts hown hG inX0 9 rfl rfl 3 (by decide) q63 (v := .int (F 3)) rfl dX0_hasArrived_5 ?_
  refine lv_icmp_lt (tgt := 26) hx hb dX0_hasArrived_8 (by decide) (fun c1 => ?_) (fun c1 => ?_)
  · refine lv_iconst (v := 0) hx hb dX0_hasArrived_26 (by decide) ?_
    exact g_zret hx hb hr hlk hG rfl ⟨by unfold fX0_hasArrived; rw [if_pos c1], rfl⟩ dX0_hasArrived_27
  · refine lv_aload_n hx hb dX0_hasArrived_11 rfl (lv_at hl 0 rfl) ?_
    refine g_get hx hb hts hown hG inX0 9 rfl rfl 8 (by decide) q68 (v := .int (F 8)) rfl dX0_hasArrived_12 ?_
    refine lv_aload_n hx hb dX0_hasArrived_15 rfl (lv_at hl 0 rfl) ?_
    refine g_get hx hb hts hown hG inX0 9 rfl rfl 4 (by decide) q64 (v := .int (F 4)) rfl dX0_hasArrived_16 ?_
    refine lv_icmp_lt (tgt := 26) hx hb dX0_hasArrived_19 (by decide) (fun c2 => ?_) (fun c2 => ?_)
    · refine lv_iconst (v := 0) hx hb dX0_hasArrived_26 (by decide) ?_
      exact g_zret hx hb hr hlk hG rfl ⟨by unfold fX0_hasArrived; rw [if_neg c1, if_pos c2], rfl⟩ dX0_hasArrived_27
    · refine lv_iconst (v := 1) hx hb dX0_hasArrived_22 (by decide) ?_
      refine lv_goto (tgt := 27) hx hb dX0_hasArrived_23 (by decide) ?_
      exact g_zret hx hb hr hlk hG rfl ⟨by unfold fX0_hasArrived; rw [if_neg c1, if_neg c2], rfl⟩ dX0_hasArrived_27
def fX0_crossedCell (F : Nat → Int32) : Int32 := ((F 0) + ((F 7) * (F 5))) + ((F 8) * (F 6))
set_option maxHeartbeats 4000000 in
set_option maxRecDepth 100000 in
theorem kX0_crossedCell {l : Launch} {D : va_G} {cy : ClassId} {hs : Nat → Nat} {X : va_W} (S : GS) (F : Nat → Int32) : Ct l D cy (wC cy hs X) yX0_crossedCell cX0_crossedCell 1 (some .int) 0 0 (sc S 13 F) [.ref (hs 13)] (QI D (wC cy hs X) (exI (fX0_crossedCell F) (sc S 13 F))) := by
  refine Ct.of wC_adr (plainFor_of_name (by decide)) (Nat.le_of_ble_eq_true rfl) ?_
  intro p e s m below meth c ls C hl hG
  obtain ⟨hx, hb, hml, hown, hts, hr, hlk⟩ := C
  have hl : lv_has ls 1 [(0, .ref (hs 13))] := hl
  refine lv_aload_n hx hb dX0_crossedCell_0 rfl (lv_at hl 0 rfl) ?_
  refine g_get hx hb hts hown hG inX0 9 rfl rfl 0 (by decide) q60 (v := .int (F 0)) rfl dX0_crossedCell_1 ?_
  refine lv_aload_n hx hb dX0_crossedCell_4 rfl (lv_at hl 0 rfl) ?_
  refine g_get hx hb hts hown hG inX0 9 rfl rfl 7 (by decide) q67 (v := .int (F 7)) rfl dX0_crossedCell_5 ?_
  refine lv_aload_n hx hb dX0_crossedCell_8 rfl (lv_at hl 0 rfl) ?_
  refine g_get hx hb hts hown hG inX0 9 rfl rfl 5 (by decide) q65 (v := .int (F 5)) rfl dX0_crossedCell_9 ?_
  refine lv_imul hx hb dX0_crossedCell_12 ?_
  refine lv_iadd hx hb dX0_crossedCell_13 ?_
  refine lv_aload_n hx hb dX0_crossedCell_14 rfl (lv_at hl 0 rfl) ?_
  refine g_get hx hb hts hown hG inX0 9 rfl rfl 8 (by decide) q68 (v := .int (F 8)) rfl dX0_crossedCell_15 ?_
  refine lv_aload_n hx hb dX0_crossedCell_18 rfl (lv_at hl 0 rfl) ?_
  refine g_get hx hb hts hown hG inX0 9 rfl rfl 6 (by decide) q66 (v := .int (F 6)) rfl dX0_crossedCell_19 ?_
  refine lv_imul hx hb dX0_crossedCell_22 ?_
  refine lv_iadd hx hb dX0_crossedCell_23 ?_
  exact g_iret hx hb hr hlk hG ⟨rfl, rfl⟩ dX0_crossedCell_24
def fX0_advance (F : Nat → Int32) : Int32 := if fX0_hasArrived F = 0 then (if 0 < F 11 then (if F 11 < 0 then (if fX0_hasArrived (gX0_lookAhead (ln (F 0) (F 1) (F 2) (F 3) (F 4) (F 5) (F 6) (F 7) (F 8) (F 10) (F 10) (F 11))) = 0 then 1 else 0) else (if fX0_hasArrived (gX0_lookAhead (ln (F 0) (F 1) (F 2) (F 3) (F 4) (F 5) (F 6) (F 7) ((F 8) + 1) (F 10) (F 10) (F 11))) = 0 then 1 else 0)) else (if F 11 < 0 then (if fX0_hasArrived (gX0_lookAhead (ln (F 0) (F 1) (F 2) (F 3) (F 4) (F 5) (F 6) ((F 7) + 1) (F 8) (F 10) (F 10) (F 11))) = 0 then 1 else 0) else (if fX0_hasArrived (gX0_lookAhead (ln (F 0) (F 1) (F 2) (F 3) (F 4) (F 5) (F 6) ((F 7) + 1) ((F 8) + 1) (F 10) (F 10) (F 11))) = 0 then 1 else 0))) else 0
def gX0_advance (F : Nat → Int32) : Nat → Int32 := if fX0_hasArrived F = 0 then (if 0 < F 11 then (if F 11 < 0 then (if fX0_hasArrived (gX0_lookAhead (ln (F 0) (F 1) (F 2) (F 3) (F 4) (F 5) (F 6) (F 7) (F 8) (F 10) (F 10) (F 11))) = 0 then gX0_lookAhead (ln (F 0) (F 1) (F 2) (F 3) (F 4) (F 5) (F 6) (F 7) (F 8) (F 10) (F 10) (F 11)) else gX0_lookAhead (ln (F 0) (F 1) (F 2) (F 3) (F 4) (F 5) (F 6) (F 7) (F 8) (F 10) (F 10) (F 11))) else (if fX0_hasArrived (gX0_lookAhead (ln (F 0) (F 1) (F 2) (F 3) (F 4) (F 5) (F 6) (F 7) ((F 8) + 1) (F 10) (F 10) (F 11))) = 0 then gX0_lookAhead (ln (F 0) (F 1) (F 2) (F 3) (F 4) (F 5) (F 6) (F 7) ((F 8) + 1) (F 10) (F 10) (F 11)) else gX0_lookAhead (ln (F 0) (F 1) (F 2) (F 3) (F 4) (F 5) (F 6) (F 7) ((F 8) + 1) (F 10) (F 10) (F 11)))) else (if F 11 < 0 then (if fX0_hasArrived (gX0_lookAhead (ln (F 0) (F 1) (F 2) (F 3) (F 4) (F 5) (F 6) ((F 7) + 1) (F 8) (F 10) (F 10) (F 11))) = 0 then gX0_lookAhead (ln (F 0) (F 1) (F 2) (F 3) (F 4) (F 5) (F 6) ((F 7) + 1) (F 8) (F 10) (F 10) (F 11)) else gX0_lookAhead (ln (F 0) (F 1) (F 2) (F 3) (F 4) (F 5) (F 6) ((F 7) + 1) (F 8) (F 10) (F 10) (F 11))) else (if fX0_hasArrived (gX0_lookAhead (ln (F 0) (F 1) (F 2) (F 3) (F 4) (F 5) (F 6) ((F 7) + 1) ((F 8) + 1) (F 10) (F 10) (F 11))) = 0 then gX0_lookAhead (ln (F 0) (F 1) (F 2) (F 3) (F 4) (F 5) (F 6) ((F 7) + 1) ((F 8) + 1) (F 10) (F 10) (F 11)) else gX0_lookAhead (ln (F 0) (F 1) (F 2) (F 3) (F 4) (F 5) (F 6) ((F 7) + 1) ((F 8) + 1) (F 10) (F 10) (F 11))))) else F
set_option maxHeartbeats 4000000 in
set_option maxRecDepth 100000 in
theorem kX0_advance {l : Launch} {D : va_G} {cy : ClassId} {hs : Nat → Nat} {X : va_W} (S : GS) (F : Nat → Int32) : Ct l D cy (wC cy hs X) yX0_advance cX0_advance 1 (some .boolean) 2 43 (sc S 13 F) [.ref (hs 13)] (QI D (wC cy hs X) (exI (fX0_advance F) (sc S 13 (gX0_advance F)))) := by
  refine Ct.of wC_adr (plainFor_of_name (by decide)) (Nat.le_of_ble_eq_true rfl) ?_
  intro p e s m below meth c ls C hl hG
  obtain ⟨hx, hb, hml, hown, hts, hr, hlk⟩ := C
  have hl : lv_has ls 1 [(0, .ref (hs 13))] := hl
  refine lv_aload_n hx hb dX0_advance_0 rfl (lv_at hl 0 rfl) ?_
  refine g_calliE wC_adr hG (g_runV (As := []) (rest := []) ⟨hx, hb, hml, hown, hts⟩ wC_adr (kX0_hasArrived S F ) wyX0_hasArrived q260 hG 9 rfl rfl ⟨by decide, by decide⟩ rfl rfl hl.1 (Nat.le_of_ble_eq_true rfl) ⟨Nat.le_refl 0, Nat.le_refl 0⟩ dX0_advance_1) (fun H locs hG => ?_)
  refine lv_if_eq (tgt := 9) hx hb dX0_advance_4 (by decide) (fun c1 => ?_) (fun c1 => ?_)
  · refine lv_aload_n hx hb dX0_advance_9 rfl (lv_at hl 0 rfl) ?_
    refine g_get hx hb hts hown hG inX0 9 rfl rfl 11 (by decide) q71 (v := .int (F 11)) rfl dX0_advance_10 ?_
    refine lv_if_gt (tgt := 26) hx hb dX0_advance_13 (by decide) (fun c2 => ?_) (fun c2 => ?_)
    · refine lv_aload_n hx hb dX0_advance_26 rfl (lv_at hl 0 rfl) ?_
      refine g_get hx hb hts hown hG inX0 9 rfl rfl 11 (by decide) q71 (v := .int (F 11)) rfl dX0_advance_27 ?_
      refine lv_if_lt (tgt := 43) hx hb dX0_advance_30 (by decide) (fun c3 => ?_) (fun c3 => ?_)
      · refine lv_aload_n hx hb dX0_advance_43 rfl (lv_at hl 0 rfl) ?_
        refine lv_aload_n hx hb dX0_advance_44 rfl (lv_at hl 0 rfl) ?_
        refine g_get hx hb hts hown hG inX0 9 rfl rfl 10 (by decide) q70 (v := .int (F 10)) rfl dX0_advance_45 ?_
        refine g_put hx hb hts hown hG inX0 tyX0 tyX0_ok nmX0 9 rfl rfl 9 (by decide) q69 rfl (by decide +kernel) (Nat.le_of_ble_eq_true rfl) (sc S 13 (ln (F 0) (F 1) (F 2) (F 3) (F 4) (F 5) (F 6) (F 7) (F 8) (F 10) (F 10) (F 11))) rfl dX0_advance_48 (fun H locs hG => ?_)
        refine lv_aload_n hx hb dX0_advance_51 rfl (lv_at hl 0 rfl) ?_
        refine g_callvE wC_adr hG (g_runV (As := []) (rest := []) ⟨hx, hb, hml, hown, hts⟩ wC_adr (kX0_lookAhead S (ln (F 0) (F 1) (F 2) (F 3) (F 4) (F 5) (F 6) (F 7) (F 8) (F 10) (F 10) (F 11)) ) wyX0_lookAhead q245 hG 9 rfl rfl ⟨by decide, by decide⟩ rfl rfl hl.1 (Nat.le_of_ble_eq_true rfl) ⟨Nat.le_refl 0, Nat.le_refl 0⟩ dX0_advance_52) (fun H locs hG => ?_)
        refine lv_aload_n hx hb dX0_advance_55 rfl (lv_at hl 0 rfl) ?_
        refine g_calliE wC_adr hG (g_runV (As := []) (rest := []) ⟨hx, hb, hml, hown, hts⟩ wC_adr (kX0_hasArrived S (gX0_lookAhead (ln (F 0) (F 1) (F 2) (F 3) (F 4) (F 5) (F 6) (F 7) (F 8) (F 10) (F 10) (F 11))) ) wyX0_hasArrived q260 hG 9 rfl rfl ⟨by decide, by decide⟩ rfl rfl hl.1 (Nat.le_of_ble_eq_true rfl) ⟨Nat.le_refl 0, Nat.le_refl 0⟩ dX0_advance_56) (fun H locs hG => ?_)
        refine lv_if_ne (tgt := 66) hx hb dX0_advance_59 (by decide) (fun c4 => ?_) (fun c4 => ?_)
        · refine lv_iconst (v := 0) hx hb dX0_advance_66 (by decide) ?_
          exact g_zret hx hb hr hlk hG rfl ⟨by unfold fX0_advance; rw [if_pos c1, if_pos c2, if_pos c3, if_neg c4], by unfold gX0_advance; rw [if_pos c1, if_pos c2, if_pos c3, if_neg c4]⟩ dX0_advance_67
        · refine lv_iconst (v := 1) hx hb dX0_advance_62 (by decide) ?_
          refine lv_goto (tgt := 67) hx hb dX0_advance_63 (by decide) ?_
          exact g_zret hx hb hr hlk hG rfl ⟨by unfold fX0_advance; rw [if_pos c1, if_pos c2, if_pos c3, if_pos c4], by unfold gX0_advance; rw [if_pos c1, if_pos c2, if_pos c3, if_pos c4]⟩ dX0_advance_67
      · refine lv_aload_n hx hb dX0_advance_33 rfl (lv_at hl 0 rfl) ?_
        refine lv_dup hx hb dX0_advance_34 rfl ?_
        refine g_get hx hb hts hown hG inX0 9 rfl rfl 8 (by decide) q68 (v := .int (F 8)) rfl dX0_advance_35 ?_
        refine lv_iconst (v := 1) hx hb dX0_advance_38 (by decide) ?_
        refine lv_iadd hx hb dX0_advance_39 ?_
        refine g_put hx hb hts hown hG inX0 tyX0 tyX0_ok nmX0 9 rfl rfl 8 (by decide) q68 rfl (by decide +kernel) (Nat.le_of_ble_eq_true rfl) (sc S 13 (ln (F 0) (F 1) (F 2) (F 3) (F 4) (F 5) (F 6) (F 7) ((F 8) + 1) (F 9) (F 10) (F 11))) rfl dX0_advance_40 (fun H locs hG => ?_)
        refine lv_aload_n hx hb dX0_advance_43 rfl (lv_at hl 0 rfl) ?_
        refine lv_aload_n hx hb dX0_advance_44 rfl (lv_at hl 0 rfl) ?_
        refine g_get hx hb hts hown hG inX0 9 rfl rfl 10 (by decide) q70 (v := .int (F 10)) rfl dX0_advance_45 ?_
        refine g_put hx hb hts hown hG inX0 tyX0 tyX0_ok nmX0 9 rfl rfl 9 (by decide) q69 rfl (by decide +kernel) (Nat.le_of_ble_eq_true rfl) (sc S 13 (ln (F 0) (F 1) (F 2) (F 3) (F 4) (F 5) (F 6) (F 7) ((F 8) + 1) (F 10) (F 10) (F 11))) rfl dX0_advance_48 (fun H locs hG => ?_)
        refine lv_aload_n hx hb dX0_advance_51 rfl (lv_at hl 0 rfl) ?_
        refine g_callvE wC_adr hG (g_runV (As := []) (rest := []) ⟨hx, hb, hml, hown, hts⟩ wC_adr (kX0_lookAhead S (ln (F 0) (F 1) (F 2) (F 3) (F 4) (F 5) (F 6) (F 7) ((F 8) + 1) (F 10) (F 10) (F 11)) ) wyX0_lookAhead q245 hG 9 rfl rfl ⟨by decide, by decide⟩ rfl rfl hl.1 (Nat.le_of_ble_eq_true rfl) ⟨Nat.le_refl 0, Nat.le_refl 0⟩ dX0_advance_52) (fun H locs hG => ?_)
        refine lv_aload_n hx hb dX0_advance_55 rfl (lv_at hl 0 rfl) ?_
        refine g_calliE wC_adr hG (g_runV (As := []) (rest := []) ⟨hx, hb, hml, hown, hts⟩ wC_adr (kX0_hasArrived S (gX0_lookAhead (ln (F 0) (F 1) (F 2) (F 3) (F 4) (F 5) (F 6) (F 7) ((F 8) + 1) (F 10) (F 10) (F 11))) ) wyX0_hasArrived q260 hG 9 rfl rfl ⟨by decide, by decide⟩ rfl rfl hl.1 (Nat.le_of_ble_eq_true rfl) ⟨Nat.le_refl 0, Nat.le_refl 0⟩ dX0_advance_56) (fun H locs hG => ?_)
        refine lv_if_ne (tgt := 66) hx hb dX0_advance_59 (by decide) (fun c5 => ?_) (fun c5 => ?_)
        · refine lv_iconst (v := 0) hx hb dX0_advance_66 (by decide) ?_
          exact g_zret hx hb hr hlk hG rfl ⟨by unfold fX0_advance; rw [if_pos c1, if_pos c2, if_neg c3, if_neg c5], by unfold gX0_advance; rw [if_pos c1, if_pos c2, if_neg c3, if_neg c5]⟩ dX0_advance_67
        · refine lv_iconst (v := 1) hx hb dX0_advance_62 (by decide) ?_
          refine lv_goto (tgt := 67) hx hb dX0_advance_63 (by decide) ?_
          exact g_zret hx hb hr hlk hG rfl ⟨by unfold fX0_advance; rw [if_pos c1, if_pos c2, if_neg c3, if_pos c5], by unfold gX0_advance; rw [if_pos c1, if_pos c2, if_neg c3, if_pos c5]⟩ dX0_advance_67
    · refine lv_aload_n hx hb dX0_advance_16 rfl (lv_at hl 0 rfl) ?_
      refine lv_dup hx hb dX0_advance_17 rfl ?_
      refine g_get hx hb hts hown hG inX0 9 rfl rfl 7 (by decide) q67 (v := .int (F 7)) rfl dX0_advance_18 ?_
      refine lv_iconst (v := 1) hx hb dX0_advance_21 (by decide) ?_
      refine lv_iadd hx hb dX0_advance_22 ?_
      refine g_put hx hb hts hown hG inX0 tyX0 tyX0_ok nmX0 9 rfl rfl 7 (by decide) q67 rfl (by decide +kernel) (Nat.le_of_ble_eq_true rfl) (sc S 13 (ln (F 0) (F 1) (F 2) (F 3) (F 4) (F 5) (F 6) ((F 7) + 1) (F 8) (F 9) (F 10) (F 11))) rfl dX0_advance_23 (fun H locs hG => ?_)
      refine lv_aload_n hx hb dX0_advance_26 rfl (lv_at hl 0 rfl) ?_
      refine g_get hx hb hts hown hG inX0 9 rfl rfl 11 (by decide) q71 (v := .int (F 11)) rfl dX0_advance_27 ?_
      refine lv_if_lt (tgt := 43) hx hb dX0_advance_30 (by decide) (fun c6 => ?_) (fun c6 => ?_)
      · refine lv_aload_n hx hb dX0_advance_43 rfl (lv_at hl 0 rfl) ?_
        refine lv_aload_n hx hb dX0_advance_44 rfl (lv_at hl 0 rfl) ?_
        refine g_get hx hb hts hown hG inX0 9 rfl rfl 10 (by decide) q70 (v := .int (F 10)) rfl dX0_advance_45 ?_
        refine g_put hx hb hts hown hG inX0 tyX0 tyX0_ok nmX0 9 rfl rfl 9 (by decide) q69 rfl (by decide +kernel) (Nat.le_of_ble_eq_true rfl) (sc S 13 (ln (F 0) (F 1) (F 2) (F 3) (F 4) (F 5) (F 6) ((F 7) + 1) (F 8) (F 10) (F 10) (F 11))) rfl dX0_advance_48 (fun H locs hG => ?_)
        refine lv_aload_n hx hb dX0_advance_51 rfl (lv_at hl 0 rfl) ?_
        refine g_callvE wC_adr hG (g_runV (As := []) (rest := []) ⟨hx, hb, hml, hown, hts⟩ wC_adr (kX0_lookAhead S (ln (F 0) (F 1) (F 2) (F 3) (F 4) (F 5) (F 6) ((F 7) + 1) (F 8) (F 10) (F 10) (F 11)) ) wyX0_lookAhead q245 hG 9 rfl rfl ⟨by decide, by decide⟩ rfl rfl hl.1 (Nat.le_of_ble_eq_true rfl) ⟨Nat.le_refl 0, Nat.le_refl 0⟩ dX0_advance_52) (fun H locs hG => ?_)
        refine lv_aload_n hx hb dX0_advance_55 rfl (lv_at hl 0 rfl) ?_
        refine g_calliE wC_adr hG (g_runV (As := []) (rest := []) ⟨hx, hb, hml, hown, hts⟩ wC_adr (kX0_hasArrived S (gX0_lookAhead (ln (F 0) (F 1) (F 2) (F 3) (F 4) (F 5) (F 6) ((F 7) + 1) (F 8) (F 10) (F 10) (F 11))) ) wyX0_hasArrived q260 hG 9 rfl rfl ⟨by decide, by decide⟩ rfl rfl hl.1 (Nat.le_of_ble_eq_true rfl) ⟨Nat.le_refl 0, Nat.le_refl 0⟩ dX0_advance_56) (fun H locs hG => ?_)
        refine lv_if_ne (tgt := 66) hx hb dX0_advance_59 (by decide) (fun c7 => ?_) (fun c7 => ?_)
        · refine lv_iconst (v := 0) hx hb dX0_advance_66 (by decide) ?_
          exact g_zret hx hb hr hlk hG rfl ⟨by unfold fX0_advance; rw [if_pos c1, if_neg c2, if_pos c6, if_neg c7], by unfold gX0_advance; rw [if_pos c1, if_neg c2, if_pos c6, if_neg c7]⟩ dX0_advance_67
        · refine lv_iconst (v := 1) hx hb dX0_advance_62 (by decide) ?_
          refine lv_goto (tgt := 67) hx hb dX0_advance_63 (by decide) ?_
          exact g_zret hx hb hr hlk hG rfl ⟨by unfold fX0_advance; rw [if_pos c1, if_neg c2, if_pos c6, if_pos c7], by unfold gX0_advance; rw [if_pos c1, if_neg c2, if_pos c6, if_pos c7]⟩ dX0_advance_67
      · refine lv_aload_n hx hb dX0_advance_33 rfl (lv_at hl 0 rfl) ?_
        refine lv_dup hx hb dX0_advance_34 rfl ?_
        refine g_get hx hb hts hown hG inX0 9 rfl rfl 8 (by decide) q68 (v := .int (F 8)) rfl dX0_advance_35 ?_
        refine lv_iconst (v := 1) hx hb dX0_advance_38 (by decide) ?_
        refine lv_iadd hx hb dX0_advance_39 ?_
        refine g_put hx hb hts hown hG inX0 tyX0 tyX0_ok nmX0 9 rfl rfl 8 (by decide) q68 rfl (by decide +kernel) (Nat.le_of_ble_eq_true rfl) (sc S 13 (ln (F 0) (F 1) (F 2) (F 3) (F 4) (F 5) (F 6) ((F 7) + 1) ((F 8) + 1) (F 9) (F 10) (F 11))) rfl dX0_advance_40 (fun H locs hG => ?_)
        refine lv_aload_n hx hb dX0_advance_43 rfl (lv_at hl 0 rfl) ?_
        refine lv_aload_n hx hb dX0_advance_44 rfl (lv_at hl 0 rfl) ?_
        refine g_get hx hb hts hown hG inX0 9 rfl rfl 10 (by decide) q70 (v := .int (F 10)) rfl dX0_advance_45 ?_
        refine g_put hx hb hts hown hG inX0 tyX0 tyX0_ok nmX0 9 rfl rfl 9 (by decide) q69 rfl (by decide +kernel) (Nat.le_of_ble_eq_true rfl) (sc S 13 (ln (F 0) (F 1) (F 2) (F 3) (F 4) (F 5) (F 6) ((F 7) + 1) ((F 8) + 1) (F 10) (F 10) (F 11))) rfl dX0_advance_48 (fun H locs hG => ?_)
        refine lv_aload_n hx hb dX0_advance_51 rfl (lv_at hl 0 rfl) ?_
        refine g_callvE wC_adr hG (g_runV (As := []) (rest := []) ⟨hx, hb, hml, hown, hts⟩ wC_adr (kX0_lookAhead S (ln (F 0) (F 1) (F 2) (F 3) (F 4) (F 5) (F 6) ((F 7) + 1) ((F 8) + 1) (F 10) (F 10) (F 11)) ) wyX0_lookAhead q245 hG 9 rfl rfl ⟨by decide, by decide⟩ rfl rfl hl.1 (Nat.le_of_ble_eq_true rfl) ⟨Nat.le_refl 0, Nat.le_refl 0⟩ dX0_advance_52) (fun H locs hG => ?_)
        refine lv_aload_n hx hb dX0_advance_55 rfl (lv_at hl 0 rfl) ?_
        refine g_calliE wC_adr hG (g_runV (As := []) (rest := []) ⟨hx, hb, hml, hown, hts⟩ wC_adr (kX0_hasArrived S (gX0_lookAhead (ln (F 0) (F 1) (F 2) (F 3) (F 4) (F 5) (F 6) ((F 7) + 1) ((F 8) + 1) (F 10) (F 10) (F 11))) ) wyX0_hasArrived q260 hG 9 rfl rfl ⟨by decide, by decide⟩ rfl rfl hl.1 (Nat.le_of_ble_eq_true rfl) ⟨Nat.le_refl 0, Nat.le_refl 0⟩ dX0_advance_56) (fun H locs hG => ?_)
        refine lv_if_ne (tgt := 66) hx hb dX0_advance_59 (by decide) (fun c8 => ?_) (fun c8 => ?_)
        · refine lv_iconst (v := 0) hx hb dX0_advance_66 (by decide) ?_
          exact g_zret hx hb hr hlk hG rfl ⟨by unfold fX0_advance; rw [if_pos c1, if_neg c2, if_neg c6, if_neg c8], by unfold gX0_advance; rw [if_pos c1, if_neg c2, if_neg c6, if_neg c8]⟩ dX0_advance_67
        · refine lv_iconst (v := 1) hx hb dX0_advance_62 (by decide) ?_
          refine lv_goto (tgt := 67) hx hb dX0_advance_63 (by decide) ?_
          exact g_zret hx hb hr hlk hG rfl ⟨by unfold fX0_advance; rw [if_pos c1, if_neg c2, if_neg c6, if_pos c8], by unfold gX0_advance; rw [if_pos c1, if_neg c2, if_neg c6, if_pos c8]⟩ dX0_advance_67
  · refine lv_iconst (v := 0) hx hb dX0_advance_7 (by decide) ?_
    exact g_zret hx hb hr hlk hG rfl ⟨by unfold fX0_advance; rw [if_neg c1], by unfold gX0_advance; rw [if_neg c1]⟩ dX0_advance_8
def gX0_aim (F : Nat → Int32) (a : Int32) (b : Int32) (t : Int32) (u : Int32) : Nat → Int32 := gX0_lookAhead (ln a b u (if 0 ≤ ((fX1_columnOf t) - (fX1_columnOf a)) then (fX1_columnOf t) - (fX1_columnOf a) else 0 - ((fX1_columnOf t) - (fX1_columnOf a))) (if 0 ≤ ((fX1_rowOf t) - (fX1_rowOf a)) then (fX1_rowOf t) - (fX1_rowOf a) else 0 - ((fX1_rowOf t) - (fX1_rowOf a))) (if 0 ≤ (fX1_columnOf t) - (fX1_columnOf a) then 1 else (-1)) (if 0 ≤ (fX1_rowOf t) - (fX1_rowOf a) then 16 else (-16)) 0 0 0 (F 10) (F 11))
set_option maxHeartbeats 4000000 in
set_option maxRecDepth 100000 in
theorem kX0_aim {l : Launch} {D : va_G} {cy : ClassId} {hs : Nat → Nat} {X : va_W} (S : GS) (F : Nat → Int32) (a : Int32) (b : Int32) (t : Int32) (u : Int32) : Ct l D cy (wC cy hs X) yX0_aim cX0_aim 7 none 2 43 (sc S 13 F) [.ref (hs 13), .int a, .int b, .int t, .int u] (QV D (wC cy hs X) (exV (sc S 13 (gX0_aim F a b t u)))) := by
  refine Ct.of wC_adr (plainFor_of_name (by decide)) (Nat.le_of_ble_eq_true rfl) ?_
  intro p e s m below meth c ls C hl hG
  obtain ⟨hx, hb, hml, hown, hts, hr, hlk⟩ := C
  have hl : lv_has ls 7 [(0, .ref (hs 13)), (1, .int a), (2, .int b), (3, .int t), (4, .int u)] := hl
  refine lv_iload_n hx hb dX0_aim_0 rfl (lv_at hl 3 rfl) ?_
  refine g_statN (As := [.int t]) (rest := []) ⟨hx, hb, hml, hown, hts⟩ (kX1_columnOf t) wyX1_columnOf hG.1.2.1 hG ⟨by decide, by decide⟩ rfl rfl hl.1 (Nat.le_of_ble_eq_true rfl) ⟨Nat.le_refl 0, Nat.le_refl 0⟩ dX0_aim_1 (fun H locs hG => ?_)
  refine lv_iload_n hx hb dX0_aim_4 rfl (lv_at hl 1 rfl) ?_
  refine g_statN (As := [.int a]) (rest := [.int (fX1_columnOf t)]) ⟨hx, hb, hml, hown, hts⟩ (kX1_columnOf a) wyX1_columnOf hG.1.2.1 hG ⟨by decide, by decide⟩ rfl rfl hl.1 (Nat.le_of_ble_eq_true rfl) ⟨Nat.le_refl 0, Nat.le_refl 0⟩ dX0_aim_5 (fun H locs hG => ?_)
  refine lv_isub hx hb dX0_aim_8 ?_
  refine lv_istore (lv' := [(5, .int ((fX1_columnOf t) - (fX1_columnOf a))), (0, .ref (hs 13)), (1, .int a), (2, .int b), (3, .int t), (4, .int u)]) hx hb dX0_aim_9 hl (by decide) rfl (fun ls hl => ?_)
  refine lv_iload_n hx hb dX0_aim_11 rfl (lv_at hl 4 rfl) ?_
  refine g_statN (As := [.int t]) (rest := []) ⟨hx, hb, hml, hown, hts⟩ (kX1_rowOf t) wyX1_rowOf hG.1.2.2 hG ⟨by decide, by decide⟩ rfl rfl hl.1 (Nat.le_of_ble_eq_true rfl) ⟨Nat.le_refl 0, Nat.le_refl 0⟩ dX0_aim_12 (fun H locs hG => ?_)
  refine lv_iload_n hx hb dX0_aim_15 rfl (lv_at hl 2 rfl) ?_
  refine g_statN (As := [.int a]) (rest := [.int (fX1_rowOf t)]) ⟨hx, hb, hml, hown, hts⟩ (kX1_rowOf a) wyX1_rowOf hG.1.2.2 hG ⟨by decide, by decide⟩ rfl rfl hl.1 (Nat.le_of_ble_eq_true rfl) ⟨Nat.le_refl 0, Nat.le_refl 0⟩ dX0_aim_16 (fun H locs hG => ?_)
  refine lv_isub hx hb dX0_aim_19 ?_
  refine lv_istore (lv' := [(6, .int ((fX1_rowOf t) - (fX1_rowOf a))), (5, .int ((fX1_columnOf t) - (fX1_columnOf a))), (0, .ref (hs 13)), (1, .int a), (2, .int b), (3, .int t), (4, .int u)]) hx hb dX0_aim_20 hl (by decide) rfl (fun ls hl => ?_)
  refine lv_aload_n hx hb dX0_aim_22 rfl (lv_at hl 2 rfl) ?_
  refine lv_iload_n hx hb dX0_aim_23 rfl (lv_at hl 3 rfl) ?_
  refine g_put hx hb hts hown hG inX0 tyX0 tyX0_ok nmX0 9 rfl rfl 0 (by decide) q60 rfl (by decide +kernel) (Nat.le_of_ble_eq_true rfl) (sc S 13 (ln a (F 1) (F 2) (F 3) (F 4) (F 5) (F 6) (F 7) (F 8) (F 9) (F 10) (F 11))) rfl dX0_aim_24 (fun H locs hG => ?_)
  refine lv_aload_n hx hb dX0_aim_27 rfl (lv_at hl 2 rfl) ?_
  refine lv_iload_n hx hb dX0_aim_28 rfl (lv_at hl 4 rfl) ?_
  refine g_put hx hb hts hown hG inX0 tyX0 tyX0_ok nmX0 9 rfl rfl 1 (by decide) q61 rfl (by decide +kernel) (Nat.le_of_ble_eq_true rfl) (sc S 13 (ln a b (F 2) (F 3) (F 4) (F 5) (F 6) (F 7) (F 8) (F 9) (F 10) (F 11))) rfl dX0_aim_29 (fun H locs hG => ?_)
  refine lv_aload_n hx hb dX0_aim_32 rfl (lv_at hl 2 rfl) ?_
  refine lv_iload hx hb dX0_aim_33 (lv_at hl 6 rfl) ?_
  refine g_put hx hb hts hown hG inX0 tyX0 tyX0_ok nmX0 9 rfl rfl 2 (by decide) q62 rfl (by decide +kernel) (Nat.le_of_ble_eq_true rfl) (sc S 13 (ln a b u (F 3) (F 4) (F 5) (F 6) (F 7) (F 8) (F 9) (F 10) (F 11))) rfl dX0_aim_35 (fun H locs hG => ?_)
  refine lv_aload_n hx hb dX0_aim_38 rfl (lv_at hl 2 rfl) ?_
  refine lv_iload hx hb dX0_aim_39 (lv_at hl 1 rfl) ?_
  refine va_mabs hx hb (hml.trans hl.1.symm) hown (hts _ q242) (hts _ q243) (hts _ q44) (hts _ q244) (Nat.le_of_ble_eq_true rfl) (Nat.le_of_ble_eq_true rfl) (Nat.le_refl _) (Nat.le_refl _) dX0_aim_41 ?_
  refine g_put hx hb hts hown hG inX0 tyX0 tyX0_ok nmX0 9 rfl rfl 3 (by decide) q63 rfl (by decide +kernel) (Nat.le_of_ble_eq_true rfl) (sc S 13 (ln a b u (if 0 ≤ ((fX1_columnOf t) - (fX1_columnOf a)) then (fX1_columnOf t) - (fX1_columnOf a) else 0 - ((fX1_columnOf t) - (fX1_columnOf a))) (F 4) (F 5) (F 6) (F 7) (F 8) (F 9) (F 10) (F 11))) rfl dX0_aim_44 (fun H locs hG => ?_)
  refine lv_aload_n hx hb dX0_aim_47 rfl (lv_at hl 2 rfl) ?_
  refine lv_iload hx hb dX0_aim_48 (lv_at hl 0 rfl) ?_
  refine va_mabs hx hb (hml.trans hl.1.symm) hown (hts _ q242) (hts _ q243) (hts _ q44) (hts _ q244) (Nat.le_of_ble_eq_true rfl) (Nat.le_of_ble_eq_true rfl) (Nat.le_refl _) (Nat.le_refl _) dX0_aim_50 ?_
  refine g_put hx hb hts hown hG inX0 tyX0 tyX0_ok nmX0 9 rfl rfl 4 (by decide) q64 rfl (by decide +kernel) (Nat.le_of_ble_eq_true rfl) (sc S 13 (ln a b u (if 0 ≤ ((fX1_columnOf t) - (fX1_columnOf a)) then (fX1_columnOf t) - (fX1_columnOf a) else 0 - ((fX1_columnOf t) - (fX1_columnOf a))) (if 0 ≤ ((fX1_rowOf t) - (fX1_rowOf a)) then (fX1_rowOf t) - (fX1_rowOf a) else 0 - ((fX1_rowOf t) - (fX1_rowOf a))) (F 5) (F 6) (F 7) (F 8) (F 9) (F 10) (F 11))) rfl dX0_aim_53 (fun H locs hG => ?_)
  refine lv_aload_n hx hb dX0_aim_56 rfl (lv_at hl 2 rfl) ?_
  refine lv_iload hx hb dX0_aim_57 (lv_at hl 1 rfl) ?_
  refine g_dia (P := 0 ≤ (fX1_columnOf t) - (fX1_columnOf a)) (J := 67) (A9 := 1) (B9 := (-1)) (ls9 := ls) (rest9 := [.ref (hs 13)]) (fun ka2 kb3 => ?_) ?_
  · refine lv_if_ge (tgt := 66) hx hb dX0_aim_59 (by decide) (fun c1 => ?_) (fun c1 => ?_)
    · refine lv_iconst (v := 1) hx hb dX0_aim_66 (by decide) ?_
      exact ka2 c1
    · refine lv_iconst (v := (-1)) hx hb dX0_aim_62 (by decide) ?_
      refine lv_goto (tgt := 67) hx hb dX0_aim_63 (by decide) ?_
      exact kb3 c1
  refine g_put hx hb hts hown hG inX0 tyX0 tyX0_ok nmX0 9 rfl rfl 5 (by decide) q65 rfl (by decide +kernel) (Nat.le_of_ble_eq_true rfl) (sc S 13 (ln a b u (if 0 ≤ ((fX1_columnOf t) - (fX1_columnOf a)) then (fX1_columnOf t) - (fX1_columnOf a) else 0 - ((fX1_columnOf t) - (fX1_columnOf a))) (if 0 ≤ ((fX1_rowOf t) - (fX1_rowOf a)) then (fX1_rowOf t) - (fX1_rowOf a) else 0 - ((fX1_rowOf t) - (fX1_rowOf a))) (if 0 ≤ (fX1_columnOf t) - (fX1_columnOf a) then 1 else (-1)) (F 6) (F 7) (F 8) (F 9) (F 10) (F 11))) rfl dX0_aim_67 (fun H locs hG => ?_)
  refine lv_aload_n hx hb dX0_aim_70 rfl (lv_at hl 2 rfl) ?_
  refine lv_iload hx hb dX0_aim_71 (lv_at hl 0 rfl) ?_
  refine g_dia (P := 0 ≤ (fX1_rowOf t) - (fX1_rowOf a)) (J := 83) (A9 := 16) (B9 := (-16)) (ls9 := ls) (rest9 := [.ref (hs 13)]) (fun ka5 kb6 => ?_) ?_
  · refine lv_if_ge (tgt := 81) hx hb dX0_aim_73 (by decide) (fun c4 => ?_) (fun c4 => ?_)
    · refine lv_bipush (v := 16) hx hb dX0_aim_81 (by decide) ?_
      exact ka5 c4
    · refine lv_bipush (v := (-16)) hx hb dX0_aim_76 (by decide) ?_
      refine lv_goto (tgt := 83) hx hb dX0_aim_78 (by decide) ?_
      exact kb6 c4
  refine g_put hx hb hts hown hG inX0 tyX0 tyX0_ok nmX0 9 rfl rfl 6 (by decide) q66 rfl (by decide +kernel) (Nat.le_of_ble_eq_true rfl) (sc S 13 (ln a b u (if 0 ≤ ((fX1_columnOf t) - (fX1_columnOf a)) then (fX1_columnOf t) - (fX1_columnOf a) else 0 - ((fX1_columnOf t) - (fX1_columnOf a))) (if 0 ≤ ((fX1_rowOf t) - (fX1_rowOf a)) then (fX1_rowOf t) - (fX1_rowOf a) else 0 - ((fX1_rowOf t) - (fX1_rowOf a))) (if 0 ≤ (fX1_columnOf t) - (fX1_columnOf a) then 1 else (-1)) (if 0 ≤ (fX1_rowOf t) - (fX1_rowOf a) then 16 else (-16)) (F 7) (F 8) (F 9) (F 10) (F 11))) rfl dX0_aim_83 (fun H locs hG => ?_)
  refine lv_aload_n hx hb dX0_aim_86 rfl (lv_at hl 2 rfl) ?_
  refine lv_iconst (v := 0) hx hb dX0_aim_87 (by decide) ?_
  refine g_put hx hb hts hown hG inX0 tyX0 tyX0_ok nmX0 9 rfl rfl 7 (by decide) q67 rfl (by decide +kernel) (Nat.le_of_ble_eq_true rfl) (sc S 13 (ln a b u (if 0 ≤ ((fX1_columnOf t) - (fX1_columnOf a)) then (fX1_columnOf t) - (fX1_columnOf a) else 0 - ((fX1_columnOf t) - (fX1_columnOf a))) (if 0 ≤ ((fX1_rowOf t) - (fX1_rowOf a)) then (fX1_rowOf t) - (fX1_rowOf a) else 0 - ((fX1_rowOf t) - (fX1_rowOf a))) (if 0 ≤ (fX1_columnOf t) - (fX1_columnOf a) then 1 else (-1)) (if 0 ≤ (fX1_rowOf t) - (fX1_rowOf a) then 16 else (-16)) 0 (F 8) (F 9) (F 10) (F 11))) rfl dX0_aim_88 (fun H locs hG => ?_)
  refine lv_aload_n hx hb dX0_aim_91 rfl (lv_at hl 2 rfl) ?_
  refine lv_iconst (v := 0) hx hb dX0_aim_92 (by decide) ?_
  refine g_put hx hb hts hown hG inX0 tyX0 tyX0_ok nmX0 9 rfl rfl 8 (by decide) q68 rfl (by decide +kernel) (Nat.le_of_ble_eq_true rfl) (sc S 13 (ln a b u (if 0 ≤ ((fX1_columnOf t) - (fX1_columnOf a)) then (fX1_columnOf t) - (fX1_columnOf a) else 0 - ((fX1_columnOf t) - (fX1_columnOf a))) (if 0 ≤ ((fX1_rowOf t) - (fX1_rowOf a)) then (fX1_rowOf t) - (fX1_rowOf a) else 0 - ((fX1_rowOf t) - (fX1_rowOf a))) (if 0 ≤ (fX1_columnOf t) - (fX1_columnOf a) then 1 else (-1)) (if 0 ≤ (fX1_rowOf t) - (fX1_rowOf a) then 16 else (-16)) 0 0 (F 9) (F 10) (F 11))) rfl dX0_aim_93 (fun H locs hG => ?_)
  refine lv_aload_n hx hb dX0_aim_96 rfl (lv_at hl 2 rfl) ?_
  refine lv_iconst (v := 0) hx hb dX0_aim_97 (by decide) ?_
  refine g_put hx hb hts hown hG inX0 tyX0 tyX0_ok nmX0 9 rfl rfl 9 (by decide) q69 rfl (by decide +kernel) (Nat.le_of_ble_eq_true rfl) (sc S 13 (ln a b u (if 0 ≤ ((fX1_columnOf t) - (fX1_columnOf a)) then (fX1_columnOf t) - (fX1_columnOf a) else 0 - ((fX1_columnOf t) - (fX1_columnOf a))) (if 0 ≤ ((fX1_rowOf t) - (fX1_rowOf a)) then (fX1_rowOf t) - (fX1_rowOf a) else 0 - ((fX1_rowOf t) - (fX1_rowOf a))) (if 0 ≤ (fX1_columnOf t) - (fX1_columnOf a) then 1 else (-1)) (if 0 ≤ (fX1_rowOf t) - (fX1_rowOf a) then 16 else (-16)) 0 0 0 (F 10) (F 11))) rfl dX0_aim_98 (fun H locs hG => ?_)
  refine lv_aload_n hx hb dX0_aim_101 rfl (lv_at hl 2 rfl) ?_
  refine g_callvE wC_adr hG (g_runV (As := []) (rest := []) ⟨hx, hb, hml, hown, hts⟩ wC_adr (kX0_lookAhead S (ln a b u (if 0 ≤ ((fX1_columnOf t) - (fX1_columnOf a)) then (fX1_columnOf t) - (fX1_columnOf a) else 0 - ((fX1_columnOf t) - (fX1_columnOf a))) (if 0 ≤ ((fX1_rowOf t) - (fX1_rowOf a)) then (fX1_rowOf t) - (fX1_rowOf a) else 0 - ((fX1_rowOf t) - (fX1_rowOf a))) (if 0 ≤ (fX1_columnOf t) - (fX1_columnOf a) then 1 else (-1)) (if 0 ≤ (fX1_rowOf t) - (fX1_rowOf a) then 16 else (-16)) 0 0 0 (F 10) (F 11)) ) wyX0_lookAhead q245 hG 9 rfl rfl ⟨by decide, by decide⟩ rfl rfl hl.1 (Nat.le_of_ble_eq_true rfl) ⟨Nat.le_refl 0, Nat.le_refl 0⟩ dX0_aim_102) (fun H locs hG => ?_)
  exact g_vret hx hb hr hlk hG (rfl) dX0_aim_105
def fX0_wholeClearance (F : Nat → Int32) : Int32 := fJ9_floorDiv_7cf53 (((F 1) * ((2 * (if 1 < (F 3) then F 3 else 1)) * (if 1 < (F 4) then F 4 else 1))) + (((F 2) - (F 1)) * (if F 2 < F 1 then F 10 else F 9))) ((2 * (if 1 < (F 3) then F 3 else 1)) * (if 1 < (F 4) then F 4 else 1))
set_option maxHeartbeats 4000000 in
set_option maxRecDepth 100000 in
theorem kX0_wholeClearance {l : Launch} {D : va_G} {cy : ClassId} {hs : Nat → Nat} {X : va_W} (S : GS) (F : Nat → Int32) (hp : ¬ 2 * (if 1 < F 3 then F 3 else 1) * (if 1 < F 4 then F 4 else 1) = 0) : Ct l D cy (wC cy hs X) yX0_wholeClearance cX0_wholeClearance 3 (some .int) 1 22 (sc S 13 F) [.ref (hs 13)] (QI D (wC cy hs X) (exI (fX0_wholeClearance F) (sc S 13 F))) := by
  refine Ct.of wC_adr (plainFor_of_name (by decide)) (Nat.le_of_ble_eq_true rfl) ?_
  intro p e s m below meth c ls C hl hG
  obtain ⟨hx, hb, hml, hown, hts, hr, hlk⟩ := C
  have hl : lv_has ls 3 [(0, .ref (hs 13))] := hl
  refine lv_aload_n hx hb dX0_wholeClearance_0 rfl (lv_at hl 0 rfl) ?_
  refine g_get hx hb hts hown hG inX0 9 rfl rfl 2 (by decide) q62 (v := .int (F 2)) rfl dX0_wholeClearance_1 ?_
  refine lv_aload_n hx hb dX0_wholeClearance_4 rfl (lv_at hl 0 rfl) ?_
  refine g_get hx hb hts hown hG inX0 9 rfl rfl 1 (by decide) q61 (v := .int (F 1)) rfl dX0_wholeClearance_5 ?_
  refine g_dia (P := F 2 < F 1) (J := 22) (A9 := F 10) (B9 := F 9) (ls9 := ls) (rest9 := []) (fun ka2 kb3 => ?_) ?_
  · refine lv_icmp_lt (tgt := 18) hx hb dX0_wholeClearance_8 (by decide) (fun c1 => ?_) (fun c1 => ?_)
    · refine lv_aload_n hx hb dX0_wholeClearance_18 rfl (lv_at hl 0 rfl) ?_
      refine g_get hx hb hts hown hG inX0 9 rfl rfl 10 (by decide) q70 (v := .int (F 10)) rfl dX0_wholeClearance_19 ?_
      exact ka2 c1
    · refine lv_aload_n hx hb dX0_wholeClearance_11 rfl (lv_at hl 0 rfl) ?_
      refine g_get hx hb hts hown hG inX0 9 rfl rfl 9 (by decide) q69 (v := .int (F 9)) rfl dX0_wholeClearance_12 ?_
      refine lv_goto (tgt := 22) hx hb dX0_wholeClearance_15 (by decide) ?_
      exact kb3 c1
  refine lv_istore_n (lv' := [(1, .int (if F 2 < F 1 then F 10 else F 9)), (0, .ref (hs 13))]) hx hb dX0_wholeClearance_22 rfl hl (by decide) rfl (fun ls hl => ?_)
  refine lv_iconst (v := 2) hx hb dX0_wholeClearance_23 (by decide) ?_
  refine lv_iconst (v := 1) hx hb dX0_wholeClearance_24 (by decide) ?_
  refine lv_aload_n hx hb dX0_wholeClearance_25 rfl (lv_at hl 1 rfl) ?_
  refine g_get hx hb hts hown hG inX0 9 rfl rfl 3 (by decide) q63 (v := .int (F 3)) rfl dX0_wholeClearance_26 ?_
  refine va_mmax hx hb (hml.trans hl.1.symm) hown (hts _ q249) (hts _ q250) (hts _ q44) (hts _ q251) (Nat.le_of_ble_eq_true rfl) (Nat.le_of_ble_eq_true rfl) (Nat.le_refl _) (Nat.le_refl _) dX0_wholeClearance_29 ?_
  refine lv_imul hx hb dX0_wholeClearance_32 ?_
  refine lv_iconst (v := 1) hx hb dX0_wholeClearance_33 (by decide) ?_
  refine lv_aload_n hx hb dX0_wholeClearance_34 rfl (lv_at hl 1 rfl) ?_
  refine g_get hx hb hts hown hG inX0 9 rfl rfl 4 (by decide) q64 (v := .int (F 4)) rfl dX0_wholeClearance_35 ?_
  refine va_mmax hx hb (hml.trans hl.1.symm) hown (hts _ q249) (hts _ q250) (hts _ q44) (hts _ q251) (Nat.le_of_ble_eq_true rfl) (Nat.le_of_ble_eq_true rfl) (Nat.le_refl _) (Nat.le_refl _) dX0_wholeClearance_38 ?_
  refine lv_imul hx hb dX0_wholeClearance_41 ?_
  refine lv_istore_n (lv' := [(2, .int ((2 * (if 1 < (F 3) then F 3 else 1)) * (if 1 < (F 4) then F 4 else 1))), (1, .int (if F 2 < F 1 then F 10 else F 9)), (0, .ref (hs 13))]) hx hb dX0_wholeClearance_42 rfl hl (by decide) rfl (fun ls hl => ?_)
  refine lv_aload_n hx hb dX0_wholeClearance_43 rfl (lv_at hl 2 rfl) ?_
  refine g_get hx hb hts hown hG inX0 9 rfl rfl 1 (by decide) q61 (v := .int (F 1)) rfl dX0_wholeClearance_44 ?_
  refine lv_iload_n hx hb dX0_wholeClearance_47 rfl (lv_at hl 0 rfl) ?_
  refine lv_imul hx hb dX0_wholeClearance_48 ?_
  refine lv_aload_n hx hb dX0_wholeClearance_49 rfl (lv_at hl 2 rfl) ?_
  refine g_get hx hb hts hown hG inX0 9 rfl rfl 2 (by decide) q62 (v := .int (F 2)) rfl dX0_wholeClearance_50 ?_
  refine lv_aload_n hx hb dX0_wholeClearance_53 rfl (lv_at hl 2 rfl) ?_
  refine g_get hx hb hts hown hG inX0 9 rfl rfl 1 (by decide) q61 (v := .int (F 1)) rfl dX0_wholeClearance_54 ?_
  refine lv_isub hx hb dX0_wholeClearance_57 ?_
  refine lv_iload_n hx hb dX0_wholeClearance_58 rfl (lv_at hl 1 rfl) ?_
  refine lv_imul hx hb dX0_wholeClearance_59 ?_
  refine lv_iadd hx hb dX0_wholeClearance_60 ?_
  refine lv_iload_n hx hb dX0_wholeClearance_61 rfl (lv_at hl 0 rfl) ?_
  refine g_stat (As := [.int (((F 1) * ((2 * (if 1 < (F 3) then F 3 else 1)) * (if 1 < (F 4) then F 4 else 1))) + (((F 2) - (F 1)) * (if F 2 < F 1 then F 10 else F 9))), .int ((2 * (if 1 < (F 3) then F 3 else 1)) * (if 1 < (F 4) then F 4 else 1))]) (rest := []) ⟨hx, hb, hml, hown, hts⟩ (kJ9_floorDiv_7cf53 (((F 1) * ((2 * (if 1 < (F 3) then F 3 else 1)) * (if 1 < (F 4) then F 4 else 1))) + (((F 2) - (F 1)) * (if F 2 < F 1 then F 10 else F 9))) ((2 * (if 1 < (F 3) then F 3 else 1)) * (if 1 < (F 4) then F 4 else 1)) hp) wyJ9_floorDiv_7cf53 q272 hG ⟨by decide, by decide⟩ rfl rfl hl.1 (Nat.le_of_ble_eq_true rfl) ⟨Nat.le_refl 0, Nat.le_refl 0⟩ dX0_wholeClearance_62 (fun H locs hG => ?_)
  exact g_iret hx hb hr hlk hG ⟨rfl, rfl⟩ dX0_wholeClearance_65
