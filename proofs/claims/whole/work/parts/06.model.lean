/-! ===== the reference: methods without loops; F: its nine fields that each view writes anew (fromX, fromY, alongX, alongY, eye, top, whole, begin, end) ===== -/
def sm (S : GS) (F : Nat → Int32) : GS := fun b => if b = 0 then (fun k => if 8 ≤ k ∧ k < 17 then F (k - 8) else S 0 k) else S b
def lm (a0 a1 a2 a3 a4 a5 a6 a7 a8 : Int32) : Nat → Int32 := fun k => match k with
  | 0 => a0
  | 1 => a1
  | 2 => a2
  | 3 => a3
  | 4 => a4
  | 5 => a5
  | 6 => a6
  | 7 => a7
  | _ => a8
theorem size_ne {a : Int32} (h : ¬ a = 0) : ¬ fX2_size a = 0 := by
  unfold fX2_size
  split
  · exact h
  · intro h2
    have h3 : a = - - a := by rw [Int32.neg_neg]
    rw [h2] at h3
    exact h h3

def fX2_noCell (S : GS) (x : Int32) (y : Int32) : Int32 := if fX2_in x 0 ((S 0 0) - 1) = 0 then 1 else (if fX2_in y 0 ((S 0 1) - 1) = 0 then 1 else 0)
set_option maxHeartbeats 4000000 in
set_option maxRecDepth 100000 in
theorem kX2_noCell {l : Launch} {D : va_G} {cy : ClassId} {hs : Nat → Nat} {X : va_W} (S : GS) (x : Int32) (y : Int32) : Ct l D cy (wM cy hs X) yX2_noCell cX2_noCell 3 (some .boolean) 1 22 S [.ref (hs 0), .int x, .int y] (QI D (wM cy hs X) (exI (fX2_noCell S x y) (S))) := by
  refine Ct.of wM_adr (plainFor_of_name (by decide)) (Nat.le_of_ble_eq_true rfl) ?_
  intro p e s m below meth c ls C hl hG
  obtain ⟨hx, hb, hml, hown, hts, hr, hlk⟩ := C
  have hl : lv_has ls 3 [(0, .ref (hs 0)), (1, .int x), (2, .int y)] := hl
  refine lv_iload_n hx hb dX2_noCell_0 rfl (lv_at hl 1 rfl) ?_
  refine lv_iconst (v := 0) hx hb dX2_noCell_1 (by decide) ?_
  refine lv_aload_n hx hb dX2_noCell_2 rfl (lv_at hl 0 rfl) ?_
  refine g_get hx hb hts hown hG inX2 0 rfl rfl 0 (by decide) q392 (v := .int (S 0 0)) rfl dX2_noCell_3 ?_
  refine lv_iconst (v := 1) hx hb dX2_noCell_6 (by decide) ?_
  refine lv_isub hx hb dX2_noCell_7 ?_
  refine g_stat (As := [.int x, .int 0, .int ((S 0 0) - 1)]) (rest := []) ⟨hx, hb, hml, hown, hts⟩ (kX2_in x 0 ((S 0 0) - 1)) wyX2_in q478 hG ⟨by decide, by decide⟩ rfl rfl hl.1 (Nat.le_of_ble_eq_true rfl) ⟨Nat.le_refl 0, Nat.le_refl 0⟩ dX2_noCell_8 (fun H locs hG => ?_)
  refine lv_if_eq (tgt := 28) hx hb dX2_noCell_11 (by decide) (fun c1 => ?_) (fun c1 => ?_)
  · refine lv_iconst (v := 1) hx hb dX2_noCell_28 (by decide) ?_
    refine lv_goto (tgt := 33) hx hb dX2_noCell_29 (by decide) ?_
    exact g_zret hx hb hr hlk hG rfl ⟨by unfold fX2_noCell; rw [if_pos c1], rfl⟩ dX2_noCell_33
  · refine lv_iload_n hx hb dX2_noCell_14 rfl (lv_at hl 2 rfl) ?_
    refine lv_iconst (v := 0) hx hb dX2_noCell_15 (by decide) ?_
    refine lv_aload_n hx hb dX2_noCell_16 rfl (lv_at hl 0 rfl) ?_
    refine g_get hx hb hts hown hG inX2 0 rfl rfl 1 (by decide) q393 (v := .int (S 0 1)) rfl dX2_noCell_17 ?_
    refine lv_iconst (v := 1) hx hb dX2_noCell_20 (by decide) ?_
    refine lv_isub hx hb dX2_noCell_21 ?_
    refine g_stat (As := [.int y, .int 0, .int ((S 0 1) - 1)]) (rest := []) ⟨hx, hb, hml, hown, hts⟩ (kX2_in y 0 ((S 0 1) - 1)) wyX2_in q478 hG ⟨by decide, by decide⟩ rfl rfl hl.1 (Nat.le_of_ble_eq_true rfl) ⟨Nat.le_refl 0, Nat.le_refl 0⟩ dX2_noCell_22 (fun H locs hG => ?_)
    refine lv_if_ne (tgt := 32) hx hb dX2_noCell_25 (by decide) (fun c2 => ?_) (fun c2 => ?_)
    · refine lv_iconst (v := 0) hx hb dX2_noCell_32 (by decide) ?_
      exact g_zret hx hb hr hlk hG rfl ⟨by unfold fX2_noCell; rw [if_neg c1, if_neg c2], rfl⟩ dX2_noCell_33
    · refine lv_iconst (v := 1) hx hb dX2_noCell_28 (by decide) ?_
      refine lv_goto (tgt := 33) hx hb dX2_noCell_29 (by decide) ?_
      exact g_zret hx hb hr hlk hG rfl ⟨by unfold fX2_noCell; rw [if_neg c1, if_pos c2], rfl⟩ dX2_noCell_33
def fX2_noFeature (S : GS) (k : Int32) : Int32 := if fX2_in k 0 ((S 0 4) - 1) = 0 then 1 else 0
set_option maxHeartbeats 4000000 in
set_option maxRecDepth 100000 in
theorem kX2_noFeature {l : Launch} {D : va_G} {cy : ClassId} {hs : Nat → Nat} {X : va_W} (S : GS) (k : Int32) : Ct l D cy (wM cy hs X) yX2_noFeature cX2_noFeature 2 (some .boolean) 1 22 S [.ref (hs 0), .int k] (QI D (wM cy hs X) (exI (fX2_noFeature S k) (S))) := by
  refine Ct.of wM_adr (plainFor_of_name (by decide)) (Nat.le_of_ble_eq_true rfl) ?_
  intro p e s m below meth c ls C hl hG
  obtain ⟨hx, hb, hml, hown, hts, hr, hlk⟩ := C
  have hl : lv_has ls 2 [(0, .ref (hs 0)), (1, .int k)] := hl
  refine lv_iload_n hx hb dX2_noFeature_0 rfl (lv_at hl 1 rfl) ?_
  refine lv_iconst (v := 0) hx hb dX2_noFeature_1 (by decide) ?_
  refine lv_aload_n hx hb dX2_noFeature_2 rfl (lv_at hl 0 rfl) ?_
  refine g_get hx hb hts hown hG inX2 0 rfl rfl 4 (by decide) q396 (v := .int (S 0 4)) rfl dX2_noFeature_3 ?_
  refine lv_iconst (v := 1) hx hb dX2_noFeature_6 (by decide) ?_
  refine lv_isub hx hb dX2_noFeature_7 ?_
  refine g_stat (As := [.int k, .int 0, .int ((S 0 4) - 1)]) (rest := []) ⟨hx, hb, hml, hown, hts⟩ (kX2_in k 0 ((S 0 4) - 1)) wyX2_in q478 hG ⟨by decide, by decide⟩ rfl rfl hl.1 (Nat.le_of_ble_eq_true rfl) ⟨Nat.le_refl 0, Nat.le_refl 0⟩ dX2_noFeature_8 (fun H locs hG => ?_)
  refine lv_if_ne (tgt := 18) hx hb dX2_noFeature_11 (by decide) (fun c1 => ?_) (fun c1 => ?_)
  · refine lv_iconst (v := 0) hx hb dX2_noFeature_18 (by decide) ?_
    exact g_zret hx hb hr hlk hG rfl ⟨by unfold fX2_noFeature; rw [if_neg c1], rfl⟩ dX2_noFeature_19
  · refine lv_iconst (v := 1) hx hb dX2_noFeature_14 (by decide) ?_
    refine lv_goto (tgt := 19) hx hb dX2_noFeature_15 (by decide) ?_
    exact g_zret hx hb hr hlk hG rfl ⟨by unfold fX2_noFeature; rw [if_pos c1], rfl⟩ dX2_noFeature_19
/-- the size of the garden, of the reference -/
def okM (S : GS) : Prop := ∃ c r : Nat, 3 ≤ c ∧ c ≤ 16 ∧ 3 ≤ r ∧ r ≤ 12 ∧ S 0 0 = nI c ∧ S 0 1 = nI r
theorem in_spec {v : Int32} {n : Nat} (hn : n < 2 ^ 31) (h : ¬ fX2_in v 0 (nI n) = 0) : ∃ a : Nat, a ≤ n ∧ v = nI a := by
  unfold fX2_in at h
  split at h
  · exact absurd rfl h
  · rename_i h1
    split at h
    · exact absurd rfl h
    · rename_i h2
      rw [Int32.lt_iff_toInt_lt, Int32.toInt_zero] at h1
      rw [Int32.lt_iff_toInt_lt, nI_toInt hn] at h2
      exact ⟨v.toInt.toNat, by omega, Int32.toInt_inj.mp (by rw [nI_toInt (by omega)]; omega)⟩
theorem nI_m1 {n : Nat} (h : 0 < n) : nI n - 1 = nI (n - 1) := by
  obtain ⟨k, rfl⟩ : ∃ k, n = k + 1 := ⟨n - 1, by omega⟩
  exact nI_pred k
theorem idx_in {S : GS} {x y : Int32} (ho : okM S) (h : fX2_noCell S x y = 0) : ∃ a b : Nat, a < 16 ∧ b < 12 ∧ x = nI a ∧ y = nI b ∧ nI a < S 0 0 ∧ nI b < S 0 1 := by
  obtain ⟨c, r, h1, h2, h3, h4, e1, e2⟩ := ho
  unfold fX2_noCell at h
  rw [e1, e2, nI_m1 (by omega), nI_m1 (by omega)] at h
  split at h
  · exact absurd h (by decide)
  · rename_i q1
    split at h
    · exact absurd h (by decide)
    · rename_i q2
      obtain ⟨a, ha, rfl⟩ := in_spec (by omega) q1
      obtain ⟨b, hb, rfl⟩ := in_spec (by omega) q2
      rw [e1, e2]
      exact ⟨a, b, by omega, by omega, rfl, rfl, nI_lt (by omega) (by omega), nI_lt (by omega) (by omega)⟩
theorem idx_nI (a b : Nat) : 16 * nI b + nI a = nI (16 * b + a) := by
  rw [show (16 : Int32) = nI 16 from rfl, pk_mul, nI_add]
theorem idx_vp {S : GS} {x y : Int32} (ho : okM S) (h : fX2_noCell S x y = 0) : vp_in (16 * y + x) 192 := by
  obtain ⟨a, b, ha, hb, rfl, rfl, -, -⟩ := idx_in ho h
  rw [idx_nI]
  exact vp_in_nI (by omega) (by decide)
theorem rem16 {k : Nat} (h : k < 192) : nI k - nI k / 16 * 16 = nI (k % 16) := pk_rem (d := 16) (by omega) (by decide) (by decide)
theorem div16 {k : Nat} (h : k < 192) : nI k / 16 = nI (k / 16) := pk_div (d := 16) (by omega) (by decide) (by decide)

def fX2_isPlace (S : GS) (x : Int32) (y : Int32) : Int32 := if S 2 ((16 * y) + x).toNatClampNeg = 0 then 1 else (if S 2 ((16 * y) + x).toNatClampNeg = 1 then 1 else (if S 2 ((16 * y) + x).toNatClampNeg = 3 then 1 else 0))
set_option maxHeartbeats 4000000 in
set_option maxRecDepth 100000 in
theorem kX2_isPlace {l : Launch} {D : va_G} {cy : ClassId} {hs : Nat → Nat} {X : va_W} (S : GS) (x : Int32) (y : Int32) (h : vp_in (16 * y + x) 192) : Ct l D cy (wM cy hs X) yX2_isPlace cX2_isPlace 4 (some .boolean) 0 0 S [.ref (hs 0), .int x, .int y] (QI D (wM cy hs X) (exI (fX2_isPlace S x y) (S))) := by
  refine Ct.of wM_adr (plainFor_of_name (by decide)) (Nat.le_of_ble_eq_true rfl) ?_
  intro p e s m below meth c ls C hl hG
  obtain ⟨hx, hb, hml, hown, hts, hr, hlk⟩ := C
  have hl : lv_has ls 4 [(0, .ref (hs 0)), (1, .int x), (2, .int y)] := hl
  refine lv_aload_n hx hb dX2_isPlace_0 rfl (lv_at hl 0 rfl) ?_
  refine g_get hx hb hts hown hG inX2 0 rfl rfl 2 (by decide) q394 (v := .ref (hs 2)) rfl dX2_isPlace_1 ?_
  refine lv_bipush (v := 16) hx hb dX2_isPlace_4 (by decide) ?_
  refine lv_iload_n hx hb dX2_isPlace_6 rfl (lv_at hl 2 rfl) ?_
  refine lv_imul hx hb dX2_isPlace_7 ?_
  refine lv_iload_n hx hb dX2_isPlace_8 rfl (lv_at hl 1 rfl) ?_
  refine lv_iadd hx hb dX2_isPlace_9 ?_
  refine g_ald (f := S 2) hx hb hG 1 rfl (h) dX2_isPlace_10 ?_
  refine lv_istore_n (lv' := [(3, .int (S 2 ((16 * y) + x).toNatClampNeg)), (0, .ref (hs 0)), (1, .int x), (2, .int y)]) hx hb dX2_isPlace_11 rfl hl (by decide) rfl (fun ls hl => ?_)
  refine lv_iload_n hx hb dX2_isPlace_12 rfl (lv_at hl 0 rfl) ?_
  refine lv_if_eq (tgt := 26) hx hb dX2_isPlace_13 (by decide) (fun c1 => ?_) (fun c1 => ?_)
  · refine lv_iconst (v := 1) hx hb dX2_isPlace_26 (by decide) ?_
    refine lv_goto (tgt := 31) hx hb dX2_isPlace_27 (by decide) ?_
    exact g_zret hx hb hr hlk hG rfl ⟨by unfold fX2_isPlace; rw [if_pos c1], rfl⟩ dX2_isPlace_31
  · refine lv_iload_n hx hb dX2_isPlace_16 rfl (lv_at hl 0 rfl) ?_
    refine lv_iconst (v := 1) hx hb dX2_isPlace_17 (by decide) ?_
    refine lv_icmp_eq (tgt := 26) hx hb dX2_isPlace_18 (by decide) (fun c2 => ?_) (fun c2 => ?_)
    · refine lv_iconst (v := 1) hx hb dX2_isPlace_26 (by decide) ?_
      refine lv_goto (tgt := 31) hx hb dX2_isPlace_27 (by decide) ?_
      exact g_zret hx hb hr hlk hG rfl ⟨by unfold fX2_isPlace; rw [if_neg c1, if_pos c2], rfl⟩ dX2_isPlace_31
    · refine lv_iload_n hx hb dX2_isPlace_21 rfl (lv_at hl 0 rfl) ?_
      refine lv_iconst (v := 3) hx hb dX2_isPlace_22 (by decide) ?_
      refine lv_icmp_ne (tgt := 30) hx hb dX2_isPlace_23 (by decide) (fun c3 => ?_) (fun c3 => ?_)
      · refine lv_iconst (v := 0) hx hb dX2_isPlace_30 (by decide) ?_
        exact g_zret hx hb hr hlk hG rfl ⟨by unfold fX2_isPlace; rw [if_neg c1, if_neg c2, if_neg c3], rfl⟩ dX2_isPlace_31
      · refine lv_iconst (v := 1) hx hb dX2_isPlace_26 (by decide) ?_
        refine lv_goto (tgt := 31) hx hb dX2_isPlace_27 (by decide) ?_
        exact g_zret hx hb hr hlk hG rfl ⟨by unfold fX2_isPlace; rw [if_neg c1, if_neg c2, if_pos c3], rfl⟩ dX2_isPlace_31
def fX2_viewBarred (S : GS) (x : Int32) (y : Int32) (f : Int32) : Int32 := if fX2_noCell S x y = 0 then (if fX2_noFeature S f = 0 then (if fX2_isPlace S x y = 0 then (-3) else 0) else (-2)) else (-1)
set_option maxHeartbeats 4000000 in
set_option maxRecDepth 100000 in
theorem kX2_viewBarred {l : Launch} {D : va_G} {cy : ClassId} {hs : Nat → Nat} {X : va_W} (S : GS) (x : Int32) (y : Int32) (f : Int32) (ho : okM S) : Ct l D cy (wM cy hs X) yX2_viewBarred cX2_viewBarred 4 (some .int) 2 44 S [.ref (hs 0), .int x, .int y, .int f] (QI D (wM cy hs X) (exI (fX2_viewBarred S x y f) (S))) := by
  refine Ct.of wM_adr (plainFor_of_name (by decide)) (Nat.le_of_ble_eq_true rfl) ?_
  intro p e s m below meth c ls C hl hG
  obtain ⟨hx, hb, hml, hown, hts, hr, hlk⟩ := C
  have hl : lv_has ls 4 [(0, .ref (hs 0)), (1, .int x), (2, .int y), (3, .int f)] := hl
  refine lv_aload_n hx hb dX2_viewBarred_0 rfl (lv_at hl 0 rfl) ?_
  refine lv_iload_n hx hb dX2_viewBarred_1 rfl (lv_at hl 1 rfl) ?_
  refine lv_iload_n hx hb dX2_viewBarred_2 rfl (lv_at hl 2 rfl) ?_
  refine g_calliE wM_adr hG (g_runV (As := [.int x, .int y]) (rest := []) ⟨hx, hb, hml, hown, hts⟩ wM_adr (kX2_noCell S x y) wyX2_noCell q485 hG 0 rfl rfl ⟨by decide, by decide⟩ rfl rfl hl.1 (Nat.le_of_ble_eq_true rfl) ⟨Nat.le_refl 0, Nat.le_refl 0⟩ dX2_viewBarred_3) (fun H locs hG => ?_)
  refine lv_if_eq (tgt := 13) hx hb dX2_viewBarred_6 (by decide) (fun c1 => ?_) (fun c1 => ?_)
  · refine lv_aload_n hx hb dX2_viewBarred_13 rfl (lv_at hl 0 rfl) ?_
    refine lv_iload_n hx hb dX2_viewBarred_14 rfl (lv_at hl 3 rfl) ?_
    refine g_calliE wM_adr hG (g_runV (As := [.int f]) (rest := []) ⟨hx, hb, hml, hown, hts⟩ wM_adr (kX2_noFeature S f) wyX2_noFeature q525 hG 0 rfl rfl ⟨by decide, by decide⟩ rfl rfl hl.1 (Nat.le_of_ble_eq_true rfl) ⟨Nat.le_refl 0, Nat.le_refl 0⟩ dX2_viewBarred_15) (fun H locs hG => ?_)
    refine lv_if_eq (tgt := 26) hx hb dX2_viewBarred_18 (by decide) (fun c2 => ?_) (fun c2 => ?_)
    · refine lv_aload_n hx hb dX2_viewBarred_26 rfl (lv_at hl 0 rfl) ?_
      refine lv_iload_n hx hb dX2_viewBarred_27 rfl (lv_at hl 1 rfl) ?_
      refine lv_iload_n hx hb dX2_viewBarred_28 rfl (lv_at hl 2 rfl) ?_
      refine g_calliE wM_adr hG (g_runV (As := [.int x, .int y]) (rest := []) ⟨hx, hb, hml, hown, hts⟩ wM_adr (kX2_isPlace S x y (idx_vp ho (c1))) wyX2_isPlace q529 hG 0 rfl rfl ⟨by decide, by decide⟩ rfl rfl hl.1 (Nat.le_of_ble_eq_true rfl) ⟨Nat.le_refl 0, Nat.le_refl 0⟩ dX2_viewBarred_29) (fun H locs hG => ?_)
      refine g_dia (P := fX2_isPlace S x y = 0) (J := 41) (A9 := (-3)) (B9 := 0) (ls9 := ls) (rest9 := []) (fun ka4 kb5 => ?_) ?_
      · refine lv_if_eq (tgt := 39) hx hb dX2_viewBarred_32 (by decide) (fun c3 => ?_) (fun c3 => ?_)
        · refine lv_bipush (v := (-3)) hx hb dX2_viewBarred_39 (by decide) ?_
          exact ka4 c3
        · refine lv_iconst (v := 0) hx hb dX2_viewBarred_35 (by decide) ?_
          refine lv_goto (tgt := 41) hx hb dX2_viewBarred_36 (by decide) ?_
          exact kb5 c3
      exact g_iret hx hb hr hlk hG ⟨by unfold fX2_viewBarred; rw [if_pos c1, if_pos c2], rfl⟩ dX2_viewBarred_41
    · refine lv_bipush (v := (-2)) hx hb dX2_viewBarred_21 (by decide) ?_
      refine lv_goto (tgt := 41) hx hb dX2_viewBarred_23 (by decide) ?_
      exact g_iret hx hb hr hlk hG ⟨by unfold fX2_viewBarred; rw [if_pos c1, if_neg c2], rfl⟩ dX2_viewBarred_41
  · refine lv_iconst (v := (-1)) hx hb dX2_viewBarred_9 (by decide) ?_
    refine lv_goto (tgt := 41) hx hb dX2_viewBarred_10 (by decide) ?_
    exact g_iret hx hb hr hlk hG ⟨by unfold fX2_viewBarred; rw [if_neg c1], rfl⟩ dX2_viewBarred_41
def gX2_look (S : GS) (F : Nat → Int32) (a : Nat) (b : Nat) (f : Nat) (tx : Nat) (ty : Nat) : Nat → Int32 := lm (nI a) (nI b) ((nI tx) - (nI a)) ((nI ty) - (nI b)) (if S 2 (16 * b + a) = 3 then 11 else 16) (S 3 (16 * ty + tx)) ((2 * (fX2_atLeastOne (fX2_size ((nI tx) - (nI a))))) * (fX2_atLeastOne (fX2_size ((nI ty) - (nI b))))) (F 7) (F 8)
set_option maxHeartbeats 4000000 in
set_option maxRecDepth 100000 in
theorem kX2_look {l : Launch} {D : va_G} {cy : ClassId} {hs : Nat → Nat} {X : va_W} (S : GS) (F : Nat → Int32) (a : Nat) (b : Nat) (f : Nat) (tx : Nat) (ty : Nat) (ha : a < 16) (hb9 : b < 12) (hf : f < 10) (htx : S 5 f = nI tx) (hty : S 6 f = nI ty) (htx9 : tx < 16) (hty9 : ty < 12) : Ct l D cy (wM cy hs X) yX2_look cX2_look 4 none 1 20 (sm S F) [.ref (hs 0), .int (nI a), .int (nI b), .int (nI f)] (QV D (wM cy hs X) (exV (sm S (gX2_look S F a b f tx ty)))) := by
  refine Ct.of wM_adr (plainFor_of_name (by decide)) (Nat.le_of_ble_eq_true rfl) ?_
  intro p e s m below meth c ls C hl hG
  obtain ⟨hx, hb, hml, hown, hts, hr, hlk⟩ := C
  have hl : lv_has ls 4 [(0, .ref (hs 0)), (1, .int (nI a)), (2, .int (nI b)), (3, .int (nI f))] := hl
  refine lv_aload_n hx hb dX2_look_0 rfl (lv_at hl 0 rfl) ?_
  refine lv_iload_n hx hb dX2_look_1 rfl (lv_at hl 1 rfl) ?_
  refine g_put hx hb hts hown hG inX2 tyX2 tyX2_ok nmX2 0 rfl rfl 8 (by decide) q400 rfl (by decide +kernel) (Nat.le_of_ble_eq_true rfl) (sm S (lm (nI a) (F 1) (F 2) (F 3) (F 4) (F 5) (F 6) (F 7) (F 8))) rfl dX2_look_2 (fun H locs hG => ?_)
  refine lv_aload_n hx hb dX2_look_5 rfl (lv_at hl 0 rfl) ?_
  refine lv_iload_n hx hb dX2_look_6 rfl (lv_at hl 2 rfl) ?_
  refine g_put hx hb hts hown hG inX2 tyX2 tyX2_ok nmX2 0 rfl rfl 9 (by decide) q401 rfl (by decide +kernel) (Nat.le_of_ble_eq_true rfl) (sm S (lm (nI a) (nI b) (F 2) (F 3) (F 4) (F 5) (F 6) (F 7) (F 8))) rfl dX2_look_7 (fun H locs hG => ?_)
  refine lv_aload_n hx hb dX2_look_10 rfl (lv_at hl 0 rfl) ?_
  refine lv_aload_n hx hb dX2_look_11 rfl (lv_at hl 0 rfl) ?_
  refine g_get hx hb hts hown hG inX2 0 rfl rfl 5 (by decide) q397 (v := .ref (hs 5)) rfl dX2_look_12 ?_
  refine lv_iload_n hx hb dX2_look_15 rfl (lv_at hl 3 rfl) ?_
  refine g_aldN (f := S 5) hx hb hG 3 rfl (by decide) (f) (rfl) (hf) dX2_look_16 ?_
  refine g_top (y := nI tx) (htx) ?_
  refine lv_iload_n hx hb dX2_look_17 rfl (lv_at hl 1 rfl) ?_
  refine lv_isub hx hb dX2_look_18 ?_
  refine g_put hx hb hts hown hG inX2 tyX2 tyX2_ok nmX2 0 rfl rfl 10 (by decide) q402 rfl (by decide +kernel) (Nat.le_of_ble_eq_true rfl) (sm S (lm (nI a) (nI b) ((nI tx) - (nI a)) (F 3) (F 4) (F 5) (F 6) (F 7) (F 8))) rfl dX2_look_19 (fun H locs hG => ?_)
  refine lv_aload_n hx hb dX2_look_22 rfl (lv_at hl 0 rfl) ?_
  refine lv_aload_n hx hb dX2_look_23 rfl (lv_at hl 0 rfl) ?_
  refine g_get hx hb hts hown hG inX2 0 rfl rfl 6 (by decide) q398 (v := .ref (hs 6)) rfl dX2_look_24 ?_
  refine lv_iload_n hx hb dX2_look_27 rfl (lv_at hl 3 rfl) ?_
  refine g_aldN (f := S 6) hx hb hG 4 rfl (by decide) (f) (rfl) (hf) dX2_look_28 ?_
  refine g_top (y := nI ty) (hty) ?_
  refine lv_iload_n hx hb dX2_look_29 rfl (lv_at hl 2 rfl) ?_
  refine lv_isub hx hb dX2_look_30 ?_
  refine g_put hx hb hts hown hG inX2 tyX2 tyX2_ok nmX2 0 rfl rfl 11 (by decide) q403 rfl (by decide +kernel) (Nat.le_of_ble_eq_true rfl) (sm S (lm (nI a) (nI b) ((nI tx) - (nI a)) ((nI ty) - (nI b)) (F 4) (F 5) (F 6) (F 7) (F 8))) rfl dX2_look_31 (fun H locs hG => ?_)
  refine lv_aload_n hx hb dX2_look_34 rfl (lv_at hl 0 rfl) ?_
  refine lv_aload_n hx hb dX2_look_35 rfl (lv_at hl 0 rfl) ?_
  refine g_get hx hb hts hown hG inX2 0 rfl rfl 2 (by decide) q394 (v := .ref (hs 2)) rfl dX2_look_36 ?_
  refine lv_bipush (v := 16) hx hb dX2_look_39 (by decide) ?_
  refine lv_iload_n hx hb dX2_look_41 rfl (lv_at hl 2 rfl) ?_
  refine lv_imul hx hb dX2_look_42 ?_
  refine lv_iload_n hx hb dX2_look_43 rfl (lv_at hl 1 rfl) ?_
  refine lv_iadd hx hb dX2_look_44 ?_
  refine g_aldN (f := S 2) hx hb hG 1 rfl (by decide) (16 * b + a) (idx_nI a b) (by omega) dX2_look_45 ?_
  refine lv_iconst (v := 3) hx hb dX2_look_46 (by decide) ?_
  refine g_dia (P := S 2 (16 * b + a) = 3) (J := 57) (A9 := 11) (B9 := 16) (ls9 := ls) (rest9 := [.ref (hs 0)]) (fun ka2 kb3 => ?_) ?_
  · refine lv_icmp_ne (tgt := 55) hx hb dX2_look_47 (by decide) (fun c1 => ?_) (fun c1 => ?_)
    · refine lv_bipush (v := 16) hx hb dX2_look_55 (by decide) ?_
      exact kb3 c1
    · refine lv_bipush (v := 11) hx hb dX2_look_50 (by decide) ?_
      refine lv_goto (tgt := 57) hx hb dX2_look_52 (by decide) ?_
      exact ka2 c1
  refine g_put hx hb hts hown hG inX2 tyX2 tyX2_ok nmX2 0 rfl rfl 12 (by decide) q404 rfl (by decide +kernel) (Nat.le_of_ble_eq_true rfl) (sm S (lm (nI a) (nI b) ((nI tx) - (nI a)) ((nI ty) - (nI b)) (if S 2 (16 * b + a) = 3 then 11 else 16) (F 5) (F 6) (F 7) (F 8))) rfl dX2_look_57 (fun H locs hG => ?_)
  refine lv_aload_n hx hb dX2_look_60 rfl (lv_at hl 0 rfl) ?_
  refine lv_aload_n hx hb dX2_look_61 rfl (lv_at hl 0 rfl) ?_
  refine g_get hx hb hts hown hG inX2 0 rfl rfl 3 (by decide) q395 (v := .ref (hs 3)) rfl dX2_look_62 ?_
  refine lv_bipush (v := 16) hx hb dX2_look_65 (by decide) ?_
  refine lv_aload_n hx hb dX2_look_67 rfl (lv_at hl 0 rfl) ?_
  refine g_get hx hb hts hown hG inX2 0 rfl rfl 6 (by decide) q398 (v := .ref (hs 6)) rfl dX2_look_68 ?_
  refine lv_iload_n hx hb dX2_look_71 rfl (lv_at hl 3 rfl) ?_
  refine g_aldN (f := S 6) hx hb hG 4 rfl (by decide) (f) (rfl) (hf) dX2_look_72 ?_
  refine g_top (y := nI ty) (hty) ?_
  refine lv_imul hx hb dX2_look_73 ?_
  refine lv_aload_n hx hb dX2_look_74 rfl (lv_at hl 0 rfl) ?_
  refine g_get hx hb hts hown hG inX2 0 rfl rfl 5 (by decide) q397 (v := .ref (hs 5)) rfl dX2_look_75 ?_
  refine lv_iload_n hx hb dX2_look_78 rfl (lv_at hl 3 rfl) ?_
  refine g_aldN (f := S 5) hx hb hG 3 rfl (by decide) (f) (rfl) (hf) dX2_look_79 ?_
  refine g_top (y := nI tx) (htx) ?_
  refine lv_iadd hx hb dX2_look_80 ?_
  refine g_aldN (f := S 3) hx hb hG 2 rfl (by decide) (16 * ty + tx) (idx_nI tx ty) (by omega) dX2_look_81 ?_
  refine g_put hx hb hts hown hG inX2 tyX2 tyX2_ok nmX2 0 rfl rfl 13 (by decide) q405 rfl (by decide +kernel) (Nat.le_of_ble_eq_true rfl) (sm S (lm (nI a) (nI b) ((nI tx) - (nI a)) ((nI ty) - (nI b)) (if S 2 (16 * b + a) = 3 then 11 else 16) (S 3 (16 * ty + tx)) (F 6) (F 7) (F 8))) rfl dX2_look_82 (fun H locs hG => ?_)
  refine lv_aload_n hx hb dX2_look_85 rfl (lv_at hl 0 rfl) ?_
  refine lv_iconst (v := 2) hx hb dX2_look_86 (by decide) ?_
  refine lv_aload_n hx hb dX2_look_87 rfl (lv_at hl 0 rfl) ?_
  refine g_get hx hb hts hown hG inX2 0 rfl rfl 10 (by decide) q402 (v := .int ((nI tx) - (nI a))) rfl dX2_look_88 ?_
  refine g_stat (As := [.int ((nI tx) - (nI a))]) (rest := [.int 2, .ref (hs 0)]) ⟨hx, hb, hml, hown, hts⟩ (kX2_size ((nI tx) - (nI a))) wyX2_size q541 hG ⟨by decide, by decide⟩ rfl rfl hl.1 (Nat.le_of_ble_eq_true rfl) ⟨Nat.le_refl 0, Nat.le_refl 0⟩ dX2_look_91 (fun H locs hG => ?_)
  refine g_stat (As := [.int (fX2_size ((nI tx) - (nI a)))]) (rest := [.int 2, .ref (hs 0)]) ⟨hx, hb, hml, hown, hts⟩ (kX2_atLeastOne (fX2_size ((nI tx) - (nI a)))) wyX2_atLeastOne q544 hG ⟨by decide, by decide⟩ rfl rfl hl.1 (Nat.le_of_ble_eq_true rfl) ⟨Nat.le_refl 0, Nat.le_refl 0⟩ dX2_look_94 (fun H locs hG => ?_)
  refine lv_imul hx hb dX2_look_97 ?_
  refine lv_aload_n hx hb dX2_look_98 rfl (lv_at hl 0 rfl) ?_
  refine g_get hx hb hts hown hG inX2 0 rfl rfl 11 (by decide) q403 (v := .int ((nI ty) - (nI b))) rfl dX2_look_99 ?_
  refine g_stat (As := [.int ((nI ty) - (nI b))]) (rest := [.int (2 * (fX2_atLeastOne (fX2_size ((nI tx) - (nI a))))), .ref (hs 0)]) ⟨hx, hb, hml, hown, hts⟩ (kX2_size ((nI ty) - (nI b))) wyX2_size q541 hG ⟨by decide, by decide⟩ rfl rfl hl.1 (Nat.le_of_ble_eq_true rfl) ⟨Nat.le_refl 0, Nat.le_refl 0⟩ dX2_look_102 (fun H locs hG => ?_)
  refine g_stat (As := [.int (fX2_size ((nI ty) - (nI b)))]) (rest := [.int (2 * (fX2_atLeastOne (fX2_size ((nI tx) - (nI a))))), .ref (hs 0)]) ⟨hx, hb, hml, hown, hts⟩ (kX2_atLeastOne (fX2_size ((nI ty) - (nI b)))) wyX2_atLeastOne q544 hG ⟨by decide, by decide⟩ rfl rfl hl.1 (Nat.le_of_ble_eq_true rfl) ⟨Nat.le_refl 0, Nat.le_refl 0⟩ dX2_look_105 (fun H locs hG => ?_)
  refine lv_imul hx hb dX2_look_108 ?_
  refine g_put hx hb hts hown hG inX2 tyX2 tyX2_ok nmX2 0 rfl rfl 14 (by decide) q406 rfl (by decide +kernel) (Nat.le_of_ble_eq_true rfl) (sm S (lm (nI a) (nI b) ((nI tx) - (nI a)) ((nI ty) - (nI b)) (if S 2 (16 * b + a) = 3 then 11 else 16) (S 3 (16 * ty + tx)) ((2 * (fX2_atLeastOne (fX2_size ((nI tx) - (nI a))))) * (fX2_atLeastOne (fX2_size ((nI ty) - (nI b))))) (F 7) (F 8))) rfl dX2_look_109 (fun H locs hG => ?_)
  exact g_vret hx hb hr hlk hG (rfl) dX2_look_112
def gX2_narrow (S : GS) (F : Nat → Int32) (off : Int32) (along : Int32) : Nat → Int32 := if along = 0 then lm (F 0) (F 1) (F 2) (F 3) (F 4) (F 5) (F 6) (F 7) (if off = 0 then F 8 else (-1)) else lm (F 0) (F 1) (F 2) (F 3) (F 4) (F 5) (F 6) (if ((2 * (if along ≤ 0 then -off else off)) - 1) * (((F 6) / 2) / (fX2_size along)) ≤ F 7 then F 7 else ((2 * (if along ≤ 0 then -off else off)) - 1) * (((F 6) / 2) / (fX2_size along))) (if F 8 ≤ ((2 * (if along ≤ 0 then -off else off)) + 1) * (((F 6) / 2) / (fX2_size along)) then F 8 else ((2 * (if along ≤ 0 then -off else off)) + 1) * (((F 6) / 2) / (fX2_size along)))
set_option maxHeartbeats 4000000 in
set_option maxRecDepth 100000 in
theorem kX2_narrow {l : Launch} {D : va_G} {cy : ClassId} {hs : Nat → Nat} {X : va_W} (S : GS) (F : Nat → Int32) (off : Int32) (along : Int32) : Ct l D cy (wM cy hs X) yX2_narrow cX2_narrow 7 none 1 20 (sm S F) [.ref (hs 0), .int off, .int along] (QV D (wM cy hs X) (exV (sm S (gX2_narrow S F off along)))) := by
  refine Ct.of wM_adr (plainFor_of_name (by decide)) (Nat.le_of_ble_eq_true rfl) ?_
  intro p e s m below meth c ls C hl hG
  obtain ⟨hx, hb, hml, hown, hts, hr, hlk⟩ := C
  have hl : lv_has ls 7 [(0, .ref (hs 0)), (1, .int off), (2, .int along)] := hl
  refine lv_iload_n hx hb dX2_narrow_0 rfl (lv_at hl 2 rfl) ?_
  refine lv_if_ne (tgt := 21) hx hb dX2_narrow_1 (by decide) (fun c1 => ?_) (fun c1 => ?_)
  · refine lv_aload_n hx hb dX2_narrow_21 rfl (lv_at hl 0 rfl) ?_
    refine g_get hx hb hts hown hG inX2 0 rfl rfl 14 (by decide) q406 (v := .int (F 6)) rfl dX2_narrow_22 ?_
    refine lv_iconst (v := 2) hx hb dX2_narrow_25 (by decide) ?_
    refine lv_idiv hx hb dX2_narrow_26 (by decide) ?_
    refine lv_iload_n hx hb dX2_narrow_27 rfl (lv_at hl 2 rfl) ?_
    refine g_stat (As := [.int along]) (rest := [.int ((F 6) / 2)]) ⟨hx, hb, hml, hown, hts⟩ (kX2_size along) wyX2_size q541 hG ⟨by decide, by decide⟩ rfl rfl hl.1 (Nat.le_of_ble_eq_true rfl) ⟨Nat.le_refl 0, Nat.le_refl 0⟩ dX2_narrow_28 (fun H locs hG => ?_)
    refine lv_idiv hx hb dX2_narrow_31 (size_ne c1) ?_
    refine lv_istore_n (lv' := [(3, .int (((F 6) / 2) / (fX2_size along))), (0, .ref (hs 0)), (1, .int off), (2, .int along)]) hx hb dX2_narrow_32 rfl hl (by decide) rfl (fun ls hl => ?_)
    refine lv_iload_n hx hb dX2_narrow_33 rfl (lv_at hl 3 rfl) ?_
    refine g_dia (P := along ≤ 0) (J := 43) (A9 := -off) (B9 := off) (ls9 := ls) (rest9 := []) (fun ka2 kb3 => ?_) ?_
    · refine lv_if_le (tgt := 41) hx hb dX2_narrow_34 (by decide) (fun c1 => ?_) (fun c1 => ?_)
      · refine lv_iload_n hx hb dX2_narrow_41 rfl (lv_at hl 2 rfl) ?_
        refine lv_ineg hx hb dX2_narrow_42 ?_
        exact ka2 c1
      · refine lv_iload_n hx hb dX2_narrow_37 rfl (lv_at hl 2 rfl) ?_
        refine lv_goto (tgt := 43) hx hb dX2_narrow_38 (by decide) ?_
        exact kb3 c1
    refine lv_istore (lv' := [(4, .int (if along ≤ 0 then -off else off)), (3, .int (((F 6) / 2) / (fX2_size along))), (0, .ref (hs 0)), (1, .int off), (2, .int along)]) hx hb dX2_narrow_43 hl (by decide) rfl (fun ls hl => ?_)
    refine lv_iconst (v := 2) hx hb dX2_narrow_45 (by decide) ?_
    refine lv_iload hx hb dX2_narrow_46 (lv_at hl 0 rfl) ?_
    refine lv_imul hx hb dX2_narrow_48 ?_
    refine lv_iconst (v := 1) hx hb dX2_narrow_49 (by decide) ?_
    refine lv_isub hx hb dX2_narrow_50 ?_
    refine lv_iload_n hx hb dX2_narrow_51 rfl (lv_at hl 1 rfl) ?_
    refine lv_imul hx hb dX2_narrow_52 ?_
    refine lv_istore (lv' := [(5, .int (((2 * (if along ≤ 0 then -off else off)) - 1) * (((F 6) / 2) / (fX2_size along)))), (4, .int (if along ≤ 0 then -off else off)), (3, .int (((F 6) / 2) / (fX2_size along))), (0, .ref (hs 0)), (1, .int off), (2, .int along)]) hx hb dX2_narrow_53 hl (by decide) rfl (fun ls hl => ?_)
    refine lv_iconst (v := 2) hx hb dX2_narrow_55 (by decide) ?_
    refine lv_iload hx hb dX2_narrow_56 (lv_at hl 1 rfl) ?_
    refine lv_imul hx hb dX2_narrow_58 ?_
    refine lv_iconst (v := 1) hx hb dX2_narrow_59 (by decide) ?_
    refine lv_iadd hx hb dX2_narrow_60 ?_
    refine lv_iload_n hx hb dX2_narrow_61 rfl (lv_at hl 2 rfl) ?_
    refine lv_imul hx hb dX2_narrow_62 ?_
    refine lv_istore (lv' := [(6, .int (((2 * (if along ≤ 0 then -off else off)) + 1) * (((F 6) / 2) / (fX2_size along)))), (5, .int (((2 * (if along ≤ 0 then -off else off)) - 1) * (((F 6) / 2) / (fX2_size along)))), (4, .int (if along ≤ 0 then -off else off)), (3, .int (((F 6) / 2) / (fX2_size along))), (0, .ref (hs 0)), (1, .int off), (2, .int along)]) hx hb dX2_narrow_63 hl (by decide) rfl (fun ls hl => ?_)
    refine lv_aload_n hx hb dX2_narrow_65 rfl (lv_at hl 4 rfl) ?_
    refine lv_iload hx hb dX2_narrow_66 (lv_at hl 1 rfl) ?_
    refine lv_aload_n hx hb dX2_narrow_68 rfl (lv_at hl 4 rfl) ?_
    refine g_get hx hb hts hown hG inX2 0 rfl rfl 15 (by decide) q407 (v := .int (F 7)) rfl dX2_narrow_69 ?_
    refine g_dia (P := ((2 * (if along ≤ 0 then -off else off)) - 1) * (((F 6) / 2) / (fX2_size along)) ≤ F 7) (J := 84) (A9 := F 7) (B9 := ((2 * (if along ≤ 0 then -off else off)) - 1) * (((F 6) / 2) / (fX2_size along))) (ls9 := ls) (rest9 := [.ref (hs 0)]) (fun ka5 kb6 => ?_) ?_
    · refine lv_icmp_le (tgt := 80) hx hb dX2_narrow_72 (by decide) (fun c4 => ?_) (fun c4 => ?_)
      · refine lv_aload_n hx hb dX2_narrow_80 rfl (lv_at hl 4 rfl) ?_
        refine g_get hx hb hts hown hG inX2 0 rfl rfl 15 (by decide) q407 (v := .int (F 7)) rfl dX2_narrow_81 ?_
        exact ka5 c4
      · refine lv_iload hx hb dX2_narrow_75 (lv_at hl 1 rfl) ?_
        refine lv_goto (tgt := 84) hx hb dX2_narrow_77 (by decide) ?_
        exact kb6 c4
    refine g_put hx hb hts hown hG inX2 tyX2 tyX2_ok nmX2 0 rfl rfl 15 (by decide) q407 rfl (by decide +kernel) (Nat.le_of_ble_eq_true rfl) (sm S (lm (F 0) (F 1) (F 2) (F 3) (F 4) (F 5) (F 6) (if ((2 * (if along ≤ 0 then -off else off)) - 1) * (((F 6) / 2) / (fX2_size along)) ≤ F 7 then F 7 else ((2 * (if along ≤ 0 then -off else off)) - 1) * (((F 6) / 2) / (fX2_size along))) (F 8))) rfl dX2_narrow_84 (fun H locs hG => ?_)
    refine lv_aload_n hx hb dX2_narrow_87 rfl (lv_at hl 4 rfl) ?_
    refine lv_iload hx hb dX2_narrow_88 (lv_at hl 0 rfl) ?_
    refine lv_aload_n hx hb dX2_narrow_90 rfl (lv_at hl 4 rfl) ?_
    refine g_get hx hb hts hown hG inX2 0 rfl rfl 16 (by decide) q408 (v := .int (F 8)) rfl dX2_narrow_91 ?_
    refine g_dia (P := F 8 ≤ ((2 * (if along ≤ 0 then -off else off)) + 1) * (((F 6) / 2) / (fX2_size along))) (J := 106) (A9 := F 8) (B9 := ((2 * (if along ≤ 0 then -off else off)) + 1) * (((F 6) / 2) / (fX2_size along))) (ls9 := ls) (rest9 := [.ref (hs 0)]) (fun ka8 kb9 => ?_) ?_
    · refine lv_icmp_ge (tgt := 102) hx hb dX2_narrow_94 (by decide) (fun c7 => ?_) (fun c7 => ?_)
      · refine lv_aload_n hx hb dX2_narrow_102 rfl (lv_at hl 4 rfl) ?_
        refine g_get hx hb hts hown hG inX2 0 rfl rfl 16 (by decide) q408 (v := .int (F 8)) rfl dX2_narrow_103 ?_
        exact ka8 c7
      · refine lv_iload hx hb dX2_narrow_97 (lv_at hl 0 rfl) ?_
        refine lv_goto (tgt := 106) hx hb dX2_narrow_99 (by decide) ?_
        exact kb9 c7
    refine g_put hx hb hts hown hG inX2 tyX2 tyX2_ok nmX2 0 rfl rfl 16 (by decide) q408 rfl (by decide +kernel) (Nat.le_of_ble_eq_true rfl) (sm S (lm (F 0) (F 1) (F 2) (F 3) (F 4) (F 5) (F 6) (if ((2 * (if along ≤ 0 then -off else off)) - 1) * (((F 6) / 2) / (fX2_size along)) ≤ F 7 then F 7 else ((2 * (if along ≤ 0 then -off else off)) - 1) * (((F 6) / 2) / (fX2_size along))) (if F 8 ≤ ((2 * (if along ≤ 0 then -off else off)) + 1) * (((F 6) / 2) / (fX2_size along)) then F 8 else ((2 * (if along ≤ 0 then -off else off)) + 1) * (((F 6) / 2) / (fX2_size along))))) rfl dX2_narrow_106 (fun H locs hG => ?_)
    exact g_vret hx hb hr hlk hG (by unfold gX2_narrow; rw [if_neg c1]) dX2_narrow_109
  · refine lv_aload_n hx hb dX2_narrow_4 rfl (lv_at hl 0 rfl) ?_
    refine lv_iload_n hx hb dX2_narrow_5 rfl (lv_at hl 1 rfl) ?_
    refine g_dia (P := off = 0) (J := 17) (A9 := F 8) (B9 := (-1)) (ls9 := ls) (rest9 := [.ref (hs 0)]) (fun ka11 kb12 => ?_) ?_
    · refine lv_if_ne (tgt := 16) hx hb dX2_narrow_6 (by decide) (fun c10 => ?_) (fun c10 => ?_)
      · refine lv_iconst (v := (-1)) hx hb dX2_narrow_16 (by decide) ?_
        exact kb12 c10
      · refine lv_aload_n hx hb dX2_narrow_9 rfl (lv_at hl 0 rfl) ?_
        refine g_get hx hb hts hown hG inX2 0 rfl rfl 16 (by decide) q408 (v := .int (F 8)) rfl dX2_narrow_10 ?_
        refine lv_goto (tgt := 17) hx hb dX2_narrow_13 (by decide) ?_
        exact ka11 c10
    refine g_put hx hb hts hown hG inX2 tyX2 tyX2_ok nmX2 0 rfl rfl 16 (by decide) q408 rfl (by decide +kernel) (Nat.le_of_ble_eq_true rfl) (sm S (lm (F 0) (F 1) (F 2) (F 3) (F 4) (F 5) (F 6) (F 7) (if off = 0 then F 8 else (-1)))) rfl dX2_narrow_17 (fun H locs hG => ?_)
    exact g_vret hx hb hr hlk hG (by unfold gX2_narrow; rw [if_pos c1]) dX2_narrow_20
def fX2_clearance (S : GS) (F : Nat → Int32) (x : Int32) (y : Int32) : Int32 := if (gX2_narrow S (gX2_narrow S (lm (F 0) (F 1) (F 2) (F 3) (F 4) (F 5) (F 6) 0 (F 6)) (x - (F 0)) (F 2)) (y - ((gX2_narrow S (lm (F 0) (F 1) (F 2) (F 3) (F 4) (F 5) (F 6) 0 (F 6)) (x - (F 0)) (F 2)) 1)) ((gX2_narrow S (lm (F 0) (F 1) (F 2) (F 3) (F 4) (F 5) (F 6) 0 (F 6)) (x - (F 0)) (F 2)) 3)) 7 < (gX2_narrow S (gX2_narrow S (lm (F 0) (F 1) (F 2) (F 3) (F 4) (F 5) (F 6) 0 (F 6)) (x - (F 0)) (F 2)) (y - ((gX2_narrow S (lm (F 0) (F 1) (F 2) (F 3) (F 4) (F 5) (F 6) 0 (F 6)) (x - (F 0)) (F 2)) 1)) ((gX2_narrow S (lm (F 0) (F 1) (F 2) (F 3) (F 4) (F 5) (F 6) 0 (F 6)) (x - (F 0)) (F 2)) 3)) 8 then (if (((gX2_narrow S (gX2_narrow S (lm (F 0) (F 1) (F 2) (F 3) (F 4) (F 5) (F 6) 0 (F 6)) (x - (F 0)) (F 2)) (y - ((gX2_narrow S (lm (F 0) (F 1) (F 2) (F 3) (F 4) (F 5) (F 6) 0 (F 6)) (x - (F 0)) (F 2)) 1)) ((gX2_narrow S (lm (F 0) (F 1) (F 2) (F 3) (F 4) (F 5) (F 6) 0 (F 6)) (x - (F 0)) (F 2)) 3)) 4) * ((gX2_narrow S (gX2_narrow S (lm (F 0) (F 1) (F 2) (F 3) (F 4) (F 5) (F 6) 0 (F 6)) (x - (F 0)) (F 2)) (y - ((gX2_narrow S (lm (F 0) (F 1) (F 2) (F 3) (F 4) (F 5) (F 6) 0 (F 6)) (x - (F 0)) (F 2)) 1)) ((gX2_narrow S (lm (F 0) (F 1) (F 2) (F 3) (F 4) (F 5) (F 6) 0 (F 6)) (x - (F 0)) (F 2)) 3)) 6)) + (((gX2_narrow S (gX2_narrow S (lm (F 0) (F 1) (F 2) (F 3) (F 4) (F 5) (F 6) 0 (F 6)) (x - (F 0)) (F 2)) (y - ((gX2_narrow S (lm (F 0) (F 1) (F 2) (F 3) (F 4) (F 5) (F 6) 0 (F 6)) (x - (F 0)) (F 2)) 1)) ((gX2_narrow S (lm (F 0) (F 1) (F 2) (F 3) (F 4) (F 5) (F 6) 0 (F 6)) (x - (F 0)) (F 2)) 3)) 8) * (((gX2_narrow S (gX2_narrow S (lm (F 0) (F 1) (F 2) (F 3) (F 4) (F 5) (F 6) 0 (F 6)) (x - (F 0)) (F 2)) (y - ((gX2_narrow S (lm (F 0) (F 1) (F 2) (F 3) (F 4) (F 5) (F 6) 0 (F 6)) (x - (F 0)) (F 2)) 1)) ((gX2_narrow S (lm (F 0) (F 1) (F 2) (F 3) (F 4) (F 5) (F 6) 0 (F 6)) (x - (F 0)) (F 2)) 3)) 5) - ((gX2_narrow S (gX2_narrow S (lm (F 0) (F 1) (F 2) (F 3) (F 4) (F 5) (F 6) 0 (F 6)) (x - (F 0)) (F 2)) (y - ((gX2_narrow S (lm (F 0) (F 1) (F 2) (F 3) (F 4) (F 5) (F 6) 0 (F 6)) (x - (F 0)) (F 2)) 1)) ((gX2_narrow S (lm (F 0) (F 1) (F 2) (F 3) (F 4) (F 5) (F 6) 0 (F 6)) (x - (F 0)) (F 2)) 3)) 4))) ≤ (((gX2_narrow S (gX2_narrow S (lm (F 0) (F 1) (F 2) (F 3) (F 4) (F 5) (F 6) 0 (F 6)) (x - (F 0)) (F 2)) (y - ((gX2_narrow S (lm (F 0) (F 1) (F 2) (F 3) (F 4) (F 5) (F 6) 0 (F 6)) (x - (F 0)) (F 2)) 1)) ((gX2_narrow S (lm (F 0) (F 1) (F 2) (F 3) (F 4) (F 5) (F 6) 0 (F 6)) (x - (F 0)) (F 2)) 3)) 4) * ((gX2_narrow S (gX2_narrow S (lm (F 0) (F 1) (F 2) (F 3) (F 4) (F 5) (F 6) 0 (F 6)) (x - (F 0)) (F 2)) (y - ((gX2_narrow S (lm (F 0) (F 1) (F 2) (F 3) (F 4) (F 5) (F 6) 0 (F 6)) (x - (F 0)) (F 2)) 1)) ((gX2_narrow S (lm (F 0) (F 1) (F 2) (F 3) (F 4) (F 5) (F 6) 0 (F 6)) (x - (F 0)) (F 2)) 3)) 6)) + (((gX2_narrow S (gX2_narrow S (lm (F 0) (F 1) (F 2) (F 3) (F 4) (F 5) (F 6) 0 (F 6)) (x - (F 0)) (F 2)) (y - ((gX2_narrow S (lm (F 0) (F 1) (F 2) (F 3) (F 4) (F 5) (F 6) 0 (F 6)) (x - (F 0)) (F 2)) 1)) ((gX2_narrow S (lm (F 0) (F 1) (F 2) (F 3) (F 4) (F 5) (F 6) 0 (F 6)) (x - (F 0)) (F 2)) 3)) 7) * (((gX2_narrow S (gX2_narrow S (lm (F 0) (F 1) (F 2) (F 3) (F 4) (F 5) (F 6) 0 (F 6)) (x - (F 0)) (F 2)) (y - ((gX2_narrow S (lm (F 0) (F 1) (F 2) (F 3) (F 4) (F 5) (F 6) 0 (F 6)) (x - (F 0)) (F 2)) 1)) ((gX2_narrow S (lm (F 0) (F 1) (F 2) (F 3) (F 4) (F 5) (F 6) 0 (F 6)) (x - (F 0)) (F 2)) 3)) 5) - ((gX2_narrow S (gX2_narrow S (lm (F 0) (F 1) (F 2) (F 3) (F 4) (F 5) (F 6) 0 (F 6)) (x - (F 0)) (F 2)) (y - ((gX2_narrow S (lm (F 0) (F 1) (F 2) (F 3) (F 4) (F 5) (F 6) 0 (F 6)) (x - (F 0)) (F 2)) 1)) ((gX2_narrow S (lm (F 0) (F 1) (F 2) (F 3) (F 4) (F 5) (F 6) 0 (F 6)) (x - (F 0)) (F 2)) 3)) 4))) then (((gX2_narrow S (gX2_narrow S (lm (F 0) (F 1) (F 2) (F 3) (F 4) (F 5) (F 6) 0 (F 6)) (x - (F 0)) (F 2)) (y - ((gX2_narrow S (lm (F 0) (F 1) (F 2) (F 3) (F 4) (F 5) (F 6) 0 (F 6)) (x - (F 0)) (F 2)) 1)) ((gX2_narrow S (lm (F 0) (F 1) (F 2) (F 3) (F 4) (F 5) (F 6) 0 (F 6)) (x - (F 0)) (F 2)) 3)) 4) * ((gX2_narrow S (gX2_narrow S (lm (F 0) (F 1) (F 2) (F 3) (F 4) (F 5) (F 6) 0 (F 6)) (x - (F 0)) (F 2)) (y - ((gX2_narrow S (lm (F 0) (F 1) (F 2) (F 3) (F 4) (F 5) (F 6) 0 (F 6)) (x - (F 0)) (F 2)) 1)) ((gX2_narrow S (lm (F 0) (F 1) (F 2) (F 3) (F 4) (F 5) (F 6) 0 (F 6)) (x - (F 0)) (F 2)) 3)) 6)) + (((gX2_narrow S (gX2_narrow S (lm (F 0) (F 1) (F 2) (F 3) (F 4) (F 5) (F 6) 0 (F 6)) (x - (F 0)) (F 2)) (y - ((gX2_narrow S (lm (F 0) (F 1) (F 2) (F 3) (F 4) (F 5) (F 6) 0 (F 6)) (x - (F 0)) (F 2)) 1)) ((gX2_narrow S (lm (F 0) (F 1) (F 2) (F 3) (F 4) (F 5) (F 6) 0 (F 6)) (x - (F 0)) (F 2)) 3)) 8) * (((gX2_narrow S (gX2_narrow S (lm (F 0) (F 1) (F 2) (F 3) (F 4) (F 5) (F 6) 0 (F 6)) (x - (F 0)) (F 2)) (y - ((gX2_narrow S (lm (F 0) (F 1) (F 2) (F 3) (F 4) (F 5) (F 6) 0 (F 6)) (x - (F 0)) (F 2)) 1)) ((gX2_narrow S (lm (F 0) (F 1) (F 2) (F 3) (F 4) (F 5) (F 6) 0 (F 6)) (x - (F 0)) (F 2)) 3)) 5) - ((gX2_narrow S (gX2_narrow S (lm (F 0) (F 1) (F 2) (F 3) (F 4) (F 5) (F 6) 0 (F 6)) (x - (F 0)) (F 2)) (y - ((gX2_narrow S (lm (F 0) (F 1) (F 2) (F 3) (F 4) (F 5) (F 6) 0 (F 6)) (x - (F 0)) (F 2)) 1)) ((gX2_narrow S (lm (F 0) (F 1) (F 2) (F 3) (F 4) (F 5) (F 6) 0 (F 6)) (x - (F 0)) (F 2)) 3)) 4))) else (((gX2_narrow S (gX2_narrow S (lm (F 0) (F 1) (F 2) (F 3) (F 4) (F 5) (F 6) 0 (F 6)) (x - (F 0)) (F 2)) (y - ((gX2_narrow S (lm (F 0) (F 1) (F 2) (F 3) (F 4) (F 5) (F 6) 0 (F 6)) (x - (F 0)) (F 2)) 1)) ((gX2_narrow S (lm (F 0) (F 1) (F 2) (F 3) (F 4) (F 5) (F 6) 0 (F 6)) (x - (F 0)) (F 2)) 3)) 4) * ((gX2_narrow S (gX2_narrow S (lm (F 0) (F 1) (F 2) (F 3) (F 4) (F 5) (F 6) 0 (F 6)) (x - (F 0)) (F 2)) (y - ((gX2_narrow S (lm (F 0) (F 1) (F 2) (F 3) (F 4) (F 5) (F 6) 0 (F 6)) (x - (F 0)) (F 2)) 1)) ((gX2_narrow S (lm (F 0) (F 1) (F 2) (F 3) (F 4) (F 5) (F 6) 0 (F 6)) (x - (F 0)) (F 2)) 3)) 6)) + (((gX2_narrow S (gX2_narrow S (lm (F 0) (F 1) (F 2) (F 3) (F 4) (F 5) (F 6) 0 (F 6)) (x - (F 0)) (F 2)) (y - ((gX2_narrow S (lm (F 0) (F 1) (F 2) (F 3) (F 4) (F 5) (F 6) 0 (F 6)) (x - (F 0)) (F 2)) 1)) ((gX2_narrow S (lm (F 0) (F 1) (F 2) (F 3) (F 4) (F 5) (F 6) 0 (F 6)) (x - (F 0)) (F 2)) 3)) 7) * (((gX2_narrow S (gX2_narrow S (lm (F 0) (F 1) (F 2) (F 3) (F 4) (F 5) (F 6) 0 (F 6)) (x - (F 0)) (F 2)) (y - ((gX2_narrow S (lm (F 0) (F 1) (F 2) (F 3) (F 4) (F 5) (F 6) 0 (F 6)) (x - (F 0)) (F 2)) 1)) ((gX2_narrow S (lm (F 0) (F 1) (F 2) (F 3) (F 4) (F 5) (F 6) 0 (F 6)) (x - (F 0)) (F 2)) 3)) 5) - ((gX2_narrow S (gX2_narrow S (lm (F 0) (F 1) (F 2) (F 3) (F 4) (F 5) (F 6) 0 (F 6)) (x - (F 0)) (F 2)) (y - ((gX2_narrow S (lm (F 0) (F 1) (F 2) (F 3) (F 4) (F 5) (F 6) 0 (F 6)) (x - (F 0)) (F 2)) 1)) ((gX2_narrow S (lm (F 0) (F 1) (F 2) (F 3) (F 4) (F 5) (F 6) 0 (F 6)) (x - (F 0)) (F 2)) 3)) 4)))) else (-1)
def gX2_clearance (S : GS) (F : Nat → Int32) (x : Int32) (y : Int32) : Nat → Int32 := if (gX2_narrow S (gX2_narrow S (lm (F 0) (F 1) (F 2) (F 3) (F 4) (F 5) (F 6) 0 (F 6)) (x - (F 0)) (F 2)) (y - ((gX2_narrow S (lm (F 0) (F 1) (F 2) (F 3) (F 4) (F 5) (F 6) 0 (F 6)) (x - (F 0)) (F 2)) 1)) ((gX2_narrow S (lm (F 0) (F 1) (F 2) (F 3) (F 4) (F 5) (F 6) 0 (F 6)) (x - (F 0)) (F 2)) 3)) 7 < (gX2_narrow S (gX2_narrow S (lm (F 0) (F 1) (F 2) (F 3) (F 4) (F 5) (F 6) 0 (F 6)) (x - (F 0)) (F 2)) (y - ((gX2_narrow S (lm (F 0) (F 1) (F 2) (F 3) (F 4) (F 5) (F 6) 0 (F 6)) (x - (F 0)) (F 2)) 1)) ((gX2_narrow S (lm (F 0) (F 1) (F 2) (F 3) (F 4) (F 5) (F 6) 0 (F 6)) (x - (F 0)) (F 2)) 3)) 8 then gX2_narrow S (gX2_narrow S (lm (F 0) (F 1) (F 2) (F 3) (F 4) (F 5) (F 6) 0 (F 6)) (x - (F 0)) (F 2)) (y - ((gX2_narrow S (lm (F 0) (F 1) (F 2) (F 3) (F 4) (F 5) (F 6) 0 (F 6)) (x - (F 0)) (F 2)) 1)) ((gX2_narrow S (lm (F 0) (F 1) (F 2) (F 3) (F 4) (F 5) (F 6) 0 (F 6)) (x - (F 0)) (F 2)) 3) else gX2_narrow S (gX2_narrow S (lm (F 0) (F 1) (F 2) (F 3) (F 4) (F 5) (F 6) 0 (F 6)) (x - (F 0)) (F 2)) (y - ((gX2_narrow S (lm (F 0) (F 1) (F 2) (F 3) (F 4) (F 5) (F 6) 0 (F 6)) (x - (F 0)) (F 2)) 1)) ((gX2_narrow S (lm (F 0) (F 1) (F 2) (F 3) (F 4) (F 5) (F 6) 0 (F 6)) (x - (F 0)) (F 2)) 3)
set_option maxHeartbeats 4000000 in
set_option maxRecDepth 100000 in
theorem kX2_clearance {l : Launch} {D : va_G} {cy : ClassId} {hs : Nat → Nat} {X : va_W} (S : GS) (F : Nat → Int32) (x : Int32) (y : Int32) : Ct l D cy (wM cy hs X) yX2_clearance cX2_clearance 5 (some .int) 2 46 (sm S F) [.ref (hs 0), .int x, .int y] (QI D (wM cy hs X) (exI (fX2_clearance S F x y) (sm S (gX2_clearance S F x y)))) := by
  refine Ct.of wM_adr (plainFor_of_name (by decide)) (Nat.le_of_ble_eq_true rfl) ?_
  intro p e s m below meth c ls C hl hG
  obtain ⟨hx, hb, hml, hown, hts, hr, hlk⟩ := C
  have hl : lv_has ls 5 [(0, .ref (hs 0)), (1, .int x), (2, .int y)] := hl
  refine lv_aload_n hx hb dX2_clearance_0 rfl (lv_at hl 0 rfl) ?_
  refine lv_iconst (v := 0) hx hb dX2_clearance_1 (by decide) ?_
  refine g_put hx hb hts hown hG inX2 tyX2 tyX2_ok nmX2 0 rfl rfl 15 (by decide) q407 rfl (by decide +kernel) (Nat.le_of_ble_eq_true rfl) (sm S (lm (F 0) (F 1) (F 2) (F 3) (F 4) (F 5) (F 6) 0 (F 8))) rfl dX2_clearance_2 (fun H locs hG => ?_)
  refine lv_aload_n hx hb dX2_clearance_5 rfl (lv_at hl 0 rfl) ?_
  refine lv_aload_n hx hb dX2_clearance_6 rfl (lv_at hl 0 rfl) ?_
  refine g_get hx hb hts hown hG inX2 0 rfl rfl 14 (by decide) q406 (v := .int (F 6)) rfl dX2_clearance_7 ?_
  refine g_put hx hb hts hown hG inX2 tyX2 tyX2_ok nmX2 0 rfl rfl 16 (by decide) q408 rfl (by decide +kernel) (Nat.le_of_ble_eq_true rfl) (sm S (lm (F 0) (F 1) (F 2) (F 3) (F 4) (F 5) (F 6) 0 (F 6))) rfl dX2_clearance_10 (fun H locs hG => ?_)
  refine lv_aload_n hx hb dX2_clearance_13 rfl (lv_at hl 0 rfl) ?_
  refine lv_iload_n hx hb dX2_clearance_14 rfl (lv_at hl 1 rfl) ?_
  refine lv_aload_n hx hb dX2_clearance_15 rfl (lv_at hl 0 rfl) ?_
  refine g_get hx hb hts hown hG inX2 0 rfl rfl 8 (by decide) q400 (v := .int (F 0)) rfl dX2_clearance_16 ?_
  refine lv_isub hx hb dX2_clearance_19 ?_
  refine lv_aload_n hx hb dX2_clearance_20 rfl (lv_at hl 0 rfl) ?_
  refine g_get hx hb hts hown hG inX2 0 rfl rfl 10 (by decide) q402 (v := .int (F 2)) rfl dX2_clearance_21 ?_
  refine g_callvE wM_adr hG (g_runV (As := [.int (x - (F 0)), .int (F 2)]) (rest := []) ⟨hx, hb, hml, hown, hts⟩ wM_adr (kX2_narrow S (lm (F 0) (F 1) (F 2) (F 3) (F 4) (F 5) (F 6) 0 (F 6)) (x - (F 0)) (F 2)) wyX2_narrow q559 hG 0 rfl rfl ⟨by decide, by decide⟩ rfl rfl hl.1 (Nat.le_of_ble_eq_true rfl) ⟨Nat.le_refl 0, Nat.le_refl 0⟩ dX2_clearance_24) (fun H locs hG => ?_)
  refine lv_aload_n hx hb dX2_clearance_27 rfl (lv_at hl 0 rfl) ?_
  refine lv_iload_n hx hb dX2_clearance_28 rfl (lv_at hl 2 rfl) ?_
  refine lv_aload_n hx hb dX2_clearance_29 rfl (lv_at hl 0 rfl) ?_
  refine g_get hx hb hts hown hG inX2 0 rfl rfl 9 (by decide) q401 (v := .int ((gX2_narrow S (lm (F 0) (F 1) (F 2) (F 3) (F 4) (F 5) (F 6) 0 (F 6)) (x - (F 0)) (F 2)) 1)) rfl dX2_clearance_30 ?_
  refine lv_isub hx hb dX2_clearance_33 ?_
  refine lv_aload_n hx hb dX2_clearance_34 rfl (lv_at hl 0 rfl) ?_
  refine g_get hx hb hts hown hG inX2 0 rfl rfl 11 (by decide) q403 (v := .int ((gX2_narrow S (lm (F 0) (F 1) (F 2) (F 3) (F 4) (F 5) (F 6) 0 (F 6)) (x - (F 0)) (F 2)) 3)) rfl dX2_clearance_35 ?_
  refine g_callvE wM_adr hG (g_runV (As := [.int (y - ((gX2_narrow S (lm (F 0) (F 1) (F 2) (F 3) (F 4) (F 5) (F 6) 0 (F 6)) (x - (F 0)) (F 2)) 1)), .int ((gX2_narrow S (lm (F 0) (F 1) (F 2) (F 3) (F 4) (F 5) (F 6) 0 (F 6)) (x - (F 0)) (F 2)) 3)]) (rest := []) ⟨hx, hb, hml, hown, hts⟩ wM_adr (kX2_narrow S (gX2_narrow S (lm (F 0) (F 1) (F 2) (F 3) (F 4) (F 5) (F 6) 0 (F 6)) (x - (F 0)) (F 2)) (y - ((gX2_narrow S (lm (F 0) (F 1) (F 2) (F 3) (F 4) (F 5) (F 6) 0 (F 6)) (x - (F 0)) (F 2)) 1)) ((gX2_narrow S (lm (F 0) (F 1) (F 2) (F 3) (F 4) (F 5) (F 6) 0 (F 6)) (x - (F 0)) (F 2)) 3)) wyX2_narrow q559 hG 0 rfl rfl ⟨by decide, by decide⟩ rfl rfl hl.1 (Nat.le_of_ble_eq_true rfl) ⟨Nat.le_refl 0, Nat.le_refl 0⟩ dX2_clearance_38) (fun H locs hG => ?_)
  refine lv_aload_n hx hb dX2_clearance_41 rfl (lv_at hl 0 rfl) ?_
  refine g_get hx hb hts hown hG inX2 0 rfl rfl 15 (by decide) q407 (v := .int ((gX2_narrow S (gX2_narrow S (lm (F 0) (F 1) (F 2) (F 3) (F 4) (F 5) (F 6) 0 (F 6)) (x - (F 0)) (F 2)) (y - ((gX2_narrow S (lm (F 0) (F 1) (F 2) (F 3) (F 4) (F 5) (F 6) 0 (F 6)) (x - (F 0)) (F 2)) 1)) ((gX2_narrow S (lm (F 0) (F 1) (F 2) (F 3) (F 4) (F 5) (F 6) 0 (F 6)) (x - (F 0)) (F 2)) 3)) 7)) rfl dX2_clearance_42 ?_
  refine lv_aload_n hx hb dX2_clearance_45 rfl (lv_at hl 0 rfl) ?_
  refine g_get hx hb hts hown hG inX2 0 rfl rfl 16 (by decide) q408 (v := .int ((gX2_narrow S (gX2_narrow S (lm (F 0) (F 1) (F 2) (F 3) (F 4) (F 5) (F 6) 0 (F 6)) (x - (F 0)) (F 2)) (y - ((gX2_narrow S (lm (F 0) (F 1) (F 2) (F 3) (F 4) (F 5) (F 6) 0 (F 6)) (x - (F 0)) (F 2)) 1)) ((gX2_narrow S (lm (F 0) (F 1) (F 2) (F 3) (F 4) (F 5) (F 6) 0 (F 6)) (x - (F 0)) (F 2)) 3)) 8)) rfl dX2_clearance_46 ?_
  refine lv_icmp_lt (tgt := 54) hx hb dX2_clearance_49 (by decide) (fun c1 => ?_) (fun c1 => ?_)
  · refine lv_aload_n hx hb dX2_clearance_54 rfl (lv_at hl 0 rfl) ?_
    refine g_get hx hb hts hown hG inX2 0 rfl rfl 12 (by decide) q404 (v := .int ((gX2_narrow S (gX2_narrow S (lm (F 0) (F 1) (F 2) (F 3) (F 4) (F 5) (F 6) 0 (F 6)) (x - (F 0)) (F 2)) (y - ((gX2_narrow S (lm (F 0) (F 1) (F 2) (F 3) (F 4) (F 5) (F 6) 0 (F 6)) (x - (F 0)) (F 2)) 1)) ((gX2_narrow S (lm (F 0) (F 1) (F 2) (F 3) (F 4) (F 5) (F 6) 0 (F 6)) (x - (F 0)) (F 2)) 3)) 4)) rfl dX2_clearance_55 ?_
    refine lv_aload_n hx hb dX2_clearance_58 rfl (lv_at hl 0 rfl) ?_
    refine g_get hx hb hts hown hG inX2 0 rfl rfl 14 (by decide) q406 (v := .int ((gX2_narrow S (gX2_narrow S (lm (F 0) (F 1) (F 2) (F 3) (F 4) (F 5) (F 6) 0 (F 6)) (x - (F 0)) (F 2)) (y - ((gX2_narrow S (lm (F 0) (F 1) (F 2) (F 3) (F 4) (F 5) (F 6) 0 (F 6)) (x - (F 0)) (F 2)) 1)) ((gX2_narrow S (lm (F 0) (F 1) (F 2) (F 3) (F 4) (F 5) (F 6) 0 (F 6)) (x - (F 0)) (F 2)) 3)) 6)) rfl dX2_clearance_59 ?_
    refine lv_imul hx hb dX2_clearance_62 ?_
    refine lv_aload_n hx hb dX2_clearance_63 rfl (lv_at hl 0 rfl) ?_
    refine g_get hx hb hts hown hG inX2 0 rfl rfl 15 (by decide) q407 (v := .int ((gX2_narrow S (gX2_narrow S (lm (F 0) (F 1) (F 2) (F 3) (F 4) (F 5) (F 6) 0 (F 6)) (x - (F 0)) (F 2)) (y - ((gX2_narrow S (lm (F 0) (F 1) (F 2) (F 3) (F 4) (F 5) (F 6) 0 (F 6)) (x - (F 0)) (F 2)) 1)) ((gX2_narrow S (lm (F 0) (F 1) (F 2) (F 3) (F 4) (F 5) (F 6) 0 (F 6)) (x - (F 0)) (F 2)) 3)) 7)) rfl dX2_clearance_64 ?_
    refine lv_aload_n hx hb dX2_clearance_67 rfl (lv_at hl 0 rfl) ?_
    refine g_get hx hb hts hown hG inX2 0 rfl rfl 13 (by decide) q405 (v := .int ((gX2_narrow S (gX2_narrow S (lm (F 0) (F 1) (F 2) (F 3) (F 4) (F 5) (F 6) 0 (F 6)) (x - (F 0)) (F 2)) (y - ((gX2_narrow S (lm (F 0) (F 1) (F 2) (F 3) (F 4) (F 5) (F 6) 0 (F 6)) (x - (F 0)) (F 2)) 1)) ((gX2_narrow S (lm (F 0) (F 1) (F 2) (F 3) (F 4) (F 5) (F 6) 0 (F 6)) (x - (F 0)) (F 2)) 3)) 5)) rfl dX2_clearance_68 ?_
    refine lv_aload_n hx hb dX2_clearance_71 rfl (lv_at hl 0 rfl) ?_
    refine g_get hx hb hts hown hG inX2 0 rfl rfl 12 (by decide) q404 (v := .int ((gX2_narrow S (gX2_narrow S (lm (F 0) (F 1) (F 2) (F 3) (F 4) (F 5) (F 6) 0 (F 6)) (x - (F 0)) (F 2)) (y - ((gX2_narrow S (lm (F 0) (F 1) (F 2) (F 3) (F 4) (F 5) (F 6) 0 (F 6)) (x - (F 0)) (F 2)) 1)) ((gX2_narrow S (lm (F 0) (F 1) (F 2) (F 3) (F 4) (F 5) (F 6) 0 (F 6)) (x - (F 0)) (F 2)) 3)) 4)) rfl dX2_clearance_72 ?_
    refine lv_isub hx hb dX2_clearance_75 ?_
    refine lv_imul hx hb dX2_clearance_76 ?_
    refine lv_iadd hx hb dX2_clearance_77 ?_
    refine lv_istore_n (lv' := [(3, .int ((((gX2_narrow S (gX2_narrow S (lm (F 0) (F 1) (F 2) (F 3) (F 4) (F 5) (F 6) 0 (F 6)) (x - (F 0)) (F 2)) (y - ((gX2_narrow S (lm (F 0) (F 1) (F 2) (F 3) (F 4) (F 5) (F 6) 0 (F 6)) (x - (F 0)) (F 2)) 1)) ((gX2_narrow S (lm (F 0) (F 1) (F 2) (F 3) (F 4) (F 5) (F 6) 0 (F 6)) (x - (F 0)) (F 2)) 3)) 4) * ((gX2_narrow S (gX2_narrow S (lm (F 0) (F 1) (F 2) (F 3) (F 4) (F 5) (F 6) 0 (F 6)) (x - (F 0)) (F 2)) (y - ((gX2_narrow S (lm (F 0) (F 1) (F 2) (F 3) (F 4) (F 5) (F 6) 0 (F 6)) (x - (F 0)) (F 2)) 1)) ((gX2_narrow S (lm (F 0) (F 1) (F 2) (F 3) (F 4) (F 5) (F 6) 0 (F 6)) (x - (F 0)) (F 2)) 3)) 6)) + (((gX2_narrow S (gX2_narrow S (lm (F 0) (F 1) (F 2) (F 3) (F 4) (F 5) (F 6) 0 (F 6)) (x - (F 0)) (F 2)) (y - ((gX2_narrow S (lm (F 0) (F 1) (F 2) (F 3) (F 4) (F 5) (F 6) 0 (F 6)) (x - (F 0)) (F 2)) 1)) ((gX2_narrow S (lm (F 0) (F 1) (F 2) (F 3) (F 4) (F 5) (F 6) 0 (F 6)) (x - (F 0)) (F 2)) 3)) 7) * (((gX2_narrow S (gX2_narrow S (lm (F 0) (F 1) (F 2) (F 3) (F 4) (F 5) (F 6) 0 (F 6)) (x - (F 0)) (F 2)) (y - ((gX2_narrow S (lm (F 0) (F 1) (F 2) (F 3) (F 4) (F 5) (F 6) 0 (F 6)) (x - (F 0)) (F 2)) 1)) ((gX2_narrow S (lm (F 0) (F 1) (F 2) (F 3) (F 4) (F 5) (F 6) 0 (F 6)) (x - (F 0)) (F 2)) 3)) 5) - ((gX2_narrow S (gX2_narrow S (lm (F 0) (F 1) (F 2) (F 3) (F 4) (F 5) (F 6) 0 (F 6)) (x - (F 0)) (F 2)) (y - ((gX2_narrow S (lm (F 0) (F 1) (F 2) (F 3) (F 4) (F 5) (F 6) 0 (F 6)) (x - (F 0)) (F 2)) 1)) ((gX2_narrow S (lm (F 0) (F 1) (F 2) (F 3) (F 4) (F 5) (F 6) 0 (F 6)) (x - (F 0)) (F 2)) 3)) 4))))), (0, .ref (hs 0)), (1, .int x), (2, .int y)]) hx hb dX2_clearance_78 rfl hl (by decide) rfl (fun ls hl => ?_)
    refine lv_aload_n hx hb dX2_clearance_79 rfl (lv_at hl 1 rfl) ?_
    refine g_get hx hb hts hown hG inX2 0 rfl rfl 12 (by decide) q404 (v := .int ((gX2_narrow S (gX2_narrow S (lm (F 0) (F 1) (F 2) (F 3) (F 4) (F 5) (F 6) 0 (F 6)) (x - (F 0)) (F 2)) (y - ((gX2_narrow S (lm (F 0) (F 1) (F 2) (F 3) (F 4) (F 5) (F 6) 0 (F 6)) (x - (F 0)) (F 2)) 1)) ((gX2_narrow S (lm (F 0) (F 1) (F 2) (F 3) (F 4) (F 5) (F 6) 0 (F 6)) (x - (F 0)) (F 2)) 3)) 4)) rfl dX2_clearance_80 ?_
    refine lv_aload_n hx hb dX2_clearance_83 rfl (lv_at hl 1 rfl) ?_
    refine g_get hx hb hts hown hG inX2 0 rfl rfl 14 (by decide) q406 (v := .int ((gX2_narrow S (gX2_narrow S (lm (F 0) (F 1) (F 2) (F 3) (F 4) (F 5) (F 6) 0 (F 6)) (x - (F 0)) (F 2)) (y - ((gX2_narrow S (lm (F 0) (F 1) (F 2) (F 3) (F 4) (F 5) (F 6) 0 (F 6)) (x - (F 0)) (F 2)) 1)) ((gX2_narrow S (lm (F 0) (F 1) (F 2) (F 3) (F 4) (F 5) (F 6) 0 (F 6)) (x - (F 0)) (F 2)) 3)) 6)) rfl dX2_clearance_84 ?_
    refine lv_imul hx hb dX2_clearance_87 ?_
    refine lv_aload_n hx hb dX2_clearance_88 rfl (lv_at hl 1 rfl) ?_
    refine g_get hx hb hts hown hG inX2 0 rfl rfl 16 (by decide) q408 (v := .int ((gX2_narrow S (gX2_narrow S (lm (F 0) (F 1) (F 2) (F 3) (F 4) (F 5) (F 6) 0 (F 6)) (x - (F 0)) (F 2)) (y - ((gX2_narrow S (lm (F 0) (F 1) (F 2) (F 3) (F 4) (F 5) (F 6) 0 (F 6)) (x - (F 0)) (F 2)) 1)) ((gX2_narrow S (lm (F 0) (F 1) (F 2) (F 3) (F 4) (F 5) (F 6) 0 (F 6)) (x - (F 0)) (F 2)) 3)) 8)) rfl dX2_clearance_89 ?_
    refine lv_aload_n hx hb dX2_clearance_92 rfl (lv_at hl 1 rfl) ?_
    refine g_get hx hb hts hown hG inX2 0 rfl rfl 13 (by decide) q405 (v := .int ((gX2_narrow S (gX2_narrow S (lm (F 0) (F 1) (F 2) (F 3) (F 4) (F 5) (F 6) 0 (F 6)) (x - (F 0)) (F 2)) (y - ((gX2_narrow S (lm (F 0) (F 1) (F 2) (F 3) (F 4) (F 5) (F 6) 0 (F 6)) (x - (F 0)) (F 2)) 1)) ((gX2_narrow S (lm (F 0) (F 1) (F 2) (F 3) (F 4) (F 5) (F 6) 0 (F 6)) (x - (F 0)) (F 2)) 3)) 5)) rfl dX2_clearance_93 ?_
    refine lv_aload_n hx hb dX2_clearance_96 rfl (lv_at hl 1 rfl) ?_
    refine g_get hx hb hts hown hG inX2 0 rfl rfl 12 (by decide) q404 (v := .int ((gX2_narrow S (gX2_narrow S (lm (F 0) (F 1) (F 2) (F 3) (F 4) (F 5) (F 6) 0 (F 6)) (x - (F 0)) (F 2)) (y - ((gX2_narrow S (lm (F 0) (F 1) (F 2) (F 3) (F 4) (F 5) (F 6) 0 (F 6)) (x - (F 0)) (F 2)) 1)) ((gX2_narrow S (lm (F 0) (F 1) (F 2) (F 3) (F 4) (F 5) (F 6) 0 (F 6)) (x - (F 0)) (F 2)) 3)) 4)) rfl dX2_clearance_97 ?_
    refine lv_isub hx hb dX2_clearance_100 ?_
    refine lv_imul hx hb dX2_clearance_101 ?_
    refine lv_iadd hx hb dX2_clearance_102 ?_
    refine lv_istore (lv' := [(4, .int ((((gX2_narrow S (gX2_narrow S (lm (F 0) (F 1) (F 2) (F 3) (F 4) (F 5) (F 6) 0 (F 6)) (x - (F 0)) (F 2)) (y - ((gX2_narrow S (lm (F 0) (F 1) (F 2) (F 3) (F 4) (F 5) (F 6) 0 (F 6)) (x - (F 0)) (F 2)) 1)) ((gX2_narrow S (lm (F 0) (F 1) (F 2) (F 3) (F 4) (F 5) (F 6) 0 (F 6)) (x - (F 0)) (F 2)) 3)) 4) * ((gX2_narrow S (gX2_narrow S (lm (F 0) (F 1) (F 2) (F 3) (F 4) (F 5) (F 6) 0 (F 6)) (x - (F 0)) (F 2)) (y - ((gX2_narrow S (lm (F 0) (F 1) (F 2) (F 3) (F 4) (F 5) (F 6) 0 (F 6)) (x - (F 0)) (F 2)) 1)) ((gX2_narrow S (lm (F 0) (F 1) (F 2) (F 3) (F 4) (F 5) (F 6) 0 (F 6)) (x - (F 0)) (F 2)) 3)) 6)) + (((gX2_narrow S (gX2_narrow S (lm (F 0) (F 1) (F 2) (F 3) (F 4) (F 5) (F 6) 0 (F 6)) (x - (F 0)) (F 2)) (y - ((gX2_narrow S (lm (F 0) (F 1) (F 2) (F 3) (F 4) (F 5) (F 6) 0 (F 6)) (x - (F 0)) (F 2)) 1)) ((gX2_narrow S (lm (F 0) (F 1) (F 2) (F 3) (F 4) (F 5) (F 6) 0 (F 6)) (x - (F 0)) (F 2)) 3)) 8) * (((gX2_narrow S (gX2_narrow S (lm (F 0) (F 1) (F 2) (F 3) (F 4) (F 5) (F 6) 0 (F 6)) (x - (F 0)) (F 2)) (y - ((gX2_narrow S (lm (F 0) (F 1) (F 2) (F 3) (F 4) (F 5) (F 6) 0 (F 6)) (x - (F 0)) (F 2)) 1)) ((gX2_narrow S (lm (F 0) (F 1) (F 2) (F 3) (F 4) (F 5) (F 6) 0 (F 6)) (x - (F 0)) (F 2)) 3)) 5) - ((gX2_narrow S (gX2_narrow S (lm (F 0) (F 1) (F 2) (F 3) (F 4) (F 5) (F 6) 0 (F 6)) (x - (F 0)) (F 2)) (y - ((gX2_narrow S (lm (F 0) (F 1) (F 2) (F 3) (F 4) (F 5) (F 6) 0 (F 6)) (x - (F 0)) (F 2)) 1)) ((gX2_narrow S (lm (F 0) (F 1) (F 2) (F 3) (F 4) (F 5) (F 6) 0 (F 6)) (x - (F 0)) (F 2)) 3)) 4))))), (3, .int ((((gX2_narrow S (gX2_narrow S (lm (F 0) (F 1) (F 2) (F 3) (F 4) (F 5) (F 6) 0 (F 6)) (x - (F 0)) (F 2)) (y - ((gX2_narrow S (lm (F 0) (F 1) (F 2) (F 3) (F 4) (F 5) (F 6) 0 (F 6)) (x - (F 0)) (F 2)) 1)) ((gX2_narrow S (lm (F 0) (F 1) (F 2) (F 3) (F 4) (F 5) (F 6) 0 (F 6)) (x - (F 0)) (F 2)) 3)) 4) * ((gX2_narrow S (gX2_narrow S (lm (F 0) (F 1) (F 2) (F 3) (F 4) (F 5) (F 6) 0 (F 6)) (x - (F 0)) (F 2)) (y - ((gX2_narrow S (lm (F 0) (F 1) (F 2) (F 3) (F 4) (F 5) (F 6) 0 (F 6)) (x - (F 0)) (F 2)) 1)) ((gX2_narrow S (lm (F 0) (F 1) (F 2) (F 3) (F 4) (F 5) (F 6) 0 (F 6)) (x - (F 0)) (F 2)) 3)) 6)) + (((gX2_narrow S (gX2_narrow S (lm (F 0) (F 1) (F 2) (F 3) (F 4) (F 5) (F 6) 0 (F 6)) (x - (F 0)) (F 2)) (y - ((gX2_narrow S (lm (F 0) (F 1) (F 2) (F 3) (F 4) (F 5) (F 6) 0 (F 6)) (x - (F 0)) (F 2)) 1)) ((gX2_narrow S (lm (F 0) (F 1) (F 2) (F 3) (F 4) (F 5) (F 6) 0 (F 6)) (x - (F 0)) (F 2)) 3)) 7) * (((gX2_narrow S (gX2_narrow S (lm (F 0) (F 1) (F 2) (F 3) (F 4) (F 5) (F 6) 0 (F 6)) (x - (F 0)) (F 2)) (y - ((gX2_narrow S (lm (F 0) (F 1) (F 2) (F 3) (F 4) (F 5) (F 6) 0 (F 6)) (x - (F 0)) (F 2)) 1)) ((gX2_narrow S (lm (F 0) (F 1) (F 2) (F 3) (F 4) (F 5) (F 6) 0 (F 6)) (x - (F 0)) (F 2)) 3)) 5) - ((gX2_narrow S (gX2_narrow S (lm (F 0) (F 1) (F 2) (F 3) (F 4) (F 5) (F 6) 0 (F 6)) (x - (F 0)) (F 2)) (y - ((gX2_narrow S (lm (F 0) (F 1) (F 2) (F 3) (F 4) (F 5) (F 6) 0 (F 6)) (x - (F 0)) (F 2)) 1)) ((gX2_narrow S (lm (F 0) (F 1) (F 2) (F 3) (F 4) (F 5) (F 6) 0 (F 6)) (x - (F 0)) (F 2)) 3)) 4))))), (0, .ref (hs 0)), (1, .int x), (2, .int y)]) hx hb dX2_clearance_103 hl (by decide) rfl (fun ls hl => ?_)
    refine lv_iload_n hx hb dX2_clearance_105 rfl (lv_at hl 1 rfl) ?_
    refine lv_iload hx hb dX2_clearance_106 (lv_at hl 0 rfl) ?_
    refine g_dia (P := (((gX2_narrow S (gX2_narrow S (lm (F 0) (F 1) (F 2) (F 3) (F 4) (F 5) (F 6) 0 (F 6)) (x - (F 0)) (F 2)) (y - ((gX2_narrow S (lm (F 0) (F 1) (F 2) (F 3) (F 4) (F 5) (F 6) 0 (F 6)) (x - (F 0)) (F 2)) 1)) ((gX2_narrow S (lm (F 0) (F 1) (F 2) (F 3) (F 4) (F 5) (F 6) 0 (F 6)) (x - (F 0)) (F 2)) 3)) 4) * ((gX2_narrow S (gX2_narrow S (lm (F 0) (F 1) (F 2) (F 3) (F 4) (F 5) (F 6) 0 (F 6)) (x - (F 0)) (F 2)) (y - ((gX2_narrow S (lm (F 0) (F 1) (F 2) (F 3) (F 4) (F 5) (F 6) 0 (F 6)) (x - (F 0)) (F 2)) 1)) ((gX2_narrow S (lm (F 0) (F 1) (F 2) (F 3) (F 4) (F 5) (F 6) 0 (F 6)) (x - (F 0)) (F 2)) 3)) 6)) + (((gX2_narrow S (gX2_narrow S (lm (F 0) (F 1) (F 2) (F 3) (F 4) (F 5) (F 6) 0 (F 6)) (x - (F 0)) (F 2)) (y - ((gX2_narrow S (lm (F 0) (F 1) (F 2) (F 3) (F 4) (F 5) (F 6) 0 (F 6)) (x - (F 0)) (F 2)) 1)) ((gX2_narrow S (lm (F 0) (F 1) (F 2) (F 3) (F 4) (F 5) (F 6) 0 (F 6)) (x - (F 0)) (F 2)) 3)) 8) * (((gX2_narrow S (gX2_narrow S (lm (F 0) (F 1) (F 2) (F 3) (F 4) (F 5) (F 6) 0 (F 6)) (x - (F 0)) (F 2)) (y - ((gX2_narrow S (lm (F 0) (F 1) (F 2) (F 3) (F 4) (F 5) (F 6) 0 (F 6)) (x - (F 0)) (F 2)) 1)) ((gX2_narrow S (lm (F 0) (F 1) (F 2) (F 3) (F 4) (F 5) (F 6) 0 (F 6)) (x - (F 0)) (F 2)) 3)) 5) - ((gX2_narrow S (gX2_narrow S (lm (F 0) (F 1) (F 2) (F 3) (F 4) (F 5) (F 6) 0 (F 6)) (x - (F 0)) (F 2)) (y - ((gX2_narrow S (lm (F 0) (F 1) (F 2) (F 3) (F 4) (F 5) (F 6) 0 (F 6)) (x - (F 0)) (F 2)) 1)) ((gX2_narrow S (lm (F 0) (F 1) (F 2) (F 3) (F 4) (F 5) (F 6) 0 (F 6)) (x - (F 0)) (F 2)) 3)) 4))) ≤ (((gX2_narrow S (gX2_narrow S (lm (F 0) (F 1) (F 2) (F 3) (F 4) (F 5) (F 6) 0 (F 6)) (x - (F 0)) (F 2)) (y - ((gX2_narrow S (lm (F 0) (F 1) (F 2) (F 3) (F 4) (F 5) (F 6) 0 (F 6)) (x - (F 0)) (F 2)) 1)) ((gX2_narrow S (lm (F 0) (F 1) (F 2) (F 3) (F 4) (F 5) (F 6) 0 (F 6)) (x - (F 0)) (F 2)) 3)) 4) * ((gX2_narrow S (gX2_narrow S (lm (F 0) (F 1) (F 2) (F 3) (F 4) (F 5) (F 6) 0 (F 6)) (x - (F 0)) (F 2)) (y - ((gX2_narrow S (lm (F 0) (F 1) (F 2) (F 3) (F 4) (F 5) (F 6) 0 (F 6)) (x - (F 0)) (F 2)) 1)) ((gX2_narrow S (lm (F 0) (F 1) (F 2) (F 3) (F 4) (F 5) (F 6) 0 (F 6)) (x - (F 0)) (F 2)) 3)) 6)) + (((gX2_narrow S (gX2_narrow S (lm (F 0) (F 1) (F 2) (F 3) (F 4) (F 5) (F 6) 0 (F 6)) (x - (F 0)) (F 2)) (y - ((gX2_narrow S (lm (F 0) (F 1) (F 2) (F 3) (F 4) (F 5) (F 6) 0 (F 6)) (x - (F 0)) (F 2)) 1)) ((gX2_narrow S (lm (F 0) (F 1) (F 2) (F 3) (F 4) (F 5) (F 6) 0 (F 6)) (x - (F 0)) (F 2)) 3)) 7) * (((gX2_narrow S (gX2_narrow S (lm (F 0) (F 1) (F 2) (F 3) (F 4) (F 5) (F 6) 0 (F 6)) (x - (F 0)) (F 2)) (y - ((gX2_narrow S (lm (F 0) (F 1) (F 2) (F 3) (F 4) (F 5) (F 6) 0 (F 6)) (x - (F 0)) (F 2)) 1)) ((gX2_narrow S (lm (F 0) (F 1) (F 2) (F 3) (F 4) (F 5) (F 6) 0 (F 6)) (x - (F 0)) (F 2)) 3)) 5) - ((gX2_narrow S (gX2_narrow S (lm (F 0) (F 1) (F 2) (F 3) (F 4) (F 5) (F 6) 0 (F 6)) (x - (F 0)) (F 2)) (y - ((gX2_narrow S (lm (F 0) (F 1) (F 2) (F 3) (F 4) (F 5) (F 6) 0 (F 6)) (x - (F 0)) (F 2)) 1)) ((gX2_narrow S (lm (F 0) (F 1) (F 2) (F 3) (F 4) (F 5) (F 6) 0 (F 6)) (x - (F 0)) (F 2)) 3)) 4)))) (J := 117) (A9 := (((gX2_narrow S (gX2_narrow S (lm (F 0) (F 1) (F 2) (F 3) (F 4) (F 5) (F 6) 0 (F 6)) (x - (F 0)) (F 2)) (y - ((gX2_narrow S (lm (F 0) (F 1) (F 2) (F 3) (F 4) (F 5) (F 6) 0 (F 6)) (x - (F 0)) (F 2)) 1)) ((gX2_narrow S (lm (F 0) (F 1) (F 2) (F 3) (F 4) (F 5) (F 6) 0 (F 6)) (x - (F 0)) (F 2)) 3)) 4) * ((gX2_narrow S (gX2_narrow S (lm (F 0) (F 1) (F 2) (F 3) (F 4) (F 5) (F 6) 0 (F 6)) (x - (F 0)) (F 2)) (y - ((gX2_narrow S (lm (F 0) (F 1) (F 2) (F 3) (F 4) (F 5) (F 6) 0 (F 6)) (x - (F 0)) (F 2)) 1)) ((gX2_narrow S (lm (F 0) (F 1) (F 2) (F 3) (F 4) (F 5) (F 6) 0 (F 6)) (x - (F 0)) (F 2)) 3)) 6)) + (((gX2_narrow S (gX2_narrow S (lm (F 0) (F 1) (F 2) (F 3) (F 4) (F 5) (F 6) 0 (F 6)) (x - (F 0)) (F 2)) (y - ((gX2_narrow S (lm (F 0) (F 1) (F 2) (F 3) (F 4) (F 5) (F 6) 0 (F 6)) (x - (F 0)) (F 2)) 1)) ((gX2_narrow S (lm (F 0) (F 1) (F 2) (F 3) (F 4) (F 5) (F 6) 0 (F 6)) (x - (F 0)) (F 2)) 3)) 8) * (((gX2_narrow S (gX2_narrow S (lm (F 0) (F 1) (F 2) (F 3) (F 4) (F 5) (F 6) 0 (F 6)) (x - (F 0)) (F 2)) (y - ((gX2_narrow S (lm (F 0) (F 1) (F 2) (F 3) (F 4) (F 5) (F 6) 0 (F 6)) (x - (F 0)) (F 2)) 1)) ((gX2_narrow S (lm (F 0) (F 1) (F 2) (F 3) (F 4) (F 5) (F 6) 0 (F 6)) (x - (F 0)) (F 2)) 3)) 5) - ((gX2_narrow S (gX2_narrow S (lm (F 0) (F 1) (F 2) (F 3) (F 4) (F 5) (F 6) 0 (F 6)) (x - (F 0)) (F 2)) (y - ((gX2_narrow S (lm (F 0) (F 1) (F 2) (F 3) (F 4) (F 5) (F 6) 0 (F 6)) (x - (F 0)) (F 2)) 1)) ((gX2_narrow S (lm (F 0) (F 1) (F 2) (F 3) (F 4) (F 5) (F 6) 0 (F 6)) (x - (F 0)) (F 2)) 3)) 4)))) (B9 := (((gX2_narrow S (gX2_narrow S (lm (F 0) (F 1) (F 2) (F 3) (F 4) (F 5) (F 6) 0 (F 6)) (x - (F 0)) (F 2)) (y - ((gX2_narrow S (lm (F 0) (F 1) (F 2) (F 3) (F 4) (F 5) (F 6) 0 (F 6)) (x - (F 0)) (F 2)) 1)) ((gX2_narrow S (lm (F 0) (F 1) (F 2) (F 3) (F 4) (F 5) (F 6) 0 (F 6)) (x - (F 0)) (F 2)) 3)) 4) * ((gX2_narrow S (gX2_narrow S (lm (F 0) (F 1) (F 2) (F 3) (F 4) (F 5) (F 6) 0 (F 6)) (x - (F 0)) (F 2)) (y - ((gX2_narrow S (lm (F 0) (F 1) (F 2) (F 3) (F 4) (F 5) (F 6) 0 (F 6)) (x - (F 0)) (F 2)) 1)) ((gX2_narrow S (lm (F 0) (F 1) (F 2) (F 3) (F 4) (F 5) (F 6) 0 (F 6)) (x - (F 0)) (F 2)) 3)) 6)) + (((gX2_narrow S (gX2_narrow S (lm (F 0) (F 1) (F 2) (F 3) (F 4) (F 5) (F 6) 0 (F 6)) (x - (F 0)) (F 2)) (y - ((gX2_narrow S (lm (F 0) (F 1) (F 2) (F 3) (F 4) (F 5) (F 6) 0 (F 6)) (x - (F 0)) (F 2)) 1)) ((gX2_narrow S (lm (F 0) (F 1) (F 2) (F 3) (F 4) (F 5) (F 6) 0 (F 6)) (x - (F 0)) (F 2)) 3)) 7) * (((gX2_narrow S (gX2_narrow S (lm (F 0) (F 1) (F 2) (F 3) (F 4) (F 5) (F 6) 0 (F 6)) (x - (F 0)) (F 2)) (y - ((gX2_narrow S (lm (F 0) (F 1) (F 2) (F 3) (F 4) (F 5) (F 6) 0 (F 6)) (x - (F 0)) (F 2)) 1)) ((gX2_narrow S (lm (F 0) (F 1) (F 2) (F 3) (F 4) (F 5) (F 6) 0 (F 6)) (x - (F 0)) (F 2)) 3)) 5) - ((gX2_narrow S (gX2_narrow S (lm (F 0) (F 1) (F 2) (F 3) (F 4) (F 5) (F 6) 0 (F 6)) (x - (F 0)) (F 2)) (y - ((gX2_narrow S (lm (F 0) (F 1) (F 2) (F 3) (F 4) (F 5) (F 6) 0 (F 6)) (x - (F 0)) (F 2)) 1)) ((gX2_narrow S (lm (F 0) (F 1) (F 2) (F 3) (F 4) (F 5) (F 6) 0 (F 6)) (x - (F 0)) (F 2)) 3)) 4)))) (ls9 := ls) (rest9 := []) (fun ka3 kb4 => ?_) ?_
    · refine lv_icmp_ge (tgt := 115) hx hb dX2_clearance_108 (by decide) (fun c2 => ?_) (fun c2 => ?_)
      · refine lv_iload hx hb dX2_clearance_115 (lv_at hl 0 rfl) ?_
        exact ka3 c2
      · refine lv_iload_n hx hb dX2_clearance_111 rfl (lv_at hl 1 rfl) ?_
        refine lv_goto (tgt := 117) hx hb dX2_clearance_112 (by decide) ?_
        exact kb4 c2
    exact g_iret hx hb hr hlk hG ⟨by unfold fX2_clearance; rw [if_pos c1], by unfold gX2_clearance; rw [if_pos c1]⟩ dX2_clearance_117
  · refine lv_iconst (v := (-1)) hx hb dX2_clearance_52 (by decide) ?_
    exact g_iret hx hb hr hlk hG ⟨by unfold fX2_clearance; rw [if_neg c1], by unfold gX2_clearance; rw [if_neg c1]⟩ dX2_clearance_53
theorem nr_keep (S : GS) (F : Nat → Int32) (a b : Int32) (k : Nat) (hk : k < 7) : gX2_narrow S F a b k = F k := by
  unfold gX2_narrow
  split
  · match k, hk with
    | 0, _ => rfl
    | 1, _ => rfl
    | 2, _ => rfl
    | 3, _ => rfl
    | 4, _ => rfl
    | 5, _ => rfl
    | 6, _ => rfl
  · match k, hk with
    | 0, _ => rfl
    | 1, _ => rfl
    | 2, _ => rfl
    | 3, _ => rfl
    | 4, _ => rfl
    | 5, _ => rfl
    | 6, _ => rfl
/-- what the two narrowings leave, seven fields stay -/
def nr2 (S : GS) (F : Nat → Int32) (x y : Int32) : Nat → Int32 := gX2_narrow S (gX2_narrow S (lm (F 0) (F 1) (F 2) (F 3) (F 4) (F 5) (F 6) 0 (F 6)) (x - F 0) (F 2)) (y - F 1) (F 3)
theorem nr2_keep (S : GS) (F : Nat → Int32) (x y : Int32) (k : Nat) (hk : k < 7) : nr2 S F x y k = F k := by
  unfold nr2
  rw [nr_keep _ _ _ _ _ hk, nr_keep _ _ _ _ _ hk]
  match k, hk with
  | 0, _ => rfl
  | 1, _ => rfl
  | 2, _ => rfl
  | 3, _ => rfl
  | 4, _ => rfl
  | 5, _ => rfl
  | 6, _ => rfl
theorem cl_g (S : GS) (F : Nat → Int32) (x y : Int32) : gX2_clearance S F x y = nr2 S F x y := by
  unfold gX2_clearance nr2
  rw [nr_keep _ _ _ _ 1 (by decide), nr_keep _ _ _ _ 3 (by decide)]
  split <;> rfl
theorem cl_f (S : GS) (F : Nat → Int32) (x y : Int32) : fX2_clearance S F x y = if nr2 S F x y 7 < nr2 S F x y 8 then (if F 4 * F 6 + nr2 S F x y 8 * (F 5 - F 4) ≤ F 4 * F 6 + nr2 S F x y 7 * (F 5 - F 4) then F 4 * F 6 + nr2 S F x y 8 * (F 5 - F 4) else F 4 * F 6 + nr2 S F x y 7 * (F 5 - F 4)) else -1 := by
  have e : fX2_clearance S F x y = if nr2 S F x y 7 < nr2 S F x y 8 then (if nr2 S F x y 4 * nr2 S F x y 6 + nr2 S F x y 8 * (nr2 S F x y 5 - nr2 S F x y 4) ≤ nr2 S F x y 4 * nr2 S F x y 6 + nr2 S F x y 7 * (nr2 S F x y 5 - nr2 S F x y 4) then nr2 S F x y 4 * nr2 S F x y 6 + nr2 S F x y 8 * (nr2 S F x y 5 - nr2 S F x y 4) else nr2 S F x y 4 * nr2 S F x y 6 + nr2 S F x y 7 * (nr2 S F x y 5 - nr2 S F x y 4)) else -1 := by
    unfold fX2_clearance nr2
    rw [nr_keep _ _ _ _ 1 (by decide), nr_keep _ _ _ _ 3 (by decide)]
    rfl
  rw [e, nr2_keep _ _ _ _ 4 (by decide), nr2_keep _ _ _ _ 5 (by decide), nr2_keep _ _ _ _ 6 (by decide)]
theorem cl_whole {S : GS} {F : Nat → Int32} {x y : Int32} : gX2_clearance S F x y 6 = F 6 := by rw [cl_g, nr2_keep _ _ _ _ _ (by decide)]

def fX2_loweredTo (S : GS) (F : Nat → Int32) (k : Nat) : Int32 := if S 17 k = 0 then (-1) else (if fX2_clearance S F (nI (k % 16)) (nI (k / 16)) < 0 then (-1) else (if (S 17 k) * ((gX2_clearance S F (nI (k % 16)) (nI (k / 16))) 6) ≤ fX2_clearance S F (nI (k % 16)) (nI (k / 16)) then (-1) else (fX2_clearance S F (nI (k % 16)) (nI (k / 16))) / ((gX2_clearance S F (nI (k % 16)) (nI (k / 16))) 6)))
def gX2_loweredTo (S : GS) (F : Nat → Int32) (k : Nat) : Nat → Int32 := if S 17 k = 0 then F else (if fX2_clearance S F (nI (k % 16)) (nI (k / 16)) < 0 then gX2_clearance S F (nI (k % 16)) (nI (k / 16)) else (if (S 17 k) * ((gX2_clearance S F (nI (k % 16)) (nI (k / 16))) 6) ≤ fX2_clearance S F (nI (k % 16)) (nI (k / 16)) then gX2_clearance S F (nI (k % 16)) (nI (k / 16)) else gX2_clearance S F (nI (k % 16)) (nI (k / 16))))
set_option maxHeartbeats 4000000 in
set_option maxRecDepth 100000 in
theorem kX2_loweredTo {l : Launch} {D : va_G} {cy : ClassId} {hs : Nat → Nat} {X : va_W} (S : GS) (F : Nat → Int32) (k : Nat) (hk : k < 192) (hw : ¬ F 6 = 0) : Ct l D cy (wM cy hs X) yX2_loweredTo cX2_loweredTo 3 (some .int) 3 70 (sm S F) [.ref (hs 0), .int (nI k)] (QI D (wM cy hs X) (exI (fX2_loweredTo S F k) (sm S (gX2_loweredTo S F k)))) := by
  refine Ct.of wM_adr (plainFor_of_name (by decide)) (Nat.le_of_ble_eq_true rfl) ?_
  intro p e s m below meth c ls C hl hG
  obtain ⟨hx, hb, hml, hown, hts, hr, hlk⟩ := C
  have hl : lv_has ls 3 [(0, .ref (hs 0)), (1, .int (nI k))] := hl
  refine lv_aload_n hx hb dX2_loweredTo_0 rfl (lv_at hl 0 rfl) ?_
  refine g_get hx hb hts hown hG inX2 0 rfl rfl 17 (by decide) q409 (v := .ref (hs 17)) rfl dX2_loweredTo_1 ?_
  refine lv_iload_n hx hb dX2_loweredTo_4 rfl (lv_at hl 1 rfl) ?_
  refine g_aldN (f := S 17) hx hb hG 6 rfl (by decide) (k) (rfl) (hk) dX2_loweredTo_5 ?_
  refine lv_if_ne (tgt := 11) hx hb dX2_loweredTo_6 (by decide) (fun c1 => ?_) (fun c1 => ?_)
  · refine lv_aload_n hx hb dX2_loweredTo_11 rfl (lv_at hl 0 rfl) ?_
    refine lv_iload_n hx hb dX2_loweredTo_12 rfl (lv_at hl 1 rfl) ?_
    refine lv_bipush (v := 16) hx hb dX2_loweredTo_13 (by decide) ?_
    refine lv_irem hx hb dX2_loweredTo_15 (by decide) ?_
    refine g_top (y := nI (k % 16)) (rem16 hk) ?_
    refine lv_iload_n hx hb dX2_loweredTo_16 rfl (lv_at hl 1 rfl) ?_
    refine lv_bipush (v := 16) hx hb dX2_loweredTo_17 (by decide) ?_
    refine lv_idiv hx hb dX2_loweredTo_19 (by decide) ?_
    refine g_top (y := nI (k / 16)) (div16 hk) ?_
    refine g_calliE wM_adr hG (g_runV (As := [.int (nI (k % 16)), .int (nI (k / 16))]) (rest := []) ⟨hx, hb, hml, hown, hts⟩ wM_adr (kX2_clearance S F (nI (k % 16)) (nI (k / 16))) wyX2_clearance q555 hG 0 rfl rfl ⟨by decide, by decide⟩ rfl rfl hl.1 (Nat.le_of_ble_eq_true rfl) ⟨Nat.le_refl 0, Nat.le_refl 0⟩ dX2_loweredTo_20) (fun H locs hG => ?_)
    refine lv_istore_n (lv' := [(2, .int (fX2_clearance S F (nI (k % 16)) (nI (k / 16)))), (0, .ref (hs 0)), (1, .int (nI k))]) hx hb dX2_loweredTo_23 rfl hl (by decide) rfl (fun ls hl => ?_)
    refine lv_iload_n hx hb dX2_loweredTo_24 rfl (lv_at hl 0 rfl) ?_
    refine lv_if_lt (tgt := 52) hx hb dX2_loweredTo_25 (by decide) (fun c2 => ?_) (fun c2 => ?_)
    · refine lv_iconst (v := (-1)) hx hb dX2_loweredTo_52 (by decide) ?_
      exact g_iret hx hb hr hlk hG ⟨by unfold fX2_loweredTo; rw [if_neg c1, if_pos c2], by unfold gX2_loweredTo; rw [if_neg c1, if_pos c2]⟩ dX2_loweredTo_53
    · refine lv_aload_n hx hb dX2_loweredTo_28 rfl (lv_at hl 1 rfl) ?_
      refine g_get hx hb hts hown hG inX2 0 rfl rfl 17 (by decide) q409 (v := .ref (hs 17)) rfl dX2_loweredTo_29 ?_
      refine lv_iload_n hx hb dX2_loweredTo_32 rfl (lv_at hl 2 rfl) ?_
      refine g_aldN (f := S 17) hx hb hG 6 rfl (by decide) (k) (rfl) (hk) dX2_loweredTo_33 ?_
      refine lv_aload_n hx hb dX2_loweredTo_34 rfl (lv_at hl 1 rfl) ?_
      refine g_get hx hb hts hown hG inX2 0 rfl rfl 14 (by decide) q406 (v := .int ((gX2_clearance S F (nI (k % 16)) (nI (k / 16))) 6)) rfl dX2_loweredTo_35 ?_
      refine lv_imul hx hb dX2_loweredTo_38 ?_
      refine lv_iload_n hx hb dX2_loweredTo_39 rfl (lv_at hl 0 rfl) ?_
      refine lv_icmp_le (tgt := 52) hx hb dX2_loweredTo_40 (by decide) (fun c3 => ?_) (fun c3 => ?_)
      · refine lv_iconst (v := (-1)) hx hb dX2_loweredTo_52 (by decide) ?_
        exact g_iret hx hb hr hlk hG ⟨by unfold fX2_loweredTo; rw [if_neg c1, if_neg c2, if_pos c3], by unfold gX2_loweredTo; rw [if_neg c1, if_neg c2, if_pos c3]⟩ dX2_loweredTo_53
      · refine lv_iload_n hx hb dX2_loweredTo_43 rfl (lv_at hl 0 rfl) ?_
        refine lv_aload_n hx hb dX2_loweredTo_44 rfl (lv_at hl 1 rfl) ?_
        refine g_get hx hb hts hown hG inX2 0 rfl rfl 14 (by decide) q406 (v := .int ((gX2_clearance S F (nI (k % 16)) (nI (k / 16))) 6)) rfl dX2_loweredTo_45 ?_
        refine lv_idiv hx hb dX2_loweredTo_48 (by rw [cl_whole]; exact hw) ?_
        refine lv_goto (tgt := 53) hx hb dX2_loweredTo_49 (by decide) ?_
        exact g_iret hx hb hr hlk hG ⟨by unfold fX2_loweredTo; rw [if_neg c1, if_neg c2, if_neg c3], by unfold gX2_loweredTo; rw [if_neg c1, if_neg c2, if_neg c3]⟩ dX2_loweredTo_53
  · refine lv_iconst (v := (-1)) hx hb dX2_loweredTo_9 (by decide) ?_
    exact g_iret hx hb hr hlk hG ⟨by unfold fX2_loweredTo; rw [if_pos c1], by unfold gX2_loweredTo; rw [if_pos c1]⟩ dX2_loweredTo_10
