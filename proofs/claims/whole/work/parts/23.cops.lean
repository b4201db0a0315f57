/-! ===== the class: the garden's calls ===== -/
theorem inR {v : Int32} {a b : Nat} (ha : a < 2 ^ 31) (hb : b < 2 ^ 31) : fX1_inRange v (nI a) (nI b) = if inB v a b then 1 else 0 := by
  unfold fX1_inRange inB
  by_cases h1 : v < nI a
  · rw [if_pos h1]
    rw [Int32.lt_iff_toInt_lt, nI_toInt ha] at h1
    rw [decide_eq_false (show ¬ (a : Int) ≤ v.toInt by omega)]; rfl
  · rw [if_neg h1]
    rw [Int32.lt_iff_toInt_lt, nI_toInt ha] at h1
    rw [decide_eq_true (show (a : Int) ≤ v.toInt by omega)]
    by_cases h2 : nI b < v
    · rw [if_pos h2]
      rw [Int32.lt_iff_toInt_lt, nI_toInt hb] at h2
      rw [decide_eq_false (show ¬ v.toInt ≤ (b : Int) by omega)]; rfl
    · rw [if_neg h2]
      rw [Int32.lt_iff_toInt_lt, nI_toInt hb] at h2
      rw [decide_eq_true (show v.toInt ≤ (b : Int) by omega)]; rfl
theorem rB_eq (c r : Int32) : rB c r = (inB c 3 16 && inB r 3 12) := by
  unfold rB inB
  rw [Bool.and_assoc]; rfl
def newS (S : GS) (c r : Int32) : Prop := (S 0 0 = c ∧ S 0 1 = r ∧ S 0 4 = 0 ∧ S 0 7 = 0 ∧ S 0 9 = 0) ∧ (∀ i, i < 192 → S 2 i = 0) ∧ ∀ i, i < 192 → S 3 i = 0
theorem encC_new {S : GS} {c r : Nat} (h : newS S (nI c) (nI r)) : encC (T_new c r) S :=
  ⟨⟨h.1.1, h.1.2.1, h.1.2.2.1, h.1.2.2.2.1, h.1.2.2.2.2⟩, h.2.1, h.2.2, fun k hk => absurd (show k < 0 from hk) (by omega), fun k hk => absurd (show k < 0 from hk) (by omega), fun k hk => absurd (show k < 0 from hk) (by omega)⟩
theorem chErr {G : GN} {S : GS} (hw : wf G) (he : encC G S) (x y : Int32) (g : Bool) : fX1_changeError S x y (if g then 1 else 0) = cErr G x y g := by
  unfold fX1_changeError cErr
  rw [hasC hw he]
  by_cases h : hasB G x y = true
  · have hc := has_c hw h
    rw [if_pos h, if_pos h, if_neg (by decide), cellC h, nI_clamp (by omega), he.2.1 _ hc]
    cases g
    · rfl
    · rw [if_neg (by decide), if_pos rfl]
      by_cases q : G 1 (cN x y) = 4
      · rw [if_pos q, if_pos (by rw [q]; rfl)]
      · rw [if_neg q, if_neg (show ¬ nI (G 1 (cN x y)) = 4 from fun z => q ((nI_eq (b := 4) (by have := (hw.c hc).1; omega) (by decide)).mp z))]
  · rw [if_neg h, if_neg h]; rfl
theorem pkE (k : Int32) : fX1_isPlaceKind k = if pkB k then 1 else 0 := by
  unfold fX1_isPlaceKind pkB
  by_cases a : k = 0
  · simp [a]
  · by_cases b : k = 1
    · simp [b]
    · by_cases c : k = 3 <;> simp [a, b, c]
theorem encC_set {G : GN} {S : GS} (he : encC G S) {c K H : Nat} {kd ht : Int32} (hk : kd = nI K) (hh : ht = nI H) : encC (setN G c K H) (gX1_setCell S c kd ht) := by
  unfold encC gX1_setCell
  rw [setN_o (a := 0) (by decide) (by decide), setN_o (a := 3) (by decide) (by decide), setN_o (a := 4) (by decide) (by decide), setN_o (a := 5) (by decide) (by decide), setN_o (a := 6) (by decide) (by decide), setN_o (a := 7) (by decide) (by decide)]
  refine ⟨he.1, fun i hi => ?_, fun i hi => ?_, he.2.2.2.1, he.2.2.2.2.1, he.2.2.2.2.2⟩
  · rw [setN_1]
    show upd (S 2) c kd i = _
    unfold upd
    by_cases g : i = c
    · rw [if_pos g, if_pos g, hk]
    · rw [if_neg g, if_neg g]; exact he.2.1 i hi
  · rw [setN_2]
    show upd (S 3) c ht i = _
    unfold upd
    by_cases g : i = c
    · rw [if_pos g, if_pos g, hh]
    · rw [if_neg g, if_neg g]; exact he.2.2.1 i hi

set_option maxHeartbeats 4000000 in
set_option maxRecDepth 100000 in
theorem kJ7_fill_2 {l : Launch} {D : va_G} {cy : ClassId} {hs : Nat → Nat} {X : va_W} (S : GS) (v : Int32) : Ct l D cy (wC cy hs X) yJ7_fill_53178 cJ7_fill_53178 4 none 0 0 (S) [.ref (hs 2), .int v] (QV D (wC cy hs X) (fun S' => (∀ i, i < 192 → S' 2 i = v) ∧ ∀ b, b ≠ 2 → S' b = S b)) := by
  refine Ct.of wC_adr (by decide +kernel) (Nat.le_of_ble_eq_true rfl) ?_
  intro p e s m below meth c ls C hl hG
  obtain ⟨hx, hb, hml, hown, hts, hr, hlk⟩ := C
  have hl : lv_has ls 4 [(0, .ref (hs 2)), (1, .int v)] := hl
  refine lv_iconst (v := 0) hx hb dJ7_fill_53178_0 (by decide) ?_
  refine lv_istore_n (lv' := [(2, .int 0), (0, .ref (hs 2)), (1, .int v)]) hx hb dJ7_fill_53178_1 rfl hl (by decide) rfl (fun ls hl => ?_)
  refine lv_aload_n hx hb dJ7_fill_53178_2 rfl (lv_at hl 1 rfl) ?_
  refine g_alen hx hb hG 1 rfl dJ7_fill_53178_3 ?_
  refine lv_istore_n (lv' := [(3, .int (nI 192)), (2, .int 0), (0, .ref (hs 2)), (1, .int v)]) hx hb dJ7_fill_53178_4 rfl hl (by decide) rfl (fun ls hl => ?_)
  refine g_rec (τ := Nat) (fun j S9 => j ≤ 192 ∧ (∀ i, i < j → S9 2 i = v) ∧ ∀ b, b ≠ 2 → S9 b = S b) (fun j => 200 - j) (fun j => [(0, .ref (hs 2)), (1, .int v), (2, .int (nI j)), (3, .int (nI 192))]) 5 4 ?_ 0 _ _ _ _ (⟨by decide, fun i hi => absurd hi (by omega), fun _ _ => rfl⟩) hG (lv_sub hl [2, 3, 1, 0] (rfl))
  intro x9 S9 H locs ls hI hG hl ih
  obtain ⟨hj, hA, hfr⟩ := hI
  refine lv_iload_n hx hb dJ7_fill_53178_5 rfl (lv_at hl 2 rfl) ?_
  refine lv_iload_n hx hb dJ7_fill_53178_6 rfl (lv_at hl 3 rfl) ?_
  refine lv_icmp_ge (tgt := 20) hx hb dJ7_fill_53178_7 (by decide) (fun c7 => ?_) (fun c7 => ?_)
  · have hjl : 192 ≤ x9 := (nI_leI (by omega) (by omega)).mp c7
    exact g_vret hx hb hr hlk hG (⟨fun i hi => hA i (by omega), hfr⟩) dJ7_fill_53178_20
  · have hjl : x9 < 192 := Nat.lt_of_not_le (fun q => c7 (nI_le q (by omega)))
    refine lv_aload_n hx hb dJ7_fill_53178_10 rfl (lv_at hl 0 rfl) ?_
    refine lv_iload_n hx hb dJ7_fill_53178_11 rfl (lv_at hl 2 rfl) ?_
    refine lv_iload_n hx hb dJ7_fill_53178_12 rfl (lv_at hl 1 rfl) ?_
    refine g_astN (f := S9 2) hx hb hG 1 rfl (by decide) (x9) (rfl) (hjl) (up2 S9 2 x9 v) (rfl) dJ7_fill_53178_13 (fun H locs hG => ?_)
    refine lv_iinc (v := nI (x9 + 1)) (lv' := [(2, .int (nI (x9 + 1))), (0, .ref (hs 2)), (1, .int v), (3, .int (nI 192))]) hx hb dJ7_fill_53178_14 hl (k := 2) rfl (nI_1 x9) (by decide) rfl (fun ls hl => ?_)
    refine lv_goto (tgt := 5) hx hb dJ7_fill_53178_17 (by decide) ?_
    refine ih (x9 + 1) _ _ _ _ (by omega) ⟨by omega, fun i hi => ?_, fun b hb => by rw [up2_ne _ _ _ _ hb]; exact hfr b hb⟩ hG (lv_sub hl [1, 2, 0, 3] rfl)
    rw [up2_eq]
    unfold upd
    by_cases g : i = x9
    · rw [if_pos g]
    · rw [if_neg g]; exact hA i (by omega)
set_option maxHeartbeats 4000000 in
set_option maxRecDepth 100000 in
theorem kJ7_fill_3 {l : Launch} {D : va_G} {cy : ClassId} {hs : Nat → Nat} {X : va_W} (S : GS) (v : Int32) : Ct l D cy (wC cy hs X) yJ7_fill_53178 cJ7_fill_53178 4 none 0 0 (S) [.ref (hs 3), .int v] (QV D (wC cy hs X) (fun S' => (∀ i, i < 192 → S' 3 i = v) ∧ ∀ b, b ≠ 3 → S' b = S b)) := by
  refine Ct.of wC_adr (by decide +kernel) (Nat.le_of_ble_eq_true rfl) ?_
  intro p e s m below meth c ls C hl hG
  obtain ⟨hx, hb, hml, hown, hts, hr, hlk⟩ := C
  have hl : lv_has ls 4 [(0, .ref (hs 3)), (1, .int v)] := hl
  refine lv_iconst (v := 0) hx hb dJ7_fill_53178_0 (by decide) ?_
  refine lv_istore_n (lv' := [(2, .int 0), (0, .ref (hs 3)), (1, .int v)]) hx hb dJ7_fill_53178_1 rfl hl (by decide) rfl (fun ls hl => ?_)
  refine lv_aload_n hx hb dJ7_fill_53178_2 rfl (lv_at hl 1 rfl) ?_
  refine g_alen hx hb hG 2 rfl dJ7_fill_53178_3 ?_
  refine lv_istore_n (lv' := [(3, .int (nI 192)), (2, .int 0), (0, .ref (hs 3)), (1, .int v)]) hx hb dJ7_fill_53178_4 rfl hl (by decide) rfl (fun ls hl => ?_)
  refine g_rec (τ := Nat) (fun j S9 => j ≤ 192 ∧ (∀ i, i < j → S9 3 i = v) ∧ ∀ b, b ≠ 3 → S9 b = S b) (fun j => 200 - j) (fun j => [(0, .ref (hs 3)), (1, .int v), (2, .int (nI j)), (3, .int (nI 192))]) 5 4 ?_ 0 _ _ _ _ (⟨by decide, fun i hi => absurd hi (by omega), fun _ _ => rfl⟩) hG (lv_sub hl [2, 3, 1, 0] (rfl))
  intro x9 S9 H locs ls hI hG hl ih
  obtain ⟨hj, hA, hfr⟩ := hI
  refine lv_iload_n hx hb dJ7_fill_53178_5 rfl (lv_at hl 2 rfl) ?_
  refine lv_iload_n hx hb dJ7_fill_53178_6 rfl (lv_at hl 3 rfl) ?_
  refine lv_icmp_ge (tgt := 20) hx hb dJ7_fill_53178_7 (by decide) (fun c7 => ?_) (fun c7 => ?_)
  · have hjl : 192 ≤ x9 := (nI_leI (by omega) (by omega)).mp c7
    exact g_vret hx hb hr hlk hG (⟨fun i hi => hA i (by omega), hfr⟩) dJ7_fill_53178_20
  · have hjl : x9 < 192 := Nat.lt_of_not_le (fun q => c7 (nI_le q (by omega)))
    refine lv_aload_n hx hb dJ7_fill_53178_10 rfl (lv_at hl 0 rfl) ?_
    refine lv_iload_n hx hb dJ7_fill_53178_11 rfl (lv_at hl 2 rfl) ?_
    refine lv_iload_n hx hb dJ7_fill_53178_12 rfl (lv_at hl 1 rfl) ?_
    refine g_astN (f := S9 3) hx hb hG 2 rfl (by decide) (x9) (rfl) (hjl) (up2 S9 3 x9 v) (rfl) dJ7_fill_53178_13 (fun H locs hG => ?_)
    refine lv_iinc (v := nI (x9 + 1)) (lv' := [(2, .int (nI (x9 + 1))), (0, .ref (hs 3)), (1, .int v), (3, .int (nI 192))]) hx hb dJ7_fill_53178_14 hl (k := 2) rfl (nI_1 x9) (by decide) rfl (fun ls hl => ?_)
    refine lv_goto (tgt := 5) hx hb dJ7_fill_53178_17 (by decide) ?_
    refine ih (x9 + 1) _ _ _ _ (by omega) ⟨by omega, fun i hi => ?_, fun b hb => by rw [up2_ne _ _ _ _ hb]; exact hfr b hb⟩ hG (lv_sub hl [1, 2, 0, 3] rfl)
    rw [up2_eq]
    unfold upd
    by_cases g : i = x9
    · rw [if_pos g]
    · rw [if_neg g]; exact hA i (by omega)
set_option maxHeartbeats 4000000 in
set_option maxRecDepth 100000 in
theorem kX1_startAnew {l : Launch} {D : va_G} {cy : ClassId} {hs : Nat → Nat} {X : va_W} (S : GS) (c9 r9 : Int32) : Ct l D cy (wC cy hs X) yX1_startAnew cX1_startAnew 3 none 1 23 (S) [.ref (hs 0), .int c9, .int r9] (QV D (wC cy hs X) (fun S' => newS S' c9 r9)) := by
  refine Ct.of wC_adr (plainFor_of_name (by decide)) (Nat.le_of_ble_eq_true rfl) ?_
  intro p e s m below meth c ls C hl hG
  obtain ⟨hx, hb, hml, hown, hts, hr, hlk⟩ := C
  have hl : lv_has ls 3 [(0, .ref (hs 0)), (1, .int c9), (2, .int r9)] := hl
  refine lv_aload_n hx hb dX1_startAnew_0 rfl (lv_at hl 0 rfl) ?_
  refine lv_iload_n hx hb dX1_startAnew_1 rfl (lv_at hl 1 rfl) ?_
  refine g_put hx hb hts hown hG inX1 tyX1 tyX1_ok nmX1 0 rfl rfl 0 (by decide) q105 rfl (by decide +kernel) (Nat.le_of_ble_eq_true rfl) (up2 S 0 0 c9) rfl dX1_startAnew_2 (fun H locs hG => ?_)
  refine lv_aload_n hx hb dX1_startAnew_5 rfl (lv_at hl 0 rfl) ?_
  refine lv_iload_n hx hb dX1_startAnew_6 rfl (lv_at hl 2 rfl) ?_
  refine g_put hx hb hts hown hG inX1 tyX1 tyX1_ok nmX1 0 rfl rfl 1 (by decide) q106 rfl (by decide +kernel) (Nat.le_of_ble_eq_true rfl) (up2 (up2 S 0 0 c9) 0 1 r9) rfl dX1_startAnew_7 (fun H locs hG => ?_)
  refine lv_aload_n hx hb dX1_startAnew_10 rfl (lv_at hl 0 rfl) ?_
  refine g_get hx hb hts hown hG inX1 0 rfl rfl 2 (by decide) q107 (v := .ref (hs 2)) rfl dX1_startAnew_11 ?_
  refine lv_iconst (v := 0) hx hb dX1_startAnew_14 (by decide) ?_
  refine g_callv wC_adr hG (g_runS (As := [.ref (hs 2), .int 0]) (rest := []) ⟨hx, hb, hml, hown, hts⟩ wC_adr (kJ7_fill_2 (up2 (up2 S 0 0 c9) 0 1 r9) 0) wyJ7_fill_53178 q102 hG ⟨by decide, by decide⟩ rfl rfl hl.1 (Nat.le_of_ble_eq_true rfl) ⟨Nat.le_refl 0, Nat.le_refl 0⟩ dX1_startAnew_15) (fun S1 H locs hp hG => ?_)
  obtain ⟨hA2, hF2⟩ := hp
  refine lv_aload_n hx hb dX1_startAnew_18 rfl (lv_at hl 0 rfl) ?_
  refine g_get hx hb hts hown hG inX1 0 rfl rfl 3 (by decide) q108 (v := .ref (hs 3)) rfl dX1_startAnew_19 ?_
  refine lv_iconst (v := 0) hx hb dX1_startAnew_22 (by decide) ?_
  refine g_callv wC_adr hG (g_runS (As := [.ref (hs 3), .int 0]) (rest := []) ⟨hx, hb, hml, hown, hts⟩ wC_adr (kJ7_fill_3 S1 0) wyJ7_fill_53178 q102 hG ⟨by decide, by decide⟩ rfl rfl hl.1 (Nat.le_of_ble_eq_true rfl) ⟨Nat.le_refl 0, Nat.le_refl 0⟩ dX1_startAnew_23) (fun S2 H locs hp hG => ?_)
  obtain ⟨hA3, hF3⟩ := hp
  refine lv_aload_n hx hb dX1_startAnew_26 rfl (lv_at hl 0 rfl) ?_
  refine lv_iconst (v := 0) hx hb dX1_startAnew_27 (by decide) ?_
  refine g_put hx hb hts hown hG inX1 tyX1 tyX1_ok nmX1 0 rfl rfl 4 (by decide) q109 rfl (by decide +kernel) (Nat.le_of_ble_eq_true rfl) (up2 S2 0 4 0) rfl dX1_startAnew_28 (fun H locs hG => ?_)
  refine lv_aload_n hx hb dX1_startAnew_31 rfl (lv_at hl 0 rfl) ?_
  refine lv_iconst (v := 0) hx hb dX1_startAnew_32 (by decide) ?_
  refine g_put hx hb hts hown hG inX1 tyX1 tyX1_ok nmX1 0 rfl rfl 7 (by decide) q112 rfl (by decide +kernel) (Nat.le_of_ble_eq_true rfl) (up2 (up2 S2 0 4 0) 0 7 0) rfl dX1_startAnew_33 (fun H locs hG => ?_)
  refine lv_aload_n hx hb dX1_startAnew_36 rfl (lv_at hl 0 rfl) ?_
  refine lv_iconst (v := 0) hx hb dX1_startAnew_37 (by decide) ?_
  refine g_put hx hb hts hown hG inX1 tyX1 tyX1_ok nmX1 0 rfl rfl 9 (by decide) q114 rfl (by decide +kernel) (Nat.le_of_ble_eq_true rfl) (up2 (up2 (up2 S2 0 4 0) 0 7 0) 0 9 0) rfl dX1_startAnew_38 (fun H locs hG => ?_)
  refine g_vret hx hb hr hlk hG ⟨⟨?_, ?_, rfl, rfl, rfl⟩, fun i hi => ?_, fun i hi => hA3 i hi⟩ dX1_startAnew_41
  · show S2 0 0 = c9; rw [hF3 0 (by decide), hF2 0 (by decide)]; rfl
  · show S2 0 1 = r9; rw [hF3 0 (by decide), hF2 0 (by decide)]; rfl
  · show S2 2 i = 0; rw [hF3 2 (by decide)]; exact hA2 i hi
set_option maxHeartbeats 4000000 in
set_option maxRecDepth 100000 in
theorem kX1_reset {l : Launch} {D : va_G} {cy : ClassId} {hs : Nat → Nat} {X : va_W} (G : GN) (S : GS) (hw : wf G) (he : encC G S) (x y : Int32) : Ct l D cy (wC cy hs X) yX1_reset cX1_reset 3 (some .int) 2 45 (S) [.ref (hs 0), .int x, .int y] (QI D (wC cy hs X) (fun r S' => r = F_reset x y ∧ encC (Tf_reset G x y) S')) := by
  refine Ct.of wC_adr (plainFor_of_name (by decide)) (Nat.le_of_ble_eq_true rfl) ?_
  intro p e s m below meth c ls C hl hG
  obtain ⟨hx, hb, hml, hown, hts, hr, hlk⟩ := C
  have hl : lv_has ls 3 [(0, .ref (hs 0)), (1, .int x), (2, .int y)] := hl
  refine lv_iload_n hx hb dX1_reset_0 rfl (lv_at hl 1 rfl) ?_
  refine lv_iconst (v := 3) hx hb dX1_reset_1 (by decide) ?_
  refine lv_bipush (v := 16) hx hb dX1_reset_2 (by decide) ?_
  refine g_stat (As := [.int x, .int 3, .int 16]) (rest := []) ⟨hx, hb, hml, hown, hts⟩ (kX1_inRange x 3 16) wyX1_inRange q152 hG ⟨by decide, by decide⟩ rfl rfl hl.1 (Nat.le_of_ble_eq_true rfl) ⟨Nat.le_refl 0, Nat.le_refl 0⟩ dX1_reset_4 (fun H locs hG => ?_)
  refine g_top (y := if inB x 3 16 then 1 else 0) (inR (a := 3) (b := 16) (by decide) (by decide)) ?_
  refine lv_if_eq (tgt := 20) hx hb dX1_reset_7 (by decide) (fun ca => ?_) (fun ca => ?_)
  · refine lv_bipush (v := (-4)) hx hb dX1_reset_20 (by decide) ?_
    exact g_iret hx hb hr hlk hG ⟨by unfold F_reset; rw [rB_eq, if_neg (fun q => ite10.mp ca (by rw [Bool.and_eq_true] at q; exact q.1))], by unfold Tf_reset; rw [rB_eq, if_neg (fun q => ite10.mp ca (by rw [Bool.and_eq_true] at q; exact q.1))]; exact he⟩ dX1_reset_22
  · refine lv_iload_n hx hb dX1_reset_10 rfl (lv_at hl 2 rfl) ?_
    refine lv_iconst (v := 3) hx hb dX1_reset_11 (by decide) ?_
    refine lv_bipush (v := 12) hx hb dX1_reset_12 (by decide) ?_
    refine g_stat (As := [.int y, .int 3, .int 12]) (rest := []) ⟨hx, hb, hml, hown, hts⟩ (kX1_inRange y 3 12) wyX1_inRange q152 hG ⟨by decide, by decide⟩ rfl rfl hl.1 (Nat.le_of_ble_eq_true rfl) ⟨Nat.le_refl 0, Nat.le_refl 0⟩ dX1_reset_14 (fun H locs hG => ?_)
    refine g_top (y := if inB y 3 12 then 1 else 0) (inR (a := 3) (b := 12) (by decide) (by decide)) ?_
    refine lv_if_ne (tgt := 23) hx hb dX1_reset_17 (by decide) (fun cb => ?_) (fun cb => ?_)
    · refine lv_aload_n hx hb dX1_reset_23 rfl (lv_at hl 0 rfl) ?_
      refine lv_iload_n hx hb dX1_reset_24 rfl (lv_at hl 1 rfl) ?_
      refine lv_iload_n hx hb dX1_reset_25 rfl (lv_at hl 2 rfl) ?_
      refine g_callv wC_adr hG (g_runV (As := [.int x, .int y]) (rest := []) ⟨hx, hb, hml, hown, hts⟩ wC_adr (kX1_startAnew S x y) wyX1_startAnew q98 hG 0 rfl rfl ⟨by decide, by decide⟩ rfl rfl hl.1 (Nat.le_of_ble_eq_true rfl) ⟨Nat.le_refl 0, Nat.le_refl 0⟩ dX1_reset_26) (fun S1 H locs hp hG => ?_)
      refine lv_iload_n hx hb dX1_reset_29 rfl (lv_at hl 1 rfl) ?_
      refine lv_iload_n hx hb dX1_reset_30 rfl (lv_at hl 2 rfl) ?_
      refine lv_imul hx hb dX1_reset_31 ?_
      have hrb : rB x y = true := by rw [rB_eq, Bool.and_eq_true]; exact ⟨Classical.byContradiction (fun q => ca (ite10.mpr q)), Classical.byContradiction (fun q => cb (ite10.mpr q))⟩
      have hrn := rB_n hrb
      exact g_iret hx hb hr hlk hG ⟨by unfold F_reset; rw [if_pos hrb], by unfold Tf_reset; rw [if_pos hrb]; rw [hrn.1, hrn.2.1] at hp; exact encC_new (by rw [← hrn.1, ← hrn.2.1] at hp ⊢; exact hp)⟩ dX1_reset_32
    · refine lv_bipush (v := (-4)) hx hb dX1_reset_20 (by decide) ?_
      exact g_iret hx hb hr hlk hG ⟨by unfold F_reset; rw [rB_eq, if_neg (fun q => ite10.mp cb (by rw [Bool.and_eq_true] at q; exact q.2))], by unfold Tf_reset; rw [rB_eq, if_neg (fun q => ite10.mp cb (by rw [Bool.and_eq_true] at q; exact q.2))]; exact he⟩ dX1_reset_22
set_option maxHeartbeats 4000000 in
set_option maxRecDepth 100000 in
theorem kX1_lay {l : Launch} {D : va_G} {cy : ClassId} {hs : Nat → Nat} {X : va_W} (G : GN) (S : GS) (hw : wf G) (he : encC G S) (x y k : Int32) : Ct l D cy (wC cy hs X) yX1_lay cX1_lay 7 (some .int) 2 45 (S) [.ref (hs 0), .int x, .int y, .int k] (QI D (wC cy hs X) (fun r S' => r = F_lay G x y k ∧ encC (Tf_lay G x y k) S')) := by
  refine Ct.of wC_adr (plainFor_of_name (by decide)) (Nat.le_of_ble_eq_true rfl) ?_
  intro p e s m below meth c ls C hl hG
  obtain ⟨hx, hb, hml, hown, hts, hr, hlk⟩ := C
  have hl : lv_has ls 7 [(0, .ref (hs 0)), (1, .int x), (2, .int y), (3, .int k)] := hl
  refine lv_aload_n hx hb dX1_lay_0 rfl (lv_at hl 0 rfl) ?_
  refine lv_iload_n hx hb dX1_lay_1 rfl (lv_at hl 1 rfl) ?_
  refine lv_iload_n hx hb dX1_lay_2 rfl (lv_at hl 2 rfl) ?_
  refine lv_iload_n hx hb dX1_lay_3 rfl (lv_at hl 3 rfl) ?_
  refine g_stat (As := [.int k]) (rest := [.int y, .int x, .ref (hs 0)]) ⟨hx, hb, hml, hown, hts⟩ (kX1_isPlaceKind k) wyX1_isPlaceKind q159 hG ⟨by decide, by decide⟩ rfl rfl hl.1 (Nat.le_of_ble_eq_true rfl) ⟨Nat.le_refl 0, Nat.le_refl 0⟩ dX1_lay_4 (fun H locs hG => ?_)
  refine g_top (y := if pkB k then 1 else 0) (pkE k) ?_
  refine g_calliE wC_adr hG (g_runV (As := [.int x, .int y, .int (if pkB k then 1 else 0)]) (rest := []) ⟨hx, hb, hml, hown, hts⟩ wC_adr (kX1_changeError S x y (if pkB k then 1 else 0) (he.ok hw)) wyX1_changeError q162 hG 0 rfl rfl ⟨by decide, by decide⟩ rfl rfl hl.1 (Nat.le_of_ble_eq_true rfl) ⟨Nat.le_refl 0, Nat.le_refl 0⟩ dX1_lay_7) (fun H locs hG => ?_)
  refine g_top (y := cErr G x y (pkB k)) (chErr hw he x y _) ?_
  refine lv_istore (lv' := [(4, .int (cErr G x y (pkB k))), (0, .ref (hs 0)), (1, .int x), (2, .int y), (3, .int k)]) hx hb dX1_lay_10 hl (by decide) rfl (fun ls hl => ?_)
  refine lv_iload hx hb dX1_lay_12 (lv_at hl 0 rfl) ?_
  refine lv_if_eq (tgt := 20) hx hb dX1_lay_14 (by decide) (fun c_e => ?_) (fun c_e => ?_)
  · obtain ⟨h1, h2, h3⟩ := cErr_0 c_e
    have hc := has_c hw h1
    refine lv_iload_n hx hb dX1_lay_20 rfl (lv_at hl 2 rfl) ?_
    refine lv_iload_n hx hb dX1_lay_21 rfl (lv_at hl 3 rfl) ?_
    refine g_stat (As := [.int x, .int y]) (rest := []) ⟨hx, hb, hml, hown, hts⟩ (kX1_cellAt x y) wyX1_cellAt q170 hG ⟨by decide, by decide⟩ rfl rfl hl.1 (Nat.le_of_ble_eq_true rfl) ⟨Nat.le_refl 0, Nat.le_refl 0⟩ dX1_lay_22 (fun H locs hG => ?_)
    refine g_top (y := nI (cN x y)) (cellC h1) ?_
    refine lv_istore (lv' := [(5, .int (nI (cN x y))), (4, .int (cErr G x y (pkB k))), (0, .ref (hs 0)), (1, .int x), (2, .int y), (3, .int k)]) hx hb dX1_lay_25 hl (by decide) rfl (fun ls hl => ?_)
    refine lv_aload_n hx hb dX1_lay_27 rfl (lv_at hl 2 rfl) ?_
    refine g_get hx hb hts hown hG inX1 0 rfl rfl 2 (by decide) q107 (v := .ref (hs 2)) rfl dX1_lay_28 ?_
    refine lv_iload hx hb dX1_lay_31 (lv_at hl 0 rfl) ?_
    refine g_aldN (f := S 2) hx hb hG 1 rfl (by decide) (cN x y) (rfl) (hc) dX1_lay_33 ?_
    refine g_top (y := nI (G 1 (cN x y))) (he.2.1 _ hc) ?_
    refine lv_istore (lv' := [(6, .int (nI (G 1 (cN x y)))), (5, .int (nI (cN x y))), (4, .int (cErr G x y (pkB k))), (0, .ref (hs 0)), (1, .int x), (2, .int y), (3, .int k)]) hx hb dX1_lay_34 hl (by decide) rfl (fun ls hl => ?_)
    refine lv_aload_n hx hb dX1_lay_36 rfl (lv_at hl 3 rfl) ?_
    refine lv_iload hx hb dX1_lay_37 (lv_at hl 1 rfl) ?_
    refine lv_iload_n hx hb dX1_lay_39 rfl (lv_at hl 6 rfl) ?_
    refine lv_iconst (v := 0) hx hb dX1_lay_40 (by decide) ?_
    refine g_callvE wC_adr hG (g_runV (As := [.int (nI (cN x y)), .int k, .int 0]) (rest := []) ⟨hx, hb, hml, hown, hts⟩ wC_adr (kX1_setCell S (cN x y) k 0 hc) wyX1_setCell q173 hG 0 rfl rfl ⟨by decide, by decide⟩ rfl rfl hl.1 (Nat.le_of_ble_eq_true rfl) ⟨Nat.le_refl 0, Nat.le_refl 0⟩ dX1_lay_41) (fun H locs hG => ?_)
    refine lv_iload hx hb dX1_lay_44 (lv_at hl 0 rfl) ?_
    exact g_iret hx hb hr hlk hG ⟨by unfold F_lay; rw [if_pos c_e], by unfold Tf_lay; rw [if_pos c_e]; exact encC_set he (pkB_n h2).1 rfl⟩ dX1_lay_46
  · refine lv_iload hx hb dX1_lay_17 (lv_at hl 0 rfl) ?_
    exact g_iret hx hb hr hlk hG ⟨by unfold F_lay; rw [if_neg c_e], by unfold Tf_lay; rw [if_neg c_e]; exact he⟩ dX1_lay_19
set_option maxHeartbeats 4000000 in
set_option maxRecDepth 100000 in
theorem kX1_plant {l : Launch} {D : va_G} {cy : ClassId} {hs : Nat → Nat} {X : va_W} (G : GN) (S : GS) (hw : wf G) (he : encC G S) (x y h : Int32) : Ct l D cy (wC cy hs X) yX1_plant cX1_plant 7 (some .int) 2 45 (S) [.ref (hs 0), .int x, .int y, .int h] (QI D (wC cy hs X) (fun r S' => r = F_plant G x y h ∧ encC (Tf_plant G x y h) S')) := by
  refine Ct.of wC_adr (plainFor_of_name (by decide)) (Nat.le_of_ble_eq_true rfl) ?_
  intro p e s m below meth c ls C hl hG
  obtain ⟨hx, hb, hml, hown, hts, hr, hlk⟩ := C
  have hl : lv_has ls 7 [(0, .ref (hs 0)), (1, .int x), (2, .int y), (3, .int h)] := hl
  refine lv_aload_n hx hb dX1_plant_0 rfl (lv_at hl 0 rfl) ?_
  refine lv_iload_n hx hb dX1_plant_1 rfl (lv_at hl 1 rfl) ?_
  refine lv_iload_n hx hb dX1_plant_2 rfl (lv_at hl 2 rfl) ?_
  refine lv_iload_n hx hb dX1_plant_3 rfl (lv_at hl 3 rfl) ?_
  refine lv_iconst (v := 1) hx hb dX1_plant_4 (by decide) ?_
  refine lv_bipush (v := 40) hx hb dX1_plant_5 (by decide) ?_
  refine g_stat (As := [.int h, .int 1, .int 40]) (rest := [.int y, .int x, .ref (hs 0)]) ⟨hx, hb, hml, hown, hts⟩ (kX1_inRange h 1 40) wyX1_inRange q152 hG ⟨by decide, by decide⟩ rfl rfl hl.1 (Nat.le_of_ble_eq_true rfl) ⟨Nat.le_refl 0, Nat.le_refl 0⟩ dX1_plant_7 (fun H locs hG => ?_)
  refine g_top (y := if inB h 1 40 then 1 else 0) (inR (a := 1) (b := 40) (by decide) (by decide)) ?_
  refine g_calliE wC_adr hG (g_runV (As := [.int x, .int y, .int (if inB h 1 40 then 1 else 0)]) (rest := []) ⟨hx, hb, hml, hown, hts⟩ wC_adr (kX1_changeError S x y (if inB h 1 40 then 1 else 0) (he.ok hw)) wyX1_changeError q162 hG 0 rfl rfl ⟨by decide, by decide⟩ rfl rfl hl.1 (Nat.le_of_ble_eq_true rfl) ⟨Nat.le_refl 0, Nat.le_refl 0⟩ dX1_plant_10) (fun H locs hG => ?_)
  refine g_top (y := cErr G x y (inB h 1 40)) (chErr hw he x y _) ?_
  refine lv_istore (lv' := [(4, .int (cErr G x y (inB h 1 40))), (0, .ref (hs 0)), (1, .int x), (2, .int y), (3, .int h)]) hx hb dX1_plant_13 hl (by decide) rfl (fun ls hl => ?_)
  refine lv_iload hx hb dX1_plant_15 (lv_at hl 0 rfl) ?_
  refine lv_if_eq (tgt := 23) hx hb dX1_plant_17 (by decide) (fun c_e => ?_) (fun c_e => ?_)
  · obtain ⟨h1, h2, h3⟩ := cErr_0 c_e
    have hc := has_c hw h1
    refine lv_iload_n hx hb dX1_plant_23 rfl (lv_at hl 2 rfl) ?_
    refine lv_iload_n hx hb dX1_plant_24 rfl (lv_at hl 3 rfl) ?_
    refine g_stat (As := [.int x, .int y]) (rest := []) ⟨hx, hb, hml, hown, hts⟩ (kX1_cellAt x y) wyX1_cellAt q170 hG ⟨by decide, by decide⟩ rfl rfl hl.1 (Nat.le_of_ble_eq_true rfl) ⟨Nat.le_refl 0, Nat.le_refl 0⟩ dX1_plant_25 (fun H locs hG => ?_)
    refine g_top (y := nI (cN x y)) (cellC h1) ?_
    refine lv_istore (lv' := [(5, .int (nI (cN x y))), (4, .int (cErr G x y (inB h 1 40))), (0, .ref (hs 0)), (1, .int x), (2, .int y), (3, .int h)]) hx hb dX1_plant_28 hl (by decide) rfl (fun ls hl => ?_)
    refine lv_aload_n hx hb dX1_plant_30 rfl (lv_at hl 2 rfl) ?_
    refine g_get hx hb hts hown hG inX1 0 rfl rfl 3 (by decide) q108 (v := .ref (hs 3)) rfl dX1_plant_31 ?_
    refine lv_iload hx hb dX1_plant_34 (lv_at hl 0 rfl) ?_
    refine g_aldN (f := S 3) hx hb hG 2 rfl (by decide) (cN x y) (rfl) (hc) dX1_plant_36 ?_
    refine g_top (y := nI (G 2 (cN x y))) (he.2.2.1 _ hc) ?_
    refine lv_istore (lv' := [(6, .int (nI (G 2 (cN x y)))), (5, .int (nI (cN x y))), (4, .int (cErr G x y (inB h 1 40))), (0, .ref (hs 0)), (1, .int x), (2, .int y), (3, .int h)]) hx hb dX1_plant_37 hl (by decide) rfl (fun ls hl => ?_)
    refine lv_aload_n hx hb dX1_plant_39 rfl (lv_at hl 3 rfl) ?_
    refine lv_iload hx hb dX1_plant_40 (lv_at hl 1 rfl) ?_
    refine lv_iconst (v := 2) hx hb dX1_plant_42 (by decide) ?_
    refine lv_iload_n hx hb dX1_plant_43 rfl (lv_at hl 6 rfl) ?_
    refine g_callvE wC_adr hG (g_runV (As := [.int (nI (cN x y)), .int 2, .int h]) (rest := []) ⟨hx, hb, hml, hown, hts⟩ wC_adr (kX1_setCell S (cN x y) 2 h hc) wyX1_setCell q173 hG 0 rfl rfl ⟨by decide, by decide⟩ rfl rfl hl.1 (Nat.le_of_ble_eq_true rfl) ⟨Nat.le_refl 0, Nat.le_refl 0⟩ dX1_plant_44) (fun H locs hG => ?_)
    refine lv_iload hx hb dX1_plant_47 (lv_at hl 0 rfl) ?_
    exact g_iret hx hb hr hlk hG ⟨by unfold F_plant; rw [if_pos c_e], by unfold Tf_plant; rw [if_pos c_e]; exact encC_set he rfl (inB_n h2).1⟩ dX1_plant_49
  · refine lv_iload hx hb dX1_plant_20 (lv_at hl 0 rfl) ?_
    exact g_iret hx hb hr hlk hG ⟨by unfold F_plant; rw [if_neg c_e], by unfold Tf_plant; rw [if_neg c_e]; exact he⟩ dX1_plant_22
set_option maxHeartbeats 4000000 in
set_option maxRecDepth 100000 in
theorem kX1_kind {l : Launch} {D : va_G} {cy : ClassId} {hs : Nat → Nat} {X : va_W} (G : GN) (S : GS) (hw : wf G) (he : encC G S) (x y : Int32) : Ct l D cy (wC cy hs X) yX1_kind cX1_kind 3 (some .int) 1 22 (S) [.ref (hs 0), .int x, .int y] (QI D (wC cy hs X) (fun r S' => r = F_kind G x y ∧ fr13 S S')) := by
  refine Ct.of wC_adr (plainFor_of_name (by decide)) (Nat.le_of_ble_eq_true rfl) ?_
  intro p e s m below meth c ls C hl hG
  obtain ⟨hx, hb, hml, hown, hts, hr, hlk⟩ := C
  have hl : lv_has ls 3 [(0, .ref (hs 0)), (1, .int x), (2, .int y)] := hl
  refine lv_aload_n hx hb dX1_kind_0 rfl (lv_at hl 0 rfl) ?_
  refine lv_iload_n hx hb dX1_kind_1 rfl (lv_at hl 1 rfl) ?_
  refine lv_iload_n hx hb dX1_kind_2 rfl (lv_at hl 2 rfl) ?_
  refine g_calliE wC_adr hG (g_runV (As := [.int x, .int y]) (rest := []) ⟨hx, hb, hml, hown, hts⟩ wC_adr (kX1_hasCell S x y) wyX1_hasCell q166 hG 0 rfl rfl ⟨by decide, by decide⟩ rfl rfl hl.1 (Nat.le_of_ble_eq_true rfl) ⟨Nat.le_refl 0, Nat.le_refl 0⟩ dX1_kind_3) (fun H locs hG => ?_)
  refine g_top (y := if hasB G x y then 1 else 0) (hasC hw he x y) ?_
  refine lv_if_eq (tgt := 22) hx hb dX1_kind_6 (by decide) (fun c_e => ?_) (fun c_e => ?_)
  · refine lv_iconst (v := (-1)) hx hb dX1_kind_22 (by decide) ?_
    exact g_iret hx hb hr hlk hG ⟨by unfold F_kind; rw [if_neg (ite10.mp c_e)], fr13.rf⟩ dX1_kind_23
  · have h1 : hasB G x y = true := Classical.byContradiction (fun q => c_e (ite10.mpr q))
    have hc := has_c hw h1
    refine lv_aload_n hx hb dX1_kind_9 rfl (lv_at hl 0 rfl) ?_
    refine g_get hx hb hts hown hG inX1 0 rfl rfl 2 (by decide) q107 (v := .ref (hs 2)) rfl dX1_kind_10 ?_
    refine lv_iload_n hx hb dX1_kind_13 rfl (lv_at hl 1 rfl) ?_
    refine lv_iload_n hx hb dX1_kind_14 rfl (lv_at hl 2 rfl) ?_
    refine g_stat (As := [.int x, .int y]) (rest := [.ref (hs 2)]) ⟨hx, hb, hml, hown, hts⟩ (kX1_cellAt x y) wyX1_cellAt q170 hG ⟨by decide, by decide⟩ rfl rfl hl.1 (Nat.le_of_ble_eq_true rfl) ⟨Nat.le_refl 0, Nat.le_refl 0⟩ dX1_kind_15 (fun H locs hG => ?_)
    refine g_top (y := nI (cN x y)) (cellC h1) ?_
    refine g_aldN (f := S 2) hx hb hG 1 rfl (by decide) (cN x y) (rfl) (hc) dX1_kind_18 ?_
    refine g_top (y := nI (G 1 (cN x y))) (he.2.1 _ hc) ?_
    refine lv_goto (tgt := 23) hx hb dX1_kind_19 (by decide) ?_
    exact g_iret hx hb hr hlk hG ⟨by unfold F_kind; rw [if_pos h1], fr13.rf⟩ dX1_kind_23
set_option maxHeartbeats 4000000 in
set_option maxRecDepth 100000 in
theorem kX1_height {l : Launch} {D : va_G} {cy : ClassId} {hs : Nat → Nat} {X : va_W} (G : GN) (S : GS) (hw : wf G) (he : encC G S) (x y : Int32) : Ct l D cy (wC cy hs X) yX1_height cX1_height 3 (some .int) 1 22 (S) [.ref (hs 0), .int x, .int y] (QI D (wC cy hs X) (fun r S' => r = F_height G x y ∧ fr13 S S')) := by
  refine Ct.of wC_adr (plainFor_of_name (by decide)) (Nat.le_of_ble_eq_true rfl) ?_
  intro p e s m below meth c ls C hl hG
  obtain ⟨hx, hb, hml, hown, hts, hr, hlk⟩ := C
  have hl : lv_has ls 3 [(0, .ref (hs 0)), (1, .int x), (2, .int y)] := hl
  refine lv_aload_n hx hb dX1_height_0 rfl (lv_at hl 0 rfl) ?_
  refine lv_iload_n hx hb dX1_height_1 rfl (lv_at hl 1 rfl) ?_
  refine lv_iload_n hx hb dX1_height_2 rfl (lv_at hl 2 rfl) ?_
  refine g_calliE wC_adr hG (g_runV (As := [.int x, .int y]) (rest := []) ⟨hx, hb, hml, hown, hts⟩ wC_adr (kX1_hasCell S x y) wyX1_hasCell q166 hG 0 rfl rfl ⟨by decide, by decide⟩ rfl rfl hl.1 (Nat.le_of_ble_eq_true rfl) ⟨Nat.le_refl 0, Nat.le_refl 0⟩ dX1_height_3) (fun H locs hG => ?_)
  refine g_top (y := if hasB G x y then 1 else 0) (hasC hw he x y) ?_
  refine lv_if_eq (tgt := 22) hx hb dX1_height_6 (by decide) (fun c_e => ?_) (fun c_e => ?_)
  · refine lv_iconst (v := (-1)) hx hb dX1_height_22 (by decide) ?_
    exact g_iret hx hb hr hlk hG ⟨by unfold F_height; rw [if_neg (ite10.mp c_e)], fr13.rf⟩ dX1_height_23
  · have h1 : hasB G x y = true := Classical.byContradiction (fun q => c_e (ite10.mpr q))
    have hc := has_c hw h1
    refine lv_aload_n hx hb dX1_height_9 rfl (lv_at hl 0 rfl) ?_
    refine g_get hx hb hts hown hG inX1 0 rfl rfl 3 (by decide) q108 (v := .ref (hs 3)) rfl dX1_height_10 ?_
    refine lv_iload_n hx hb dX1_height_13 rfl (lv_at hl 1 rfl) ?_
    refine lv_iload_n hx hb dX1_height_14 rfl (lv_at hl 2 rfl) ?_
    refine g_stat (As := [.int x, .int y]) (rest := [.ref (hs 3)]) ⟨hx, hb, hml, hown, hts⟩ (kX1_cellAt x y) wyX1_cellAt q170 hG ⟨by decide, by decide⟩ rfl rfl hl.1 (Nat.le_of_ble_eq_true rfl) ⟨Nat.le_refl 0, Nat.le_refl 0⟩ dX1_height_15 (fun H locs hG => ?_)
    refine g_top (y := nI (cN x y)) (cellC h1) ?_
    refine g_aldN (f := S 3) hx hb hG 2 rfl (by decide) (cN x y) (rfl) (hc) dX1_height_18 ?_
    refine g_top (y := nI (G 2 (cN x y))) (he.2.2.1 _ hc) ?_
    refine lv_goto (tgt := 23) hx hb dX1_height_19 (by decide) ?_
    exact g_iret hx hb hr hlk hG ⟨by unfold F_height; rw [if_pos h1], fr13.rf⟩ dX1_height_23
set_option maxHeartbeats 4000000 in
set_option maxRecDepth 100000 in
theorem kX1_countHedges {l : Launch} {D : va_G} {cy : ClassId} {hs : Nat → Nat} {X : va_W} (G : GN) (S : GS) (hw : wf G) (he : encC G S) : Ct l D cy (wC cy hs X) yX1_countHedges cX1_countHedges 6 (some .int) 0 0 (S) [.ref (hs 0)] (QI D (wC cy hs X) (exI (nI (cntB (hdB G) 192)) S)) := by
  refine Ct.of wC_adr (plainFor_of_name (by decide)) (Nat.le_of_ble_eq_true rfl) ?_
  intro p e s m below meth c ls C hl hG
  obtain ⟨hx, hb, hml, hown, hts, hr, hlk⟩ := C
  have hl : lv_has ls 6 [(0, .ref (hs 0))] := hl
  refine lv_iconst (v := 0) hx hb dX1_countHedges_0 (by decide) ?_
  refine lv_istore_n (lv' := [(1, .int 0), (0, .ref (hs 0))]) hx hb dX1_countHedges_1 rfl hl (by decide) rfl (fun ls hl => ?_)
  refine lv_aload_n hx hb dX1_countHedges_2 rfl (lv_at hl 1 rfl) ?_
  refine g_get hx hb hts hown hG inX1 0 rfl rfl 2 (by decide) q107 (v := .ref (hs 2)) rfl dX1_countHedges_3 ?_
  refine lv_astore_n (lv' := [(2, .ref (hs 2)), (1, .int 0), (0, .ref (hs 0))]) hx hb dX1_countHedges_6 rfl hl (by decide) rfl (fun ls hl => ?_)
  refine lv_aload_n hx hb dX1_countHedges_7 rfl (lv_at hl 0 rfl) ?_
  refine g_alen hx hb hG 1 rfl dX1_countHedges_8 ?_
  refine lv_istore_n (lv' := [(3, .int (nI 192)), (2, .ref (hs 2)), (1, .int 0), (0, .ref (hs 0))]) hx hb dX1_countHedges_9 rfl hl (by decide) rfl (fun ls hl => ?_)
  refine lv_iconst (v := 0) hx hb dX1_countHedges_10 (by decide) ?_
  refine lv_istore (lv' := [(4, .int 0), (3, .int (nI 192)), (2, .ref (hs 2)), (1, .int 0), (0, .ref (hs 0))]) hx hb dX1_countHedges_11 hl (by decide) rfl (fun ls hl => ?_)
  refine g_rec (τ := Nat) (fun j S9 => j ≤ 192 ∧ S9 = S) (fun j => 200 - j) (fun j => [(0, .ref (hs 0)), (1, .int (nI (cntB (hdB G) j))), (2, .ref (hs 2)), (3, .int (nI 192)), (4, .int (nI j))]) 13 6 ?_ 0 _ _ _ _ (⟨by decide, rfl⟩) hG (lv_sub hl [4, 3, 2, 1, 0] (rfl))
  intro x9 S9 H locs ls hI hG hl ih
  obtain ⟨hj, hS9⟩ := hI
  replace hG := hG.st hS9
  refine lv_iload hx hb dX1_countHedges_13 (lv_at hl 4 rfl) ?_
  refine lv_iload_n hx hb dX1_countHedges_15 rfl (lv_at hl 3 rfl) ?_
  refine lv_icmp_ge (tgt := 40) hx hb dX1_countHedges_16 (by decide) (fun c16 => ?_) (fun c16 => ?_)
  · have hjl : 192 ≤ x9 := (nI_leI (by omega) (by omega)).mp c16
    refine lv_iload_n hx hb dX1_countHedges_40 rfl (lv_at hl 1 rfl) ?_
    exact g_iret hx hb hr hlk hG (⟨by rw [show x9 = 192 by omega], rfl⟩) dX1_countHedges_41
  · have hjl : x9 < 192 := Nat.lt_of_not_le (fun q => c16 (nI_le q (by omega)))
    refine lv_aload_n hx hb dX1_countHedges_19 rfl (lv_at hl 2 rfl) ?_
    refine lv_iload hx hb dX1_countHedges_20 (lv_at hl 4 rfl) ?_
    refine g_aldN (f := S 2) hx hb hG 1 rfl (by decide) (x9) (rfl) (hjl) dX1_countHedges_22 ?_
    refine g_top (y := nI (G 1 x9)) (he.2.1 x9 hjl) ?_
    refine lv_istore (lv' := [(5, .int (nI (G 1 x9))), (0, .ref (hs 0)), (1, .int (nI (cntB (hdB G) x9))), (2, .ref (hs 2)), (3, .int (nI 192)), (4, .int (nI x9))]) hx hb dX1_countHedges_23 hl (by decide) rfl (fun ls hl => ?_)
    refine lv_iload hx hb dX1_countHedges_25 (lv_at hl 0 rfl) ?_
    refine lv_iconst (v := 2) hx hb dX1_countHedges_27 (by decide) ?_
    refine lv_icmp_ne (tgt := 34) hx hb dX1_countHedges_28 (by decide) (fun c28 => ?_) (fun c28 => ?_)
    · refine lv_iinc (v := nI (x9 + 1)) (lv' := [(4, .int (nI (x9 + 1))), (5, .int (nI (G 1 x9))), (0, .ref (hs 0)), (1, .int (nI (cntB (hdB G) x9))), (2, .ref (hs 2)), (3, .int (nI 192))]) hx hb dX1_countHedges_34 hl (k := 5) rfl (nI_1 x9) (by decide) rfl (fun ls hl => ?_)
      refine lv_goto (tgt := 13) hx hb dX1_countHedges_37 (by decide) ?_
      have e9 : hdB G x9 = false := decide_eq_false (fun q => c28 (by rw [q]; rfl))
      exact ih (x9 + 1) _ _ _ _ (by omega) ⟨by omega, rfl⟩ hG (lv_sub hl [2, 3, 4, 5, 0] (by show lv_pick _ _ = [_, (1, .int (nI (cntB (hdB G) x9 + (if hdB G x9 then 1 else 0)))), _, _, _]; rw [e9]; rfl))
    · refine lv_iinc (v := nI ((cntB (hdB G) x9) + 1)) (lv' := [(1, .int (nI ((cntB (hdB G) x9) + 1))), (5, .int (nI (G 1 x9))), (0, .ref (hs 0)), (2, .ref (hs 2)), (3, .int (nI 192)), (4, .int (nI x9))]) hx hb dX1_countHedges_31 hl (k := 2) rfl (nI_1 (cntB (hdB G) x9)) (by decide) rfl (fun ls hl => ?_)
      refine lv_iinc (v := nI (x9 + 1)) (lv' := [(4, .int (nI (x9 + 1))), (1, .int (nI ((cntB (hdB G) x9) + 1))), (5, .int (nI (G 1 x9))), (0, .ref (hs 0)), (2, .ref (hs 2)), (3, .int (nI 192))]) hx hb dX1_countHedges_34 hl (k := 5) rfl (nI_1 x9) (by decide) rfl (fun ls hl => ?_)
      refine lv_goto (tgt := 13) hx hb dX1_countHedges_37 (by decide) ?_
      have e9 : hdB G x9 = true := decide_eq_true ((nI_eq (b := 2) (by have := (hw.c hjl).1; omega) (by decide)).mp c28)
      exact ih (x9 + 1) _ _ _ _ (by omega) ⟨by omega, rfl⟩ hG (lv_sub hl [3, 1, 4, 5, 0] (by show lv_pick _ _ = [_, (1, .int (nI (cntB (hdB G) x9 + (if hdB G x9 then 1 else 0)))), _, _, _]; rw [e9]; rfl))
set_option maxHeartbeats 4000000 in
set_option maxRecDepth 100000 in
theorem kX1_count {l : Launch} {D : va_G} {cy : ClassId} {hs : Nat → Nat} {X : va_W} (G : GN) (S : GS) (hw : wf G) (he : encC G S) (w9 : Int32) : Ct l D cy (wC cy hs X) yX1_count cX1_count 2 (some .int) 1 25 (S) [.ref (hs 0), .int w9] (QI D (wC cy hs X) (exI (F_count G w9) S)) := by
  refine Ct.of wC_adr (plainFor_of_name (by decide)) (Nat.le_of_ble_eq_true rfl) ?_
  intro p e s m below meth c ls C hl hG
  obtain ⟨hx, hb, hml, hown, hts, hr, hlk⟩ := C
  have hl : lv_has ls 2 [(0, .ref (hs 0)), (1, .int w9)] := hl
  refine lv_iload_n hx hb dX1_count_0 rfl (lv_at hl 1 rfl) ?_
  by_cases h0 : w9 = 0
  · subst h0
    refine lv_tableIn (tgt := 32) hx hb dX1_count_1 (by decide) (by decide) rfl (by decide) ?_
    refine lv_aload_n hx hb dX1_count_32 rfl (lv_at hl 0 rfl) ?_
    refine g_get hx hb hts hown hG inX1 0 rfl rfl 4 (by decide) q109 (v := .int (S 0 4)) rfl dX1_count_33 ?_
    exact g_iret hx hb hr hlk hG ⟨he.1.2.2.1, rfl⟩ dX1_count_36
  by_cases h1 : w9 = 1
  · subst h1
    refine lv_tableIn (tgt := 37) hx hb dX1_count_1 (by decide) (by decide) rfl (by decide) ?_
    refine lv_aload_n hx hb dX1_count_37 rfl (lv_at hl 0 rfl) ?_
    refine g_calliE wC_adr hG (g_runV (As := []) (rest := []) ⟨hx, hb, hml, hown, hts⟩ wC_adr (kX1_countHedges G S hw he) wyX1_countHedges q197 hG 0 rfl rfl ⟨by decide, by decide⟩ rfl rfl hl.1 (Nat.le_of_ble_eq_true rfl) ⟨Nat.le_refl 0, Nat.le_refl 0⟩ dX1_count_38) (fun H locs hG => ?_)
    exact g_iret hx hb hr hlk hG ⟨rfl, rfl⟩ dX1_count_41
  by_cases h2 : w9 = 2
  · subst h2
    refine lv_tableIn (tgt := 42) hx hb dX1_count_1 (by decide) (by decide) rfl (by decide) ?_
    refine lv_aload_n hx hb dX1_count_42 rfl (lv_at hl 0 rfl) ?_
    refine g_get hx hb hts hown hG inX1 0 rfl rfl 7 (by decide) q112 (v := .int (S 0 7)) rfl dX1_count_43 ?_
    exact g_iret hx hb hr hlk hG ⟨he.1.2.2.2.1, rfl⟩ dX1_count_46
  by_cases h3 : w9 = 3
  · subst h3
    refine lv_tableIn (tgt := 47) hx hb dX1_count_1 (by decide) (by decide) rfl (by decide) ?_
    refine lv_aload_n hx hb dX1_count_47 rfl (lv_at hl 0 rfl) ?_
    refine g_get hx hb hts hown hG inX1 0 rfl rfl 9 (by decide) q114 (v := .int (S 0 9)) rfl dX1_count_48 ?_
    exact g_iret hx hb hr hlk hG ⟨he.1.2.2.2.2, rfl⟩ dX1_count_51
  have hd : w9.toInt < 0 ∨ 3 < w9.toInt := by
    have q0 : w9.toInt ≠ 0 := fun q => h0 (Int32.toInt_inj.mp (by rw [q]; decide))
    have q1 : w9.toInt ≠ 1 := fun q => h1 (Int32.toInt_inj.mp (by rw [q]; decide))
    have q2 : w9.toInt ≠ 2 := fun q => h2 (Int32.toInt_inj.mp (by rw [q]; decide))
    have q3 : w9.toInt ≠ 3 := fun q => h3 (Int32.toInt_inj.mp (by rw [q]; decide))
    omega
  refine lv_tableOut (tgt := 52) hx hb dX1_count_1 hd (by decide) ?_
  refine lv_bipush (v := (-4)) hx hb dX1_count_52 (by decide) ?_
  exact g_iret hx hb hr hlk hG ⟨by unfold F_count; rw [if_neg h0, if_neg h1, if_neg h2, if_neg h3], rfl⟩ dX1_count_54
