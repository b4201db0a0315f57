/-! ===== the reference: what is seen ===== -/
theorem no01 {b : Bool} : (if b = true then (0 : Int32) else 1) = 0 ↔ b = true := by cases b <;> decide
theorem see_I {G : GN} {Hh : Nat → Nat} {p k : Nat} : (if nI (cntB (blk G Hh p k) 192) = 0 then (1 : Int32) else 0) = if visB G Hh p k then 1 else 0 := by
  by_cases g : visB G Hh p k = true
  · rw [if_pos g, if_pos (vis_0.mpr g)]
  · rw [if_neg g, if_neg (fun q => g (vis_0.mp q))]
theorem op_I {b : Nat → Bool} {a : Int32} : (if nI (cntB b 192) = 1 then a else -7) = if cntB b 192 = 1 then a else -7 := by
  have h192 := cntB_le b 192
  by_cases g : cntB b 192 = 1
  · rw [if_pos g, if_pos (by rw [g]; rfl)]
  · rw [if_neg g, if_neg (show ¬ nI (cntB b 192) = 1 from fun q => g ((nI_eq (b := 1) (by omega) (by decide)).mp q))]
set_option maxHeartbeats 4000000 in
set_option maxRecDepth 100000 in
theorem kX2_takeHeights {l : Launch} {D : va_G} {cy : ClassId} {hs : Nat → Nat} {X : va_W} (G : GN) (S : GS) (hw : wf G) (he : encM G S) : Ct l D cy (wM cy hs X) yX2_takeHeights cX2_takeHeights 2 none 0 0 (S) [.ref (hs 0)] (QV D (wM cy hs X) (fun S' => LkM G (G 2) S' ∧ frB 17 S S')) := by
  refine Ct.of wM_adr (plainFor_of_name (by decide)) (Nat.le_of_ble_eq_true rfl) ?_
  intro p e s m below meth c ls C hl hG
  obtain ⟨hx, hb, hml, hown, hts, hr, hlk⟩ := C
  have hl : lv_has ls 2 [(0, .ref (hs 0))] := hl
  refine lv_iconst (v := 0) hx hb dX2_takeHeights_0 (by decide) ?_
  refine lv_istore_n (lv' := [(1, .int 0), (0, .ref (hs 0))]) hx hb dX2_takeHeights_1 rfl hl (by decide) rfl (fun ls hl => ?_)
  refine g_rec (τ := Nat) (fun j S9 => j ≤ 192 ∧ (∀ c, c < j → S9 17 c = nI (LK G (G 2) c)) ∧ frB 17 S S9) (fun j => 200 - j) (fun j => [(0, .ref (hs 0)), (1, .int (nI j))]) 2 2 ?_ 0 _ _ _ _ (⟨by decide, fun c hc => absurd hc (by omega), frB.rf⟩) hG (lv_sub hl [1, 0] (rfl))
  intro x9 S9 H locs ls hI hG hl ih
  obtain ⟨hj, hA, hfr⟩ := hI
  have he9 := he.fb (Or.inl rfl) hfr
  refine lv_iload_n hx hb dX2_takeHeights_2 rfl (lv_at hl 1 rfl) ?_
  refine lv_sipush (v := 192) hx hb dX2_takeHeights_3 (by decide) ?_
  refine lv_icmp_ge (tgt := 41) hx hb dX2_takeHeights_6 (by decide) (fun c6 => ?_) (fun c6 => ?_)
  · have hjl : 192 ≤ x9 := (nI_leI (a := 192) (by omega) (by omega)).mp c6
    exact g_vret hx hb hr hlk hG (⟨fun c hc => hA c (by omega), hfr⟩) dX2_takeHeights_41
  · have hjl : x9 < 192 := Nat.lt_of_not_le (fun q => c6 (nI_le (a := 192) q (by omega)))
    refine lv_aload_n hx hb dX2_takeHeights_9 rfl (lv_at hl 0 rfl) ?_
    refine g_get hx hb hts hown hG inX2 0 rfl rfl 17 (by decide) q409 (v := .ref (hs 17)) rfl dX2_takeHeights_10 ?_
    refine lv_iload_n hx hb dX2_takeHeights_13 rfl (lv_at hl 1 rfl) ?_
    refine lv_aload_n hx hb dX2_takeHeights_14 rfl (lv_at hl 0 rfl) ?_
    refine g_get hx hb hts hown hG inX2 0 rfl rfl 2 (by decide) q394 (v := .ref (hs 2)) rfl dX2_takeHeights_15 ?_
    refine lv_iload_n hx hb dX2_takeHeights_18 rfl (lv_at hl 1 rfl) ?_
    refine g_aldN (f := S9 2) hx hb hG 1 rfl (by decide) (x9) (rfl) (hjl) dX2_takeHeights_19 ?_
    refine g_top (y := nI (G 1 x9)) (he9.2.1 _ hjl) ?_
    refine lv_iconst (v := 2) hx hb dX2_takeHeights_20 (by decide) ?_
    refine g_dia (P := nI (G 1 x9) = 2) (J := 34) (A9 := nI (G 2 x9)) (B9 := 0) (ls9 := ls) (rest9 := [.int (nI x9), .ref (hs 17)]) (fun ka2 kb3 => ?_) ?_
    · refine lv_icmp_ne (tgt := 33) hx hb dX2_takeHeights_21 (by decide) (fun c1 => ?_) (fun c1 => ?_)
      · refine lv_iconst (v := 0) hx hb dX2_takeHeights_33 (by decide) ?_
        exact kb3 c1
      · refine lv_aload_n hx hb dX2_takeHeights_24 rfl (lv_at hl 0 rfl) ?_
        refine g_get hx hb hts hown hG inX2 0 rfl rfl 3 (by decide) q395 (v := .ref (hs 3)) rfl dX2_takeHeights_25 ?_
        refine lv_iload_n hx hb dX2_takeHeights_28 rfl (lv_at hl 1 rfl) ?_
        refine g_aldN (f := S9 3) hx hb hG 2 rfl (by decide) (x9) (rfl) (hjl) dX2_takeHeights_29 ?_
        refine g_top (y := nI (G 2 x9)) (he9.2.2.1 _ hjl) ?_
        refine lv_goto (tgt := 34) hx hb dX2_takeHeights_30 (by decide) ?_
        exact ka2 c1
    refine g_top (y := nI (LK G (G 2) x9)) (lk_I hw hjl) ?_
    refine g_astN (f := S9 17) hx hb hG 6 rfl (by decide) (x9) (rfl) (hjl) (up2 S9 17 x9 (nI (LK G (G 2) x9))) (rfl) dX2_takeHeights_34 (fun H locs hG => ?_)
    refine lv_iinc (v := nI (x9 + 1)) (lv' := [(1, .int (nI (x9 + 1))), (0, .ref (hs 0))]) hx hb dX2_takeHeights_35 hl (k := 1) rfl (nI_1 x9) (by decide) rfl (fun ls hl => ?_)
    refine lv_goto (tgt := 2) hx hb dX2_takeHeights_38 (by decide) ?_
    refine ih (x9 + 1) _ _ _ _ (by omega) ⟨by omega, fun c hc => ?_, fun j hj => by rw [up2_ne _ _ _ _ hj]; exact hfr j hj⟩ hG (lv_sub hl [1, 0] rfl)
    rw [up2_eq]
    unfold upd
    by_cases g : c = x9
    · rw [if_pos g, g]
    · rw [if_neg g]; exact hA c (by omega)
set_option maxHeartbeats 4000000 in
set_option maxRecDepth 100000 in
theorem kX2_blockersNow {l : Launch} {D : va_G} {cy : ClassId} {hs : Nat → Nat} {X : va_W} (G : GN) (S : GS) (hw : wf G) (he : encM G S) (Hh : Nat → Nat) (hL : LkM G Hh S) (hH9 : ∀ c, c < 192 → Hh c ≤ 60) (p9 k : Nat) (hp : p9 < 192) (hk : k < G 0 2) (y7 y8 : Int32) : Ct l D cy (wM cy hs X) yX2_blockersNow cX2_blockersNow 3 (some .int) 4 92 (sm S (lkG G p9 k y7 y8)) [.ref (hs 0)] (QI D (wM cy hs X) (fun r S' => r = nI (cntB (blk G Hh p9 k) 192) ∧ ∃ x7 x8, S' = sm S (lkG G p9 k x7 x8))) := by
  refine Ct.of wM_adr (plainFor_of_name (by decide)) (Nat.le_of_ble_eq_true rfl) ?_
  intro p e s m below meth c ls C hl hG
  obtain ⟨hx, hb, hml, hown, hts, hr, hlk⟩ := C
  have hl : lv_has ls 3 [(0, .ref (hs 0))] := hl
  refine lv_iconst (v := 0) hx hb dX2_blockersNow_0 (by decide) ?_
  refine lv_istore_n (lv' := [(1, .int 0), (0, .ref (hs 0))]) hx hb dX2_blockersNow_1 rfl hl (by decide) rfl (fun ls hl => ?_)
  refine lv_iconst (v := 0) hx hb dX2_blockersNow_2 (by decide) ?_
  refine lv_istore_n (lv' := [(2, .int 0), (1, .int 0), (0, .ref (hs 0))]) hx hb dX2_blockersNow_3 rfl hl (by decide) rfl (fun ls hl => ?_)
  refine g_rec (τ := Nat) (fun j S9 => j ≤ 192 ∧ ∃ x7 x8, S9 = sm S (lkG G p9 k x7 x8)) (fun j => 200 - j) (fun j => [(0, .ref (hs 0)), (1, .int (nI (cntB (blk G Hh p9 k) j))), (2, .int (nI j))]) 4 3 ?_ 0 _ _ _ _ (⟨by decide, _, _, rfl⟩) hG (lv_sub hl [2, 1, 0] (rfl))
  intro x9 S9 H locs ls hI hG hl ih
  obtain ⟨hj, x7, x8, rfl⟩ := hI
  refine lv_iload_n hx hb dX2_blockersNow_4 rfl (lv_at hl 2 rfl) ?_
  refine lv_sipush (v := 192) hx hb dX2_blockersNow_5 (by decide) ?_
  refine lv_icmp_ge (tgt := 33) hx hb dX2_blockersNow_8 (by decide) (fun c8 => ?_) (fun c8 => ?_)
  · have hjl : 192 ≤ x9 := (nI_leI (a := 192) (by omega) (by omega)).mp c8
    refine lv_iload_n hx hb dX2_blockersNow_33 rfl (lv_at hl 1 rfl) ?_
    exact g_iret hx hb hr hlk hG (⟨by rw [show x9 = 192 by omega], _, _, rfl⟩) dX2_blockersNow_34
  · have hjl : x9 < 192 := Nat.lt_of_not_le (fun q => c8 (nI_le (a := 192) q (by omega)))
    refine lv_iload_n hx hb dX2_blockersNow_11 rfl (lv_at hl 1 rfl) ?_
    refine lv_aload_n hx hb dX2_blockersNow_12 rfl (lv_at hl 0 rfl) ?_
    refine lv_iload_n hx hb dX2_blockersNow_13 rfl (lv_at hl 2 rfl) ?_
    refine g_calliE wM_adr hG (g_runV (As := [.int (nI x9)]) (rest := [.int (nI (cntB (blk G Hh p9 k) x9))]) ⟨hx, hb, hml, hown, hts⟩ wM_adr (kX2_loweredTo S (lkG G p9 k x7 x8) x9 hjl (lkG_6 hw hp hk)) wyX2_loweredTo q551 hG 0 rfl rfl ⟨by decide, by decide⟩ rfl rfl hl.1 (Nat.le_of_ble_eq_true rfl) ⟨Nat.le_refl 0, Nat.le_refl 0⟩ dX2_blockersNow_14) (fun H locs hG => ?_)
    refine g_top (y := loI G Hh p9 k x9) (low_I hw hL hH9 hp hk hjl) ?_
    obtain ⟨u1, u2, e7⟩ := low_gE S G p9 k x7 x8 x9
    replace hG := hG.st (S' := sm S (lkG G p9 k u1 u2)) (congrArg (sm S) e7)
    refine g_dia (P := loI G Hh p9 k x9 < 0) (J := 25) (A9 := 0) (B9 := 1) (ls9 := ls) (rest9 := [.int (nI (cntB (blk G Hh p9 k) x9))]) (fun ka4 kb5 => ?_) ?_
    · refine lv_if_lt (tgt := 24) hx hb dX2_blockersNow_17 (by decide) (fun c3 => ?_) (fun c3 => ?_)
      · refine lv_iconst (v := 0) hx hb dX2_blockersNow_24 (by decide) ?_
        exact ka4 c3
      · refine lv_iconst (v := 1) hx hb dX2_blockersNow_20 (by decide) ?_
        refine lv_goto (tgt := 25) hx hb dX2_blockersNow_21 (by decide) ?_
        exact kb5 c3
    refine lv_iadd hx hb dX2_blockersNow_25 ?_
    refine g_top (y := nI (cntB (blk G Hh p9 k) (x9 + 1))) (cnt_stepM (hH9 _ hjl)) ?_
    refine lv_istore_n (lv' := [(1, .int (nI (cntB (blk G Hh p9 k) (x9 + 1)))), (0, .ref (hs 0)), (2, .int (nI x9))]) hx hb dX2_blockersNow_26 rfl hl (by decide) rfl (fun ls hl => ?_)
    refine lv_iinc (v := nI (x9 + 1)) (lv' := [(2, .int (nI (x9 + 1))), (1, .int (nI (cntB (blk G Hh p9 k) (x9 + 1)))), (0, .ref (hs 0))]) hx hb dX2_blockersNow_27 hl (k := 2) rfl (nI_1 x9) (by decide) rfl (fun ls hl => ?_)
    refine lv_goto (tgt := 4) hx hb dX2_blockersNow_30 (by decide) ?_
    exact ih (x9 + 1) _ _ _ _ (by omega) ⟨hjl, _, _, rfl⟩ hG (lv_sub hl [2, 1, 0] rfl)
set_option maxHeartbeats 4000000 in
set_option maxRecDepth 100000 in
theorem kX2_costNow {l : Launch} {D : va_G} {cy : ClassId} {hs : Nat → Nat} {X : va_W} (G : GN) (S : GS) (hw : wf G) (he : encM G S) (Hh : Nat → Nat) (hL : LkM G Hh S) (hH9 : ∀ c, c < 192 → Hh c ≤ 60) (p9 k : Nat) (hp : p9 < 192) (hk : k < G 0 2) (y7 y8 : Int32) : Ct l D cy (wM cy hs X) yX2_costNow cX2_costNow 4 (some .int) 4 92 (sm S (lkG G p9 k y7 y8)) [.ref (hs 0)] (QI D (wM cy hs X) (fun r S' => r = nI (costN G Hh p9 k) ∧ ∃ x7 x8, S' = sm S (lkG G p9 k x7 x8))) := by
  refine Ct.of wM_adr (plainFor_of_name (by decide)) (Nat.le_of_ble_eq_true rfl) ?_
  intro p e s m below meth c ls C hl hG
  obtain ⟨hx, hb, hml, hown, hts, hr, hlk⟩ := C
  have hl : lv_has ls 4 [(0, .ref (hs 0))] := hl
  refine lv_iconst (v := 0) hx hb dX2_costNow_0 (by decide) ?_
  refine lv_istore_n (lv' := [(1, .int 0), (0, .ref (hs 0))]) hx hb dX2_costNow_1 rfl hl (by decide) rfl (fun ls hl => ?_)
  refine lv_iconst (v := 0) hx hb dX2_costNow_2 (by decide) ?_
  refine lv_istore_n (lv' := [(2, .int 0), (1, .int 0), (0, .ref (hs 0))]) hx hb dX2_costNow_3 rfl hl (by decide) rfl (fun ls hl => ?_)
  refine g_rec (τ := Nat) (fun j S9 => j ≤ 192 ∧ ∃ x7 x8, S9 = sm S (lkG G p9 k x7 x8)) (fun j => 200 - j) (fun j => [(0, .ref (hs 0)), (1, .int (nI (sumN (cfN G Hh p9 k) j))), (2, .int (nI j))]) 4 4 ?_ 0 _ _ _ _ (⟨by decide, _, _, rfl⟩) hG (lv_sub hl [2, 1, 0] (rfl))
  intro x9 S9 H locs ls hI hG hl ih
  obtain ⟨hj, x7, x8, rfl⟩ := hI
  refine lv_iload_n hx hb dX2_costNow_4 rfl (lv_at hl 2 rfl) ?_
  refine lv_sipush (v := 192) hx hb dX2_costNow_5 (by decide) ?_
  refine lv_icmp_ge (tgt := 42) hx hb dX2_costNow_8 (by decide) (fun c8 => ?_) (fun c8 => ?_)
  · have hjl : 192 ≤ x9 := (nI_leI (a := 192) (by omega) (by omega)).mp c8
    refine lv_iload_n hx hb dX2_costNow_42 rfl (lv_at hl 1 rfl) ?_
    exact g_iret hx hb hr hlk hG (⟨by rw [show x9 = 192 by omega]; rfl, _, _, rfl⟩) dX2_costNow_43
  · have hjl : x9 < 192 := Nat.lt_of_not_le (fun q => c8 (nI_le (a := 192) q (by omega)))
    refine lv_aload_n hx hb dX2_costNow_11 rfl (lv_at hl 0 rfl) ?_
    refine lv_iload_n hx hb dX2_costNow_12 rfl (lv_at hl 2 rfl) ?_
    refine g_calliE wM_adr hG (g_runV (As := [.int (nI x9)]) (rest := []) ⟨hx, hb, hml, hown, hts⟩ wM_adr (kX2_loweredTo S (lkG G p9 k x7 x8) x9 hjl (lkG_6 hw hp hk)) wyX2_loweredTo q551 hG 0 rfl rfl ⟨by decide, by decide⟩ rfl rfl hl.1 (Nat.le_of_ble_eq_true rfl) ⟨Nat.le_refl 0, Nat.le_refl 0⟩ dX2_costNow_13) (fun H locs hG => ?_)
    refine g_top (y := loI G Hh p9 k x9) (low_I hw hL hH9 hp hk hjl) ?_
    obtain ⟨u1, u2, e7⟩ := low_gE S G p9 k x7 x8 x9
    replace hG := hG.st (S' := sm S (lkG G p9 k u1 u2)) (congrArg (sm S) e7)
    refine lv_istore_n (lv' := [(3, .int (loI G Hh p9 k x9)), (0, .ref (hs 0)), (1, .int (nI (sumN (cfN G Hh p9 k) x9))), (2, .int (nI x9))]) hx hb dX2_costNow_16 rfl hl (by decide) rfl (fun ls hl => ?_)
    refine lv_iload_n hx hb dX2_costNow_17 rfl (lv_at hl 2 rfl) ?_
    refine lv_iload_n hx hb dX2_costNow_18 rfl (lv_at hl 0 rfl) ?_
    refine g_dia (P := 0 ≤ loI G Hh p9 k x9) (J := 34) (A9 := (nI (LK G Hh x9)) - (loI G Hh p9 k x9)) (B9 := 0) (ls9 := ls) (rest9 := [.int (nI (sumN (cfN G Hh p9 k) x9))]) (fun ka4 kb5 => ?_) ?_
    · refine lv_if_ge (tgt := 26) hx hb dX2_costNow_19 (by decide) (fun c3 => ?_) (fun c3 => ?_)
      · refine lv_aload_n hx hb dX2_costNow_26 rfl (lv_at hl 1 rfl) ?_
        refine g_get hx hb hts hown hG inX2 0 rfl rfl 17 (by decide) q409 (v := .ref (hs 17)) rfl dX2_costNow_27 ?_
        refine lv_iload_n hx hb dX2_costNow_30 rfl (lv_at hl 3 rfl) ?_
        refine g_aldN (f := S 17) hx hb hG 6 rfl (by decide) (x9) (rfl) (hjl) dX2_costNow_31 ?_
        refine g_top (y := nI (LK G Hh x9)) (hL _ hjl) ?_
        refine lv_iload_n hx hb dX2_costNow_32 rfl (lv_at hl 0 rfl) ?_
        refine lv_isub hx hb dX2_costNow_33 ?_
        exact ka4 c3
      · refine lv_iconst (v := 0) hx hb dX2_costNow_22 (by decide) ?_
        refine lv_goto (tgt := 34) hx hb dX2_costNow_23 (by decide) ?_
        exact kb5 c3
    refine lv_iadd hx hb dX2_costNow_34 ?_
    refine g_top (y := nI (sumN (cfN G Hh p9 k) (x9 + 1))) (cost_stepM (hH9 _ hjl)) ?_
    refine lv_istore_n (lv' := [(1, .int (nI (sumN (cfN G Hh p9 k) (x9 + 1)))), (3, .int (loI G Hh p9 k x9)), (0, .ref (hs 0)), (2, .int (nI x9))]) hx hb dX2_costNow_35 rfl hl (by decide) rfl (fun ls hl => ?_)
    refine lv_iinc (v := nI (x9 + 1)) (lv' := [(2, .int (nI (x9 + 1))), (1, .int (nI (sumN (cfN G Hh p9 k) (x9 + 1)))), (3, .int (loI G Hh p9 k x9)), (0, .ref (hs 0))]) hx hb dX2_costNow_36 hl (k := 3) rfl (nI_1 x9) (by decide) rfl (fun ls hl => ?_)
    refine lv_goto (tgt := 4) hx hb dX2_costNow_39 (by decide) ?_
    exact ih (x9 + 1) _ _ _ _ (by omega) ⟨hjl, _, _, rfl⟩ hG (lv_sub hl [3, 1, 0] rfl)
set_option maxHeartbeats 4000000 in
set_option maxRecDepth 100000 in
theorem kX2_isSeen {l : Launch} {D : va_G} {cy : ClassId} {hs : Nat → Nat} {X : va_W} (G : GN) (S : GS) (hw : wf G) (he : encM G S) (Hh : Nat → Nat) (hL : LkM G Hh S) (hH9 : ∀ c, c < 192 → Hh c ≤ 60) (p9 k : Nat) (hp : p9 < 192) (hk : k < G 0 2) : Ct l D cy (wM cy hs X) yX2_isSeen cX2_isSeen 4 (some .boolean) 5 114 (S) [.ref (hs 0), .int (nI (p9 % 16)), .int (nI (p9 / 16)), .int (nI k)] (QI D (wM cy hs X) (fun r S' => r = (if visB G Hh p9 k then 1 else 0) ∧ ∃ x7 x8, S' = sm S (lkG G p9 k x7 x8))) := by
  refine Ct.of wM_adr (plainFor_of_name (by decide)) (Nat.le_of_ble_eq_true rfl) ?_
  intro p e s m below meth c ls C hl hG
  obtain ⟨hx, hb, hml, hown, hts, hr, hlk⟩ := C
  have hl : lv_has ls 4 [(0, .ref (hs 0)), (1, .int (nI (p9 % 16))), (2, .int (nI (p9 / 16))), (3, .int (nI k))] := hl
  refine lv_aload_n hx hb dX2_isSeen_0 rfl (lv_at hl 0 rfl) ?_
  refine lv_iload_n hx hb dX2_isSeen_1 rfl (lv_at hl 1 rfl) ?_
  refine lv_iload_n hx hb dX2_isSeen_2 rfl (lv_at hl 2 rfl) ?_
  refine lv_iload_n hx hb dX2_isSeen_3 rfl (lv_at hl 3 rfl) ?_
  replace hG := hG.st (S' := sm S (sF S)) (sm_sF S).symm
  refine g_callvE wM_adr hG (g_runV (As := [.int (nI (p9 % 16)), .int (nI (p9 / 16)), .int (nI k)]) (rest := []) ⟨hx, hb, hml, hown, hts⟩ wM_adr (kX2_look S (sF S) (p9 % 16) (p9 / 16) k (G 3 k % 16) (G 3 k / 16) (by omega) (by have := hp; omega) (by have := hw.1.2.2.2.2.1; have := hk; omega) (he.2.2.2.1 _ hk).1 (he.2.2.2.1 _ hk).2.1 (by omega) (by have := (hw.f hk).1; omega)) wyX2_look q537 hG 0 rfl rfl ⟨by decide, by decide⟩ rfl rfl hl.1 (Nat.le_of_ble_eq_true rfl) ⟨Nat.le_refl 0, Nat.le_refl 0⟩ dX2_isSeen_4) (fun H locs hG => ?_)
  replace hG := hG.st (S' := sm S (lkG G p9 k ((sF S) 7) ((sF S) 8))) (congrArg (sm S) (look_G hw he hp hk))
  generalize (sF S) 7 = o1 at hG
  generalize (sF S) 8 = o2 at hG
  refine lv_aload_n hx hb dX2_isSeen_7 rfl (lv_at hl 0 rfl) ?_
  refine g_calli wM_adr hG (g_runV (As := []) (rest := []) ⟨hx, hb, hml, hown, hts⟩ wM_adr (kX2_blockersNow G S hw he Hh hL hH9 p9 k hp hk o1 o2) wyX2_blockersNow q547 hG 0 rfl rfl ⟨by decide, by decide⟩ rfl rfl hl.1 (Nat.le_of_ble_eq_true rfl) ⟨Nat.le_refl 0, Nat.le_refl 0⟩ dX2_isSeen_8) (fun r4 S3 H locs hp hG => ?_)
  obtain ⟨rfl, v5, v6, rfl⟩ := hp
  refine lv_if_ne (tgt := 18) hx hb dX2_isSeen_11 (by decide) (fun c7 => ?_) (fun c7 => ?_)
  · refine lv_iconst (v := 0) hx hb dX2_isSeen_18 (by decide) ?_
    exact g_zret hx hb hr hlk hG rfl (⟨by rw [if_neg (fun q => c7 (vis_0.mpr q))], _, _, rfl⟩) dX2_isSeen_19
  · refine lv_iconst (v := 1) hx hb dX2_isSeen_14 (by decide) ?_
    refine lv_goto (tgt := 19) hx hb dX2_isSeen_15 (by decide) ?_
    exact g_zret hx hb hr hlk hG rfl (⟨by rw [if_pos (vis_0.mp c7)], _, _, rfl⟩) dX2_isSeen_19
set_option maxHeartbeats 4000000 in
set_option maxRecDepth 100000 in
theorem kX2_begins {l : Launch} {D : va_G} {cy : ClassId} {hs : Nat → Nat} {X : va_W} (G : GN) (S : GS) (hw : wf G) (he : encM G S) (x y f : Int32) : Ct l D cy (wM cy hs X) yX2_begins cX2_begins 5 (some .int) 3 67 (S) [.ref (hs 0), .int x, .int y, .int f] (QI D (wM cy hs X) (fun r S' => r = vErr G x y f ∧ (¬ vErr G x y f = 0 → S' = S) ∧ (vErr G x y f = 0 → ∃ S1 x7 x8, frB 17 S S1 ∧ LkM G (G 2) S1 ∧ S' = sm S1 (lkG G (cN x y) (nN f) x7 x8)))) := by
  refine Ct.of wM_adr (plainFor_of_name (by decide)) (Nat.le_of_ble_eq_true rfl) ?_
  intro p e s m below meth c ls C hl hG
  obtain ⟨hx, hb, hml, hown, hts, hr, hlk⟩ := C
  have hl : lv_has ls 5 [(0, .ref (hs 0)), (1, .int x), (2, .int y), (3, .int f)] := hl
  refine lv_aload_n hx hb dX2_begins_0 rfl (lv_at hl 0 rfl) ?_
  refine lv_iload_n hx hb dX2_begins_1 rfl (lv_at hl 1 rfl) ?_
  refine lv_iload_n hx hb dX2_begins_2 rfl (lv_at hl 2 rfl) ?_
  refine lv_iload_n hx hb dX2_begins_3 rfl (lv_at hl 3 rfl) ?_
  refine g_calliE wM_adr hG (g_runV (As := [.int x, .int y, .int f]) (rest := []) ⟨hx, hb, hml, hown, hts⟩ wM_adr (kX2_viewBarred S x y f (he.ok hw)) wyX2_viewBarred q521 hG 0 rfl rfl ⟨by decide, by decide⟩ rfl rfl hl.1 (Nat.le_of_ble_eq_true rfl) ⟨Nat.le_refl 0, Nat.le_refl 0⟩ dX2_begins_4) (fun H locs hG => ?_)
  refine g_top (y := vErr G x y f) (vErrM hw he x y f) ?_
  refine lv_istore (lv' := [(4, .int (vErr G x y f)), (0, .ref (hs 0)), (1, .int x), (2, .int y), (3, .int f)]) hx hb dX2_begins_7 hl (by decide) rfl (fun ls hl => ?_)
  refine lv_iload hx hb dX2_begins_9 (lv_at hl 0 rfl) ?_
  refine lv_if_ne (tgt := 25) hx hb dX2_begins_11 (by decide) (fun c_e => ?_) (fun c_e => ?_)
  · refine lv_iload hx hb dX2_begins_25 (lv_at hl 0 rfl) ?_
    exact g_iret hx hb hr hlk hG ⟨rfl, fun _ => rfl, fun q => absurd q c_e⟩ dX2_begins_27
  · obtain ⟨h1, h2, h3⟩ := vErr_0 c_e
    have hc := has_c hw h1
    have hfe := (ft_k h2).1
    have hk := (ft_k h2).2
    have exx : nI (cN x y % 16) = x := (xM hw h1).symm
    have eyy : nI (cN x y / 16) = y := (yM hw h1).symm
    have eff : nI (nN f) = f := hfe.symm
    have hl : lv_has ls 5 [(4, .int (vErr G x y f)), (0, .ref (hs 0)), (1, .int (nI (cN x y % 16))), (2, .int (nI (cN x y / 16))), (3, .int (nI (nN f)))] := by rw [exx, eyy, eff]; exact hl
    refine lv_aload_n hx hb dX2_begins_14 rfl (lv_at hl 1 rfl) ?_
    refine g_callv wM_adr hG (g_runV (As := []) (rest := []) ⟨hx, hb, hml, hown, hts⟩ wM_adr (kX2_takeHeights G S hw he) wyX2_takeHeights q533 hG 0 rfl rfl ⟨by decide, by decide⟩ rfl rfl hl.1 (Nat.le_of_ble_eq_true rfl) ⟨Nat.le_refl 0, Nat.le_refl 0⟩ dX2_begins_15) (fun S1 H locs hp hG => ?_)
    obtain ⟨hLt, hft⟩ := hp
    have het := he.fb (Or.inl rfl) hft
    refine lv_aload_n hx hb dX2_begins_18 rfl (lv_at hl 1 rfl) ?_
    refine lv_iload_n hx hb dX2_begins_19 rfl (lv_at hl 2 rfl) ?_
    refine lv_iload_n hx hb dX2_begins_20 rfl (lv_at hl 3 rfl) ?_
    refine lv_iload_n hx hb dX2_begins_21 rfl (lv_at hl 4 rfl) ?_
    replace hG := hG.st (S' := sm S1 (sF S1)) (sm_sF S1).symm
    refine g_callvE wM_adr hG (g_runV (As := [.int (nI (cN x y % 16)), .int (nI (cN x y / 16)), .int (nI (nN f))]) (rest := []) ⟨hx, hb, hml, hown, hts⟩ wM_adr (kX2_look S1 (sF S1) ((cN x y) % 16) ((cN x y) / 16) (nN f) (G 3 (nN f) % 16) (G 3 (nN f) / 16) (by omega) (by have := hc; omega) (by have := hw.1.2.2.2.2.1; have := hk; omega) (het.2.2.2.1 _ hk).1 (het.2.2.2.1 _ hk).2.1 (by omega) (by have := (hw.f hk).1; omega)) wyX2_look q537 hG 0 rfl rfl ⟨by decide, by decide⟩ rfl rfl hl.1 (Nat.le_of_ble_eq_true rfl) ⟨Nat.le_refl 0, Nat.le_refl 0⟩ dX2_begins_22) (fun H locs hG => ?_)
    replace hG := hG.st (S' := sm S1 (lkG G (cN x y) (nN f) ((sF S1) 7) ((sF S1) 8))) (congrArg (sm S1) (look_G hw het hc hk))
    generalize (sF S1) 7 = o2 at hG
    generalize (sF S1) 8 = o3 at hG
    refine lv_iload hx hb dX2_begins_25 (lv_at hl 0 rfl) ?_
    exact g_iret hx hb hr hlk hG ⟨rfl, fun q => absurd c_e q, fun _ => ⟨_, _, _, hft, hLt, rfl⟩⟩ dX2_begins_27
set_option maxHeartbeats 4000000 in
set_option maxRecDepth 100000 in
theorem kX2_sees {l : Launch} {D : va_G} {cy : ClassId} {hs : Nat → Nat} {X : va_W} (G : GN) (S : GS) (hw : wf G) (he : encM G S) (x y f : Int32) : Ct l D cy (wM cy hs X) yX2_sees cX2_sees 5 (some .int) 5 114 (S) [.ref (hs 0), .int x, .int y, .int f] (QI D (wM cy hs X) (fun r S' => r = F_sees G x y f ∧ encM G S')) := by
  refine Ct.of wM_adr (plainFor_of_name (by decide)) (Nat.le_of_ble_eq_true rfl) ?_
  intro p e s m below meth c ls C hl hG
  obtain ⟨hx, hb, hml, hown, hts, hr, hlk⟩ := C
  have hl : lv_has ls 5 [(0, .ref (hs 0)), (1, .int x), (2, .int y), (3, .int f)] := hl
  refine lv_aload_n hx hb dX2_sees_0 rfl (lv_at hl 0 rfl) ?_
  refine lv_iload_n hx hb dX2_sees_1 rfl (lv_at hl 1 rfl) ?_
  refine lv_iload_n hx hb dX2_sees_2 rfl (lv_at hl 2 rfl) ?_
  refine lv_iload_n hx hb dX2_sees_3 rfl (lv_at hl 3 rfl) ?_
  refine g_calli wM_adr hG (g_runV (As := [.int x, .int y, .int f]) (rest := []) ⟨hx, hb, hml, hown, hts⟩ wM_adr (kX2_begins G S hw he x y f) wyX2_begins q517 hG 0 rfl rfl ⟨by decide, by decide⟩ rfl rfl hl.1 (Nat.le_of_ble_eq_true rfl) ⟨Nat.le_refl 0, Nat.le_refl 0⟩ dX2_sees_4) (fun r2 S1 H locs hp hG => ?_)
  obtain ⟨rfl, hno, hyes⟩ := hp
  refine lv_istore (lv' := [(4, .int (vErr G x y f)), (0, .ref (hs 0)), (1, .int x), (2, .int y), (3, .int f)]) hx hb dX2_sees_7 hl (by decide) rfl (fun ls hl => ?_)
  refine lv_iload hx hb dX2_sees_9 (lv_at hl 0 rfl) ?_
  refine lv_if_ge (tgt := 19) hx hb dX2_sees_11 (by decide) (fun c_g => ?_) (fun c_g => ?_)
  · have c_e := vErr_ge.mp c_g
    obtain ⟨h1, h2, h3⟩ := vErr_0 c_e
    have hc := has_c hw h1
    have hk := (ft_k h2).2
    obtain ⟨S1, x7, x8, hf1, hL1, rfl⟩ := hyes c_e
    have he1 := he.fb (Or.inl rfl) hf1
    refine lv_aload_n hx hb dX2_sees_19 rfl (lv_at hl 1 rfl) ?_
    refine g_calli wM_adr hG (g_runV (As := []) (rest := []) ⟨hx, hb, hml, hown, hts⟩ wM_adr (kX2_blockersNow G S1 hw he1 (G 2) hL1 (hG2 hw) (cN x y) (nN f) hc hk x7 x8) wyX2_blockersNow q547 hG 0 rfl rfl ⟨by decide, by decide⟩ rfl rfl hl.1 (Nat.le_of_ble_eq_true rfl) ⟨Nat.le_refl 0, Nat.le_refl 0⟩ dX2_sees_20) (fun r4 S3 H locs hp hG => ?_)
    obtain ⟨rfl, v5, v6, rfl⟩ := hp
    refine g_dia (P := nI (cntB (blk G (G 2) (cN x y) (nN f)) 192) = 0) (J := 31) (A9 := 1) (B9 := 0) (ls9 := ls) (rest9 := []) (fun ka8 kb9 => ?_) ?_
    · refine lv_if_ne (tgt := 30) hx hb dX2_sees_23 (by decide) (fun c7 => ?_) (fun c7 => ?_)
      · refine lv_iconst (v := 0) hx hb dX2_sees_30 (by decide) ?_
        exact kb9 c7
      · refine lv_iconst (v := 1) hx hb dX2_sees_26 (by decide) ?_
        refine lv_goto (tgt := 31) hx hb dX2_sees_27 (by decide) ?_
        exact ka8 c7
    exact g_iret hx hb hr hlk hG ⟨by unfold F_sees; rw [if_pos c_e]; exact see_I, he1.sm⟩ dX2_sees_31
  · have c_n : ¬ vErr G x y f = 0 := fun q => c_g (vErr_ge.mpr q)
    replace hG := hG.st (hno c_n)
    refine lv_iload hx hb dX2_sees_14 (lv_at hl 0 rfl) ?_
    refine lv_goto (tgt := 31) hx hb dX2_sees_16 (by decide) ?_
    exact g_iret hx hb hr hlk hG ⟨by unfold F_sees; rw [if_neg c_n], he⟩ dX2_sees_31
set_option maxHeartbeats 4000000 in
set_option maxRecDepth 100000 in
theorem kX2_blockers {l : Launch} {D : va_G} {cy : ClassId} {hs : Nat → Nat} {X : va_W} (G : GN) (S : GS) (hw : wf G) (he : encM G S) (x y f : Int32) : Ct l D cy (wM cy hs X) yX2_blockers cX2_blockers 5 (some .int) 5 114 (S) [.ref (hs 0), .int x, .int y, .int f] (QI D (wM cy hs X) (fun r S' => r = F_blockers G x y f ∧ encM G S')) := by
  refine Ct.of wM_adr (plainFor_of_name (by decide)) (Nat.le_of_ble_eq_true rfl) ?_
  intro p e s m below meth c ls C hl hG
  obtain ⟨hx, hb, hml, hown, hts, hr, hlk⟩ := C
  have hl : lv_has ls 5 [(0, .ref (hs 0)), (1, .int x), (2, .int y), (3, .int f)] := hl
  refine lv_aload_n hx hb dX2_blockers_0 rfl (lv_at hl 0 rfl) ?_
  refine lv_iload_n hx hb dX2_blockers_1 rfl (lv_at hl 1 rfl) ?_
  refine lv_iload_n hx hb dX2_blockers_2 rfl (lv_at hl 2 rfl) ?_
  refine lv_iload_n hx hb dX2_blockers_3 rfl (lv_at hl 3 rfl) ?_
  refine g_calli wM_adr hG (g_runV (As := [.int x, .int y, .int f]) (rest := []) ⟨hx, hb, hml, hown, hts⟩ wM_adr (kX2_begins G S hw he x y f) wyX2_begins q517 hG 0 rfl rfl ⟨by decide, by decide⟩ rfl rfl hl.1 (Nat.le_of_ble_eq_true rfl) ⟨Nat.le_refl 0, Nat.le_refl 0⟩ dX2_blockers_4) (fun r2 S1 H locs hp hG => ?_)
  obtain ⟨rfl, hno, hyes⟩ := hp
  refine lv_istore (lv' := [(4, .int (vErr G x y f)), (0, .ref (hs 0)), (1, .int x), (2, .int y), (3, .int f)]) hx hb dX2_blockers_7 hl (by decide) rfl (fun ls hl => ?_)
  refine lv_iload hx hb dX2_blockers_9 (lv_at hl 0 rfl) ?_
  refine lv_if_ge (tgt := 19) hx hb dX2_blockers_11 (by decide) (fun c_g => ?_) (fun c_g => ?_)
  · have c_e := vErr_ge.mp c_g
    obtain ⟨h1, h2, h3⟩ := vErr_0 c_e
    have hc := has_c hw h1
    have hk := (ft_k h2).2
    obtain ⟨S1, x7, x8, hf1, hL1, rfl⟩ := hyes c_e
    have he1 := he.fb (Or.inl rfl) hf1
    refine lv_aload_n hx hb dX2_blockers_19 rfl (lv_at hl 1 rfl) ?_
    refine g_calli wM_adr hG (g_runV (As := []) (rest := []) ⟨hx, hb, hml, hown, hts⟩ wM_adr (kX2_blockersNow G S1 hw he1 (G 2) hL1 (hG2 hw) (cN x y) (nN f) hc hk x7 x8) wyX2_blockersNow q547 hG 0 rfl rfl ⟨by decide, by decide⟩ rfl rfl hl.1 (Nat.le_of_ble_eq_true rfl) ⟨Nat.le_refl 0, Nat.le_refl 0⟩ dX2_blockers_20) (fun r4 S3 H locs hp hG => ?_)
    obtain ⟨rfl, v5, v6, rfl⟩ := hp
    exact g_iret hx hb hr hlk hG ⟨by unfold F_blockers; rw [if_pos c_e], he1.sm⟩ dX2_blockers_23
  · have c_n : ¬ vErr G x y f = 0 := fun q => c_g (vErr_ge.mpr q)
    replace hG := hG.st (hno c_n)
    refine lv_iload hx hb dX2_blockers_14 (lv_at hl 0 rfl) ?_
    refine lv_goto (tgt := 23) hx hb dX2_blockers_16 (by decide) ?_
    exact g_iret hx hb hr hlk hG ⟨by unfold F_blockers; rw [if_neg c_n], he⟩ dX2_blockers_23
set_option maxHeartbeats 4000000 in
set_option maxRecDepth 100000 in
theorem kX2_clipCost {l : Launch} {D : va_G} {cy : ClassId} {hs : Nat → Nat} {X : va_W} (G : GN) (S : GS) (hw : wf G) (he : encM G S) (x y f : Int32) : Ct l D cy (wM cy hs X) yX2_clipCost cX2_clipCost 5 (some .int) 5 115 (S) [.ref (hs 0), .int x, .int y, .int f] (QI D (wM cy hs X) (fun r S' => r = F_clipCost G x y f ∧ encM G S')) := by
  refine Ct.of wM_adr (plainFor_of_name (by decide)) (Nat.le_of_ble_eq_true rfl) ?_
  intro p e s m below meth c ls C hl hG
  obtain ⟨hx, hb, hml, hown, hts, hr, hlk⟩ := C
  have hl : lv_has ls 5 [(0, .ref (hs 0)), (1, .int x), (2, .int y), (3, .int f)] := hl
  refine lv_aload_n hx hb dX2_clipCost_0 rfl (lv_at hl 0 rfl) ?_
  refine lv_iload_n hx hb dX2_clipCost_1 rfl (lv_at hl 1 rfl) ?_
  refine lv_iload_n hx hb dX2_clipCost_2 rfl (lv_at hl 2 rfl) ?_
  refine lv_iload_n hx hb dX2_clipCost_3 rfl (lv_at hl 3 rfl) ?_
  refine g_calli wM_adr hG (g_runV (As := [.int x, .int y, .int f]) (rest := []) ⟨hx, hb, hml, hown, hts⟩ wM_adr (kX2_begins G S hw he x y f) wyX2_begins q517 hG 0 rfl rfl ⟨by decide, by decide⟩ rfl rfl hl.1 (Nat.le_of_ble_eq_true rfl) ⟨Nat.le_refl 0, Nat.le_refl 0⟩ dX2_clipCost_4) (fun r2 S1 H locs hp hG => ?_)
  obtain ⟨rfl, hno, hyes⟩ := hp
  refine lv_istore (lv' := [(4, .int (vErr G x y f)), (0, .ref (hs 0)), (1, .int x), (2, .int y), (3, .int f)]) hx hb dX2_clipCost_7 hl (by decide) rfl (fun ls hl => ?_)
  refine lv_iload hx hb dX2_clipCost_9 (lv_at hl 0 rfl) ?_
  refine lv_if_ge (tgt := 19) hx hb dX2_clipCost_11 (by decide) (fun c_g => ?_) (fun c_g => ?_)
  · have c_e := vErr_ge.mp c_g
    obtain ⟨h1, h2, h3⟩ := vErr_0 c_e
    have hc := has_c hw h1
    have hk := (ft_k h2).2
    obtain ⟨S1, x7, x8, hf1, hL1, rfl⟩ := hyes c_e
    have he1 := he.fb (Or.inl rfl) hf1
    refine lv_aload_n hx hb dX2_clipCost_19 rfl (lv_at hl 1 rfl) ?_
    refine g_calli wM_adr hG (g_runV (As := []) (rest := []) ⟨hx, hb, hml, hown, hts⟩ wM_adr (kX2_costNow G S1 hw he1 (G 2) hL1 (hG2 hw) (cN x y) (nN f) hc hk x7 x8) wyX2_costNow q583 hG 0 rfl rfl ⟨by decide, by decide⟩ rfl rfl hl.1 (Nat.le_of_ble_eq_true rfl) ⟨Nat.le_refl 0, Nat.le_refl 0⟩ dX2_clipCost_20) (fun r4 S3 H locs hp hG => ?_)
    obtain ⟨rfl, v5, v6, rfl⟩ := hp
    exact g_iret hx hb hr hlk hG ⟨by unfold F_clipCost; rw [if_pos c_e], he1.sm⟩ dX2_clipCost_23
  · have c_n : ¬ vErr G x y f = 0 := fun q => c_g (vErr_ge.mpr q)
    replace hG := hG.st (hno c_n)
    refine lv_iload hx hb dX2_clipCost_14 (lv_at hl 0 rfl) ?_
    refine lv_goto (tgt := 23) hx hb dX2_clipCost_16 (by decide) ?_
    exact g_iret hx hb hr hlk hG ⟨by unfold F_clipCost; rw [if_neg c_n], he⟩ dX2_clipCost_23
set_option maxHeartbeats 4000000 in
set_option maxRecDepth 100000 in
theorem kX2_opening {l : Launch} {D : va_G} {cy : ClassId} {hs : Nat → Nat} {X : va_W} (G : GN) (S : GS) (hw : wf G) (he : encM G S) (x y f : Int32) : Ct l D cy (wM cy hs X) yX2_opening cX2_opening 7 (some .int) 5 114 (S) [.ref (hs 0), .int x, .int y, .int f] (QI D (wM cy hs X) (fun r S' => r = F_opening G x y f ∧ encM G S')) := by
  refine Ct.of wM_adr (plainFor_of_name (by decide)) (Nat.le_of_ble_eq_true rfl) ?_
  intro p e s m below meth c ls C hl hG
  obtain ⟨hx, hb, hml, hown, hts, hr, hlk⟩ := C
  have hl : lv_has ls 7 [(0, .ref (hs 0)), (1, .int x), (2, .int y), (3, .int f)] := hl
  refine lv_aload_n hx hb dX2_opening_0 rfl (lv_at hl 0 rfl) ?_
  refine lv_iload_n hx hb dX2_opening_1 rfl (lv_at hl 1 rfl) ?_
  refine lv_iload_n hx hb dX2_opening_2 rfl (lv_at hl 2 rfl) ?_
  refine lv_iload_n hx hb dX2_opening_3 rfl (lv_at hl 3 rfl) ?_
  refine g_calli wM_adr hG (g_runV (As := [.int x, .int y, .int f]) (rest := []) ⟨hx, hb, hml, hown, hts⟩ wM_adr (kX2_begins G S hw he x y f) wyX2_begins q517 hG 0 rfl rfl ⟨by decide, by decide⟩ rfl rfl hl.1 (Nat.le_of_ble_eq_true rfl) ⟨Nat.le_refl 0, Nat.le_refl 0⟩ dX2_opening_4) (fun r2 S1 H locs hp hG => ?_)
  obtain ⟨rfl, hno, hyes⟩ := hp
  refine lv_istore (lv' := [(4, .int (vErr G x y f)), (0, .ref (hs 0)), (1, .int x), (2, .int y), (3, .int f)]) hx hb dX2_opening_7 hl (by decide) rfl (fun ls hl => ?_)
  refine lv_iload hx hb dX2_opening_9 (lv_at hl 0 rfl) ?_
  refine lv_if_ge (tgt := 17) hx hb dX2_opening_11 (by decide) (fun c_g => ?_) (fun c_g => ?_)
  · have c_e := vErr_ge.mp c_g
    obtain ⟨h1, h2, h3⟩ := vErr_0 c_e
    have hc := has_c hw h1
    have hk := (ft_k h2).2
    obtain ⟨S1, x7, x8, hf1, hL1, rfl⟩ := hyes c_e
    have he1 := he.fb (Or.inl rfl) hf1
    refine lv_bipush (v := (-7)) hx hb dX2_opening_17 (by decide) ?_
    refine lv_istore (lv' := [(5, .int (-7)), (4, .int (vErr G x y f)), (0, .ref (hs 0)), (1, .int x), (2, .int y), (3, .int f)]) hx hb dX2_opening_19 hl (by decide) rfl (fun ls hl => ?_)
    refine lv_iconst (v := 0) hx hb dX2_opening_21 (by decide) ?_
    refine lv_istore (lv' := [(6, .int 0), (5, .int (-7)), (4, .int (vErr G x y f)), (0, .ref (hs 0)), (1, .int x), (2, .int y), (3, .int f)]) hx hb dX2_opening_22 hl (by decide) rfl (fun ls hl => ?_)
    refine g_rec (τ := Nat) (fun j S9 => j ≤ 192 ∧ ∃ x7 x8, S9 = sm S1 (lkG G (cN x y) (nN f) x7 x8)) (fun j => 200 - j) (fun j => [(0, .ref (hs 0)), (5, .int (opB (blk G (G 2) (cN x y) (nN f)) j)), (6, .int (nI j))]) 24 7 ?_ 0 _ _ _ _ (⟨by decide, _, _, rfl⟩) hG (lv_sub hl [3, 1, 0] (rfl))
    intro x9 S9 H locs ls hI hG hl ih
    obtain ⟨hj, x7, x8, rfl⟩ := hI
    refine lv_iload hx hb dX2_opening_24 (lv_at hl 2 rfl) ?_
    refine lv_sipush (v := 192) hx hb dX2_opening_26 (by decide) ?_
    refine lv_icmp_ge (tgt := 56) hx hb dX2_opening_29 (by decide) (fun c29 => ?_) (fun c29 => ?_)
    · have hjl : 192 ≤ x9 := (nI_leI (a := 192) (by omega) (by omega)).mp c29
      refine lv_aload_n hx hb dX2_opening_56 rfl (lv_at hl 0 rfl) ?_
      refine g_calli wM_adr hG (g_runV (As := []) (rest := []) ⟨hx, hb, hml, hown, hts⟩ wM_adr (kX2_blockersNow G S1 hw he1 (G 2) hL1 (hG2 hw) (cN x y) (nN f) hc hk x7 x8) wyX2_blockersNow q547 hG 0 rfl rfl ⟨by decide, by decide⟩ rfl rfl hl.1 (Nat.le_of_ble_eq_true rfl) ⟨Nat.le_refl 0, Nat.le_refl 0⟩ dX2_opening_57) (fun r4 S3 H locs hp hG => ?_)
      obtain ⟨rfl, v5, v6, rfl⟩ := hp
      refine lv_iconst (v := 1) hx hb dX2_opening_60 (by decide) ?_
      refine g_dia (P := nI (cntB (blk G (G 2) (cN x y) (nN f)) 192) = 1) (J := 71) (A9 := opB (blk G (G 2) (cN x y) (nN f)) x9) (B9 := (-7)) (ls9 := ls) (rest9 := []) (fun ka8 kb9 => ?_) ?_
      · refine lv_icmp_ne (tgt := 69) hx hb dX2_opening_61 (by decide) (fun c7 => ?_) (fun c7 => ?_)
        · refine lv_bipush (v := (-7)) hx hb dX2_opening_69 (by decide) ?_
          exact kb9 c7
        · refine lv_iload hx hb dX2_opening_64 (lv_at hl 1 rfl) ?_
          refine lv_goto (tgt := 71) hx hb dX2_opening_66 (by decide) ?_
          exact ka8 c7
      exact g_iret hx hb hr hlk hG ⟨by unfold F_opening; rw [if_pos c_e]; rw [show x9 = 192 by omega]; exact op_I, he1.sm⟩ dX2_opening_71
    · have hjl : x9 < 192 := Nat.lt_of_not_le (fun q => c29 (nI_le (a := 192) q (by omega)))
      refine lv_aload_n hx hb dX2_opening_32 rfl (lv_at hl 0 rfl) ?_
      refine lv_iload hx hb dX2_opening_33 (lv_at hl 2 rfl) ?_
      refine g_calliE wM_adr hG (g_runV (As := [.int (nI x9)]) (rest := []) ⟨hx, hb, hml, hown, hts⟩ wM_adr (kX2_loweredTo S1 (lkG G (cN x y) (nN f) x7 x8) x9 hjl (lkG_6 hw hc hk)) wyX2_loweredTo q551 hG 0 rfl rfl ⟨by decide, by decide⟩ rfl rfl hl.1 (Nat.le_of_ble_eq_true rfl) ⟨Nat.le_refl 0, Nat.le_refl 0⟩ dX2_opening_35) (fun H locs hG => ?_)
      refine g_top (y := loI G (G 2) (cN x y) (nN f) x9) (low_I hw hL1 (hG2 hw) hc hk hjl) ?_
      obtain ⟨u10, u11, e7⟩ := low_gE S1 G (cN x y) (nN f) x7 x8 x9
      replace hG := hG.st (S' := sm S1 (lkG G (cN x y) (nN f) u10 u11)) (congrArg (sm S1) e7)
      refine g_dia (P := loI G (G 2) (cN x y) (nN f) x9 < 0) (J := 48) (A9 := opB (blk G (G 2) (cN x y) (nN f)) x9) (B9 := nI x9) (ls9 := ls) (rest9 := []) (fun ka13 kb14 => ?_) ?_
      · refine lv_if_lt (tgt := 46) hx hb dX2_opening_38 (by decide) (fun c12 => ?_) (fun c12 => ?_)
        · refine lv_iload hx hb dX2_opening_46 (lv_at hl 1 rfl) ?_
          exact ka13 c12
        · refine lv_iload hx hb dX2_opening_41 (lv_at hl 2 rfl) ?_
          refine lv_goto (tgt := 48) hx hb dX2_opening_43 (by decide) ?_
          exact kb14 c12
      refine g_top (y := opB (blk G (G 2) (cN x y) (nN f)) (x9 + 1)) (op_stepM (hG2 hw _ hjl)) ?_
      refine lv_istore (lv' := [(5, .int (opB (blk G (G 2) (cN x y) (nN f)) (x9 + 1))), (0, .ref (hs 0)), (6, .int (nI x9))]) hx hb dX2_opening_48 hl (by decide) rfl (fun ls hl => ?_)
      refine lv_iinc (v := nI (x9 + 1)) (lv' := [(6, .int (nI (x9 + 1))), (5, .int (opB (blk G (G 2) (cN x y) (nN f)) (x9 + 1))), (0, .ref (hs 0))]) hx hb dX2_opening_50 hl (k := 2) rfl (nI_1 x9) (by decide) rfl (fun ls hl => ?_)
      refine lv_goto (tgt := 24) hx hb dX2_opening_53 (by decide) ?_
      exact ih (x9 + 1) _ _ _ _ (by omega) ⟨hjl, _, _, rfl⟩ hG (lv_sub hl [2, 1, 0] rfl)
  · have c_n : ¬ vErr G x y f = 0 := fun q => c_g (vErr_ge.mpr q)
    replace hG := hG.st (hno c_n)
    refine lv_iload hx hb dX2_opening_14 (lv_at hl 0 rfl) ?_
    exact g_iret hx hb hr hlk hG ⟨by unfold F_opening; rw [if_neg c_n], he⟩ dX2_opening_16
set_option maxHeartbeats 4000000 in
set_option maxRecDepth 100000 in
theorem kX2_seenFrom {l : Launch} {D : va_G} {cy : ClassId} {hs : Nat → Nat} {X : va_W} (G : GN) (S : GS) (hw : wf G) (he : encM G S) (Hh : Nat → Nat) (hL : LkM G Hh S) (hH9 : ∀ c, c < 192 → Hh c ≤ 60) (p9 : Nat) (hp : p9 < 192) : Ct l D cy (wM cy hs X) yX2_seenFrom cX2_seenFrom 5 (some .int) 6 137 (S) [.ref (hs 0), .int (nI (p9 % 16)), .int (nI (p9 / 16))] (QI D (wM cy hs X) (fun r S' => r = setI (visB G Hh p9) (G 0 2) ∧ frV S S')) := by
  refine Ct.of wM_adr (plainFor_of_name (by decide)) (Nat.le_of_ble_eq_true rfl) ?_
  intro p e s m below meth c ls C hl hG
  obtain ⟨hx, hb, hml, hown, hts, hr, hlk⟩ := C
  have hl : lv_has ls 5 [(0, .ref (hs 0)), (1, .int (nI (p9 % 16))), (2, .int (nI (p9 / 16)))] := hl
  refine lv_iconst (v := 0) hx hb dX2_seenFrom_0 (by decide) ?_
  refine lv_istore_n (lv' := [(3, .int 0), (0, .ref (hs 0)), (1, .int (nI (p9 % 16))), (2, .int (nI (p9 / 16)))]) hx hb dX2_seenFrom_1 rfl hl (by decide) rfl (fun ls hl => ?_)
  refine lv_iconst (v := 0) hx hb dX2_seenFrom_2 (by decide) ?_
  refine lv_istore (lv' := [(4, .int 0), (3, .int 0), (0, .ref (hs 0)), (1, .int (nI (p9 % 16))), (2, .int (nI (p9 / 16)))]) hx hb dX2_seenFrom_3 hl (by decide) rfl (fun ls hl => ?_)
  refine g_rec (τ := Nat) (fun j S9 => j ≤ G 0 2 ∧ frV S S9) (fun j => 100 - j) (fun j => [(0, .ref (hs 0)), (1, .int (nI (p9 % 16))), (2, .int (nI (p9 / 16))), (3, .int (setI (visB G Hh p9) j)), (4, .int (nI j))]) 5 5 ?_ 0 _ _ _ _ (⟨Nat.zero_le _, frV.rf⟩) hG (lv_sub hl [2, 3, 4, 1, 0] (rfl))
  intro x9 S9 H locs ls hI hG hl ih
  obtain ⟨hj, hfr⟩ := hI
  have he9 := he.fv hfr
  have hL9 := hL.fv hfr
  have hnf := hw.1.2.2.2.2.1
  refine lv_iload hx hb dX2_seenFrom_5 (lv_at hl 4 rfl) ?_
  refine lv_aload_n hx hb dX2_seenFrom_7 rfl (lv_at hl 0 rfl) ?_
  refine g_get hx hb hts hown hG inX2 0 rfl rfl 4 (by decide) q396 (v := .int (S9 0 4)) rfl dX2_seenFrom_8 ?_
  refine g_top (y := nI (G 0 2)) (he9.1.2.2.1) ?_
  refine lv_icmp_ge (tgt := 42) hx hb dX2_seenFrom_11 (by decide) (fun c11 => ?_) (fun c11 => ?_)
  · have hjl : G 0 2 ≤ x9 := (nI_leI (by omega) (by omega)).mp c11
    refine lv_iload_n hx hb dX2_seenFrom_42 rfl (lv_at hl 3 rfl) ?_
    exact g_iret hx hb hr hlk hG (⟨by rw [show x9 = G 0 2 by omega], hfr⟩) dX2_seenFrom_43
  · have hjl : x9 < G 0 2 := Nat.lt_of_not_le (fun q => c11 (nI_le q (by omega)))
    refine lv_iload_n hx hb dX2_seenFrom_14 rfl (lv_at hl 3 rfl) ?_
    refine lv_aload_n hx hb dX2_seenFrom_15 rfl (lv_at hl 0 rfl) ?_
    refine lv_iload_n hx hb dX2_seenFrom_16 rfl (lv_at hl 1 rfl) ?_
    refine lv_iload_n hx hb dX2_seenFrom_17 rfl (lv_at hl 2 rfl) ?_
    refine lv_iload hx hb dX2_seenFrom_18 (lv_at hl 4 rfl) ?_
    refine g_calli wM_adr hG (g_runV (As := [.int (nI (p9 % 16)), .int (nI (p9 / 16)), .int (nI x9)]) (rest := [.int (setI (visB G Hh p9) x9)]) ⟨hx, hb, hml, hown, hts⟩ wM_adr (kX2_isSeen G S9 hw he9 Hh hL9 hH9 p9 x9 hp hjl) wyX2_isSeen q571 hG 0 rfl rfl ⟨by decide, by decide⟩ rfl rfl hl.1 (Nat.le_of_ble_eq_true rfl) ⟨Nat.le_refl 0, Nat.le_refl 0⟩ dX2_seenFrom_20) (fun r2 S1 H locs hp hG => ?_)
    obtain ⟨rfl, v3, v4, hS⟩ := hp
    have hfv : frV S9 S1 := ⟨_, hS⟩
    refine g_dia (P := (if visB G Hh p9 x9 then 1 else 0 : Int32) = 0) (J := 34) (A9 := 0) (B9 := 1 <<< ((nI x9) &&& 31)) (ls9 := ls) (rest9 := [.int (setI (visB G Hh p9) x9)]) (fun ka6 kb7 => ?_) ?_
    · refine lv_if_eq (tgt := 33) hx hb dX2_seenFrom_23 (by decide) (fun c5 => ?_) (fun c5 => ?_)
      · refine lv_iconst (v := 0) hx hb dX2_seenFrom_33 (by decide) ?_
        exact ka6 c5
      · refine lv_iconst (v := 1) hx hb dX2_seenFrom_26 (by decide) ?_
        refine lv_iload hx hb dX2_seenFrom_27 (lv_at hl 4 rfl) ?_
        refine lv_ishl hx hb dX2_seenFrom_29 ?_
        refine lv_goto (tgt := 34) hx hb dX2_seenFrom_30 (by decide) ?_
        exact kb7 c5
    refine lv_ior hx hb dX2_seenFrom_34 ?_
    refine g_top (y := setI (visB G Hh p9) (x9 + 1)) (set_step _ _) ?_
    refine lv_istore_n (lv' := [(3, .int (setI (visB G Hh p9) (x9 + 1))), (0, .ref (hs 0)), (1, .int (nI (p9 % 16))), (2, .int (nI (p9 / 16))), (4, .int (nI x9))]) hx hb dX2_seenFrom_35 rfl hl (by decide) rfl (fun ls hl => ?_)
    refine lv_iinc (v := nI (x9 + 1)) (lv' := [(4, .int (nI (x9 + 1))), (3, .int (setI (visB G Hh p9) (x9 + 1))), (0, .ref (hs 0)), (1, .int (nI (p9 % 16))), (2, .int (nI (p9 / 16)))]) hx hb dX2_seenFrom_36 hl (k := 4) rfl (nI_1 x9) (by decide) rfl (fun ls hl => ?_)
    refine lv_goto (tgt := 5) hx hb dX2_seenFrom_39 (by decide) ?_
    exact ih (x9 + 1) _ _ _ _ (by omega) ⟨hjl, hfr.tr hfv⟩ hG (lv_sub hl [2, 3, 4, 1, 0] rfl)
set_option maxHeartbeats 4000000 in
set_option maxRecDepth 100000 in
theorem kX2_seen {l : Launch} {D : va_G} {cy : ClassId} {hs : Nat → Nat} {X : va_W} (G : GN) (S : GS) (hw : wf G) (he : encM G S) (x y : Int32) : Ct l D cy (wM cy hs X) yX2_seen cX2_seen 3 (some .int) 7 161 (S) [.ref (hs 0), .int x, .int y] (QI D (wM cy hs X) (fun r S' => r = F_seen G x y ∧ encM G S')) := by
  refine Ct.of wM_adr (plainFor_of_name (by decide)) (Nat.le_of_ble_eq_true rfl) ?_
  intro p e s m below meth c ls C hl hG
  obtain ⟨hx, hb, hml, hown, hts, hr, hlk⟩ := C
  have hl : lv_has ls 3 [(0, .ref (hs 0)), (1, .int x), (2, .int y)] := hl
  refine lv_aload_n hx hb dX2_seen_0 rfl (lv_at hl 0 rfl) ?_
  refine lv_iload_n hx hb dX2_seen_1 rfl (lv_at hl 1 rfl) ?_
  refine lv_iload_n hx hb dX2_seen_2 rfl (lv_at hl 2 rfl) ?_
  refine g_calliE wM_adr hG (g_runV (As := [.int x, .int y]) (rest := []) ⟨hx, hb, hml, hown, hts⟩ wM_adr (kX2_noCell S x y) wyX2_noCell q485 hG 0 rfl rfl ⟨by decide, by decide⟩ rfl rfl hl.1 (Nat.le_of_ble_eq_true rfl) ⟨Nat.le_refl 0, Nat.le_refl 0⟩ dX2_seen_3) (fun H locs hG => ?_)
  refine g_top (y := if hasB G x y then 0 else 1) (noC hw he x y) ?_
  refine lv_if_eq (tgt := 11) hx hb dX2_seen_6 (by decide) (fun c6 => ?_) (fun c6 => ?_)
  · have h1 : hasB G x y = true := no01.mp c6
    have hc := has_c hw h1
    have exx : nI (cN x y % 16) = x := (xM hw h1).symm
    have eyy : nI (cN x y / 16) = y := (yM hw h1).symm
    have hl : lv_has ls 3 [(0, .ref (hs 0)), (1, .int (nI (cN x y % 16))), (2, .int (nI (cN x y / 16)))] := by rw [exx, eyy]; exact hl
    refine lv_aload_n hx hb dX2_seen_11 rfl (lv_at hl 0 rfl) ?_
    refine g_callv wM_adr hG (g_runV (As := []) (rest := []) ⟨hx, hb, hml, hown, hts⟩ wM_adr (kX2_takeHeights G S hw he) wyX2_takeHeights q533 hG 0 rfl rfl ⟨by decide, by decide⟩ rfl rfl hl.1 (Nat.le_of_ble_eq_true rfl) ⟨Nat.le_refl 0, Nat.le_refl 0⟩ dX2_seen_12) (fun S1 H locs hp hG => ?_)
    obtain ⟨hLt, hft⟩ := hp
    have het := he.fb (Or.inl rfl) hft
    refine lv_aload_n hx hb dX2_seen_15 rfl (lv_at hl 0 rfl) ?_
    refine lv_iload_n hx hb dX2_seen_16 rfl (lv_at hl 1 rfl) ?_
    refine lv_iload_n hx hb dX2_seen_17 rfl (lv_at hl 2 rfl) ?_
    refine g_calliE wM_adr hG (g_runV (As := [.int (nI (cN x y % 16)), .int (nI (cN x y / 16))]) (rest := []) ⟨hx, hb, hml, hown, hts⟩ wM_adr (kX2_isPlace S1 (nI (cN x y % 16)) (nI (cN x y / 16)) (vp_c hc)) wyX2_isPlace q529 hG 0 rfl rfl ⟨by decide, by decide⟩ rfl rfl hl.1 (Nat.le_of_ble_eq_true rfl) ⟨Nat.le_refl 0, Nat.le_refl 0⟩ dX2_seen_18) (fun H locs hG => ?_)
    refine g_top (y := if plB G (cN x y) then 1 else 0) (placeM hw het hc (idx_c _)) ?_
    refine lv_if_eq (tgt := 33) hx hb dX2_seen_21 (by decide) (fun c21 => ?_) (fun c21 => ?_)
    · refine lv_bipush (v := (-3)) hx hb dX2_seen_33 (by decide) ?_
      exact g_iret hx hb hr hlk hG ⟨by unfold F_seen pErr; rw [if_pos h1, if_neg (ite10.mp c21), if_neg (by decide)], het⟩ dX2_seen_35
    · refine lv_aload_n hx hb dX2_seen_24 rfl (lv_at hl 0 rfl) ?_
      refine lv_iload_n hx hb dX2_seen_25 rfl (lv_at hl 1 rfl) ?_
      refine lv_iload_n hx hb dX2_seen_26 rfl (lv_at hl 2 rfl) ?_
      refine g_calli wM_adr hG (g_runV (As := [.int (nI (cN x y % 16)), .int (nI (cN x y / 16))]) (rest := []) ⟨hx, hb, hml, hown, hts⟩ wM_adr (kX2_seenFrom G S1 hw het (G 2) hLt (hG2 hw) (cN x y) hc) wyX2_seenFrom q567 hG 0 rfl rfl ⟨by decide, by decide⟩ rfl rfl hl.1 (Nat.le_of_ble_eq_true rfl) ⟨Nat.le_refl 0, Nat.le_refl 0⟩ dX2_seen_27) (fun r3 S2 H locs hp hG => ?_)
      obtain ⟨rfl, hfv⟩ := hp
      refine lv_goto (tgt := 35) hx hb dX2_seen_30 (by decide) ?_
      exact g_iret hx hb hr hlk hG ⟨by unfold F_seen; rw [if_pos (pErr_1 h1 (Classical.byContradiction (fun q => c21 (ite10.mpr q))))], het.fv hfv⟩ dX2_seen_35
  · have h1 : ¬ hasB G x y = true := fun q => c6 (no01.mpr q)
    refine lv_iconst (v := (-1)) hx hb dX2_seen_9 (by decide) ?_
    exact g_iret hx hb hr hlk hG ⟨by unfold F_seen pErr; rw [if_neg h1, if_neg (by decide)], he⟩ dX2_seen_10
