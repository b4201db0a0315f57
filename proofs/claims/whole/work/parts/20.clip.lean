/-! ===== the class: blockers, openings, clipping ===== -/
def F_opening (G : GN) (x y f : Int32) : Int32 := if vErr G x y f = 0 then (if cntB (blk G (G 2) (cN x y) (nN f)) 192 = 1 then opB (blk G (G 2) (cN x y) (nN f)) 192 else -7) else vErr G x y f
def F_clipCost (G : GN) (x y f : Int32) : Int32 := if vErr G x y f = 0 then nI (costN G (G 2) (cN x y) (nN f)) else vErr G x y f
/-- but for the line and the heights a -/
def frA (a : Nat) (S S' : GS) : Prop := ∀ j, j ≠ a → j ≠ 13 → S' j = S j
theorem sc_get (S : GS) (f : Nat → Int32) {j : Nat} (h : j ≠ 13) : sc S 13 f j = S j := by unfold sc; rw [if_neg h]
theorem up2_ne (S : GS) (a i : Nat) (v : Int32) {j : Nat} (h : j ≠ a) : up2 S a i v j = S j := by unfold up2; rw [if_neg h]
theorem up2_eq (S : GS) (a i : Nat) (v : Int32) : up2 S a i v a = upd (S a) i v := by unfold up2; rw [if_pos rfl]
theorem nI_sum_le {n : Nat} (h : n ≤ 2 ^ 20) : n < 2 ^ 31 := by omega

set_option maxHeartbeats 4000000 in
set_option maxRecDepth 100000 in
theorem kX1_blockers {l : Launch} {D : va_G} {cy : ClassId} {hs : Nat → Nat} {X : va_W} (G : GN) (S : GS) (hw : wf G) (he : encC G S) (x y f : Int32) : Ct l D cy (wC cy hs X) yX1_blockers cX1_blockers 6 (some .int) 4 93 (S) [.ref (hs 0), .int x, .int y, .int f] (QI D (wC cy hs X) (fun r S' => r = F_blockers G x y f ∧ fr13 S S')) := by
  refine Ct.of wC_adr (plainFor_of_name (by decide)) (Nat.le_of_ble_eq_true rfl) ?_
  intro p e s m below meth c ls C hl hG
  obtain ⟨hx, hb, hml, hown, hts, hr, hlk⟩ := C
  have hl : lv_has ls 6 [(0, .ref (hs 0)), (1, .int x), (2, .int y), (3, .int f)] := hl
  refine lv_aload_n hx hb dX1_blockers_0 rfl (lv_at hl 0 rfl) ?_
  refine lv_iload_n hx hb dX1_blockers_1 rfl (lv_at hl 1 rfl) ?_
  refine lv_iload_n hx hb dX1_blockers_2 rfl (lv_at hl 2 rfl) ?_
  refine lv_iload_n hx hb dX1_blockers_3 rfl (lv_at hl 3 rfl) ?_
  refine g_calliE wC_adr hG (g_runV (As := [.int x, .int y, .int f]) (rest := []) ⟨hx, hb, hml, hown, hts⟩ wC_adr (kX1_viewError S x y f) wyX1_viewError q205 hG 0 rfl rfl ⟨by decide, by decide⟩ rfl rfl hl.1 (Nat.le_of_ble_eq_true rfl) ⟨Nat.le_refl 0, Nat.le_refl 0⟩ dX1_blockers_4) (fun H locs hG => ?_)
  refine g_top (y := vErr G x y f) (vErrC hw he x y f) ?_
  refine lv_istore (lv' := [(4, .int (vErr G x y f)), (0, .ref (hs 0)), (1, .int x), (2, .int y), (3, .int f)]) hx hb dX1_blockers_7 hl (by decide) rfl (fun ls hl => ?_)
  refine lv_iload hx hb dX1_blockers_9 (lv_at hl 0 rfl) ?_
  refine lv_if_eq (tgt := 17) hx hb dX1_blockers_11 (by decide) (fun c_e => ?_) (fun c_e => ?_)
  · obtain ⟨h1, h2, h3⟩ := vErr_0 c_e
    have hc := has_c hw h1
    have hfe := (ft_k h2).1
    have hk := (ft_k h2).2
    have hl : lv_has ls 6 [(4, .int (vErr G x y f)), (0, .ref (hs 0)), (1, .int x), (2, .int y), (3, .int (nI (nN f)))] := by rw [← hfe]; exact hl
    refine lv_aload_n hx hb dX1_blockers_17 rfl (lv_at hl 1 rfl) ?_
    refine lv_iload_n hx hb dX1_blockers_18 rfl (lv_at hl 2 rfl) ?_
    refine lv_iload_n hx hb dX1_blockers_19 rfl (lv_at hl 3 rfl) ?_
    refine g_stat (As := [.int x, .int y]) (rest := [.ref (hs 0)]) ⟨hx, hb, hml, hown, hts⟩ (kX1_cellAt x y) wyX1_cellAt q170 hG ⟨by decide, by decide⟩ rfl rfl hl.1 (Nat.le_of_ble_eq_true rfl) ⟨Nat.le_refl 0, Nat.le_refl 0⟩ dX1_blockers_20 (fun H locs hG => ?_)
    refine g_top (y := nI (cN x y)) (cellC h1) ?_
    refine lv_iload_n hx hb dX1_blockers_23 rfl (lv_at hl 4 rfl) ?_
    refine g_callvE wC_adr hG (g_runV (As := [.int (nI (cN x y)), .int (nI (nN f))]) (rest := []) ⟨hx, hb, hml, hown, hts⟩ wC_adr (kX1_aim G S hw he (cN x y) (nN f) hc hk) wyX1_aim q228 hG 0 rfl rfl ⟨by decide, by decide⟩ rfl rfl hl.1 (Nat.le_of_ble_eq_true rfl) ⟨Nat.le_refl 0, Nat.le_refl 0⟩ dX1_blockers_24) (fun H locs hG => ?_)
    refine lv_iconst (v := 0) hx hb dX1_blockers_27 (by decide) ?_
    refine lv_istore (lv' := [(5, .int 0), (4, .int (vErr G x y f)), (0, .ref (hs 0)), (1, .int x), (2, .int y), (3, .int (nI (nN f)))]) hx hb dX1_blockers_28 hl (by decide) rfl (fun ls hl => ?_)
    have hN0 := NG_pos hw hc hk h3
    refine g_rec (τ := Nat) (fun q S9 => S9 = sc S 13 (lnG G (cN x y) (nN f) q) ∧ q < NG G (cN x y) (nN f)) (fun q => 100 - q) (fun q => [(0, .ref (hs 0)), (5, .int (nI (cntB (fun j => bkS G (G 2) (cN x y) (nN f) (j + 1)) q)))]) 30 6 ?_ 0 _ _ _ _ (⟨rfl, hN0⟩) hG (lv_sub hl [2, 0] (rfl))
    intro x9 S9 H locs ls hI hG hl ih
    obtain ⟨rfl, hq⟩ := hI
    have hN9 := NG_le hw hc hk
    have hcq := cntB_le (fun j => bkS G (G 2) (cN x y) (nN f) (j + 1)) x9
    refine lv_iload hx hb dX1_blockers_30 (lv_at hl 1 rfl) ?_
    refine lv_bipush (v := 28) hx hb dX1_blockers_32 (by decide) ?_
    refine lv_icmp_ge (tgt := 54) hx hb dX1_blockers_34 (by decide) (fun c1 => absurd c1 (nI_ge (b := 28) (by omega) (by decide))) (fun c1 => ?_)
    refine lv_aload_n hx hb dX1_blockers_37 rfl (lv_at hl 0 rfl) ?_
    refine lv_aload_n hx hb dX1_blockers_38 rfl (lv_at hl 0 rfl) ?_
    refine g_get hx hb hts hown hG inX1 0 rfl rfl 3 (by decide) q108 (v := .ref (hs 3)) rfl dX1_blockers_39 ?_
    refine g_calliE wC_adr hG (g_runV (As := [.ref (hs 3)]) (rest := []) ⟨hx, hb, hml, hown, hts⟩ wC_adr (kX1_findNextBlocker_3 G S hw he.2.1 (G 2) he.2.2.1 (hG2 hw) (cN x y) (nN f) x9 hc hk (Nat.le_of_lt hq)) wyX1_findNextBlocker q252 hG 0 rfl rfl ⟨by decide, by decide⟩ rfl rfl hl.1 (Nat.le_of_ble_eq_true rfl) ⟨Nat.le_refl 0, Nat.le_refl 0⟩ dX1_blockers_42) (fun H locs hG => ?_)
    refine lv_if_eq (tgt := 54) hx hb dX1_blockers_45 (by decide) (fun c45 => ?_) (fun c45 => ?_)
    · have hm := ite01.mp c45
      refine lv_iload hx hb dX1_blockers_54 (lv_at hl 1 rfl) ?_
      exact g_iret hx hb hr hlk hG (⟨by unfold F_blockers; rw [if_pos c_e, cnt_blk hw hc hk h3, cnt_stop hq hm], fr13_sc S _⟩) dX1_blockers_56
    · have hns := nxt_spec (bk := (bkS G (G 2) (cN x y) (nN f))) (N := (NG G (cN x y) (nN f))) (Nat.le_of_lt hq)
      have hm : nxt (bkS G (G 2) (cN x y) (nN f)) (NG G (cN x y) (nN f)) x9 < NG G (cN x y) (nN f) := Nat.lt_of_le_of_ne hns.2.1 (fun q => c45 (ite01.mpr q))
      have hlt := hns.2.2.1 hq
      refine lv_iinc (v := nI ((cntB (fun j => bkS G (G 2) (cN x y) (nN f) (j + 1)) x9) + 1)) (lv' := [(5, .int (nI ((cntB (fun j => bkS G (G 2) (cN x y) (nN f) (j + 1)) x9) + 1))), (0, .ref (hs 0))]) hx hb dX1_blockers_48 hl (k := 1) rfl (nI_1 (cntB (fun j => bkS G (G 2) (cN x y) (nN f) (j + 1)) x9)) (by decide) rfl (fun ls hl => ?_)
      refine lv_goto (tgt := 30) hx hb dX1_blockers_51 (by decide) ?_
      exact ih (nxt (bkS G (G 2) (cN x y) (nN f)) (NG G (cN x y) (nN f)) x9) _ _ _ _ (by omega) ⟨rfl, hm⟩ hG (lv_sub hl [1, 0] (by rw [cnt_jump (Nat.le_of_lt hq) hm]; rfl))
  · refine lv_iload hx hb dX1_blockers_14 (lv_at hl 0 rfl) ?_
    exact g_iret hx hb hr hlk hG (⟨by unfold F_blockers; rw [if_neg c_e], fr13.rf⟩) dX1_blockers_16
set_option maxHeartbeats 4000000 in
set_option maxRecDepth 100000 in
theorem kX1_opening {l : Launch} {D : va_G} {cy : ClassId} {hs : Nat → Nat} {X : va_W} (G : GN) (S : GS) (hw : wf G) (he : encC G S) (x y f : Int32) : Ct l D cy (wC cy hs X) yX1_opening cX1_opening 6 (some .int) 4 93 (S) [.ref (hs 0), .int x, .int y, .int f] (QI D (wC cy hs X) (fun r S' => r = F_opening G x y f ∧ fr13 S S')) := by
  refine Ct.of wC_adr (plainFor_of_name (by decide)) (Nat.le_of_ble_eq_true rfl) ?_
  intro p e s m below meth c ls C hl hG
  obtain ⟨hx, hb, hml, hown, hts, hr, hlk⟩ := C
  have hl : lv_has ls 6 [(0, .ref (hs 0)), (1, .int x), (2, .int y), (3, .int f)] := hl
  refine lv_aload_n hx hb dX1_opening_0 rfl (lv_at hl 0 rfl) ?_
  refine lv_iload_n hx hb dX1_opening_1 rfl (lv_at hl 1 rfl) ?_
  refine lv_iload_n hx hb dX1_opening_2 rfl (lv_at hl 2 rfl) ?_
  refine lv_iload_n hx hb dX1_opening_3 rfl (lv_at hl 3 rfl) ?_
  refine g_calliE wC_adr hG (g_runV (As := [.int x, .int y, .int f]) (rest := []) ⟨hx, hb, hml, hown, hts⟩ wC_adr (kX1_viewError S x y f) wyX1_viewError q205 hG 0 rfl rfl ⟨by decide, by decide⟩ rfl rfl hl.1 (Nat.le_of_ble_eq_true rfl) ⟨Nat.le_refl 0, Nat.le_refl 0⟩ dX1_opening_4) (fun H locs hG => ?_)
  refine g_top (y := vErr G x y f) (vErrC hw he x y f) ?_
  refine lv_istore (lv' := [(4, .int (vErr G x y f)), (0, .ref (hs 0)), (1, .int x), (2, .int y), (3, .int f)]) hx hb dX1_opening_7 hl (by decide) rfl (fun ls hl => ?_)
  refine lv_iload hx hb dX1_opening_9 (lv_at hl 0 rfl) ?_
  refine lv_if_eq (tgt := 17) hx hb dX1_opening_11 (by decide) (fun c_e => ?_) (fun c_e => ?_)
  · obtain ⟨h1, h2, h3⟩ := vErr_0 c_e
    have hc := has_c hw h1
    have hfe := (ft_k h2).1
    have hk := (ft_k h2).2
    have hl : lv_has ls 6 [(4, .int (vErr G x y f)), (0, .ref (hs 0)), (1, .int x), (2, .int y), (3, .int (nI (nN f)))] := by rw [← hfe]; exact hl
    refine lv_aload_n hx hb dX1_opening_17 rfl (lv_at hl 1 rfl) ?_
    refine lv_iload_n hx hb dX1_opening_18 rfl (lv_at hl 2 rfl) ?_
    refine lv_iload_n hx hb dX1_opening_19 rfl (lv_at hl 3 rfl) ?_
    refine g_stat (As := [.int x, .int y]) (rest := [.ref (hs 0)]) ⟨hx, hb, hml, hown, hts⟩ (kX1_cellAt x y) wyX1_cellAt q170 hG ⟨by decide, by decide⟩ rfl rfl hl.1 (Nat.le_of_ble_eq_true rfl) ⟨Nat.le_refl 0, Nat.le_refl 0⟩ dX1_opening_20 (fun H locs hG => ?_)
    refine g_top (y := nI (cN x y)) (cellC h1) ?_
    refine lv_iload_n hx hb dX1_opening_23 rfl (lv_at hl 4 rfl) ?_
    refine g_callvE wC_adr hG (g_runV (As := [.int (nI (cN x y)), .int (nI (nN f))]) (rest := []) ⟨hx, hb, hml, hown, hts⟩ wC_adr (kX1_aim G S hw he (cN x y) (nN f) hc hk) wyX1_aim q228 hG 0 rfl rfl ⟨by decide, by decide⟩ rfl rfl hl.1 (Nat.le_of_ble_eq_true rfl) ⟨Nat.le_refl 0, Nat.le_refl 0⟩ dX1_opening_24) (fun H locs hG => ?_)
    refine lv_aload_n hx hb dX1_opening_27 rfl (lv_at hl 1 rfl) ?_
    refine lv_aload_n hx hb dX1_opening_28 rfl (lv_at hl 1 rfl) ?_
    refine g_get hx hb hts hown hG inX1 0 rfl rfl 3 (by decide) q108 (v := .ref (hs 3)) rfl dX1_opening_29 ?_
    refine g_calliE wC_adr hG (g_runV (As := [.ref (hs 3)]) (rest := []) ⟨hx, hb, hml, hown, hts⟩ wC_adr (kX1_findNextBlocker_3 G S hw he.2.1 (G 2) he.2.2.1 (hG2 hw) (cN x y) (nN f) 0 hc hk (Nat.zero_le _)) wyX1_findNextBlocker q252 hG 0 rfl rfl ⟨by decide, by decide⟩ rfl rfl hl.1 (Nat.le_of_ble_eq_true rfl) ⟨Nat.le_refl 0, Nat.le_refl 0⟩ dX1_opening_32) (fun H locs hG => ?_)
    refine lv_if_ne (tgt := 41) hx hb dX1_opening_35 (by decide) (fun c35 => ?_) (fun c35 => ?_)
    · have hns := nxt_spec (bk := (bkS G (G 2) (cN x y) (nN f))) (N := (NG G (cN x y) (nN f))) (n := 0) (Nat.zero_le _)
      have hm : nxt (bkS G (G 2) (cN x y) (nN f)) (NG G (cN x y) (nN f)) 0 < NG G (cN x y) (nN f) := Nat.lt_of_le_of_ne hns.2.1 (fun q => c35 (ite01.mpr q))
      have hob := one_blk (Hh := G 2) hw hc hk h3 hm
      refine lv_aload_n hx hb dX1_opening_41 rfl (lv_at hl 1 rfl) ?_
      refine g_get hx hb hts hown hG inX1 0 rfl rfl 13 (by decide) q118 (v := .ref (hs 13)) rfl dX1_opening_42 ?_
      refine g_calliE wC_adr hG (g_runV (As := []) (rest := []) ⟨hx, hb, hml, hown, hts⟩ wC_adr (kX0_crossedCell S (lnG G (cN x y) (nN f) (nxt (bkS G (G 2) (cN x y) (nN f)) (NG G (cN x y) (nN f)) 0)) ) wyX0_crossedCell q264 hG 9 rfl rfl ⟨by decide, by decide⟩ rfl rfl hl.1 (Nat.le_of_ble_eq_true rfl) ⟨Nat.le_refl 0, Nat.le_refl 0⟩ dX1_opening_45) (fun H locs hG => ?_)
      refine g_top (y := nI (csG G (cN x y) (nN f) (nxt (bkS G (G 2) (cN x y) (nN f)) (NG G (cN x y) (nN f)) 0))) (cross_F hc (hw.f hk).1 (Nat.le_of_lt hm)) ?_
      refine lv_istore (lv' := [(5, .int (nI (csG G (cN x y) (nN f) (nxt (bkS G (G 2) (cN x y) (nN f)) (NG G (cN x y) (nN f)) 0)))), (4, .int (vErr G x y f)), (0, .ref (hs 0)), (1, .int x), (2, .int y), (3, .int (nI (nN f)))]) hx hb dX1_opening_48 hl (by decide) rfl (fun ls hl => ?_)
      refine lv_aload_n hx hb dX1_opening_50 rfl (lv_at hl 2 rfl) ?_
      refine lv_aload_n hx hb dX1_opening_51 rfl (lv_at hl 2 rfl) ?_
      refine g_get hx hb hts hown hG inX1 0 rfl rfl 3 (by decide) q108 (v := .ref (hs 3)) rfl dX1_opening_52 ?_
      refine g_calliE wC_adr hG (g_runV (As := [.ref (hs 3)]) (rest := []) ⟨hx, hb, hml, hown, hts⟩ wC_adr (kX1_findNextBlocker_3 G S hw he.2.1 (G 2) he.2.2.1 (hG2 hw) (cN x y) (nN f) (nxt (bkS G (G 2) (cN x y) (nN f)) (NG G (cN x y) (nN f)) 0) hc hk (Nat.le_of_lt hm)) wyX1_findNextBlocker q252 hG 0 rfl rfl ⟨by decide, by decide⟩ rfl rfl hl.1 (Nat.le_of_ble_eq_true rfl) ⟨Nat.le_refl 0, Nat.le_refl 0⟩ dX1_opening_55) (fun H locs hG => ?_)
      refine lv_if_eq (tgt := 66) hx hb dX1_opening_58 (by decide) (fun c58 => ?_) (fun c58 => ?_)
      · refine lv_iload hx hb dX1_opening_66 (lv_at hl 0 rfl) ?_
        exact g_iret hx hb hr hlk hG (⟨by unfold F_opening; rw [if_pos c_e, if_pos (hob.1.mp (ite01.mp c58)), hob.2 (ite01.mp c58)], fr13_sc S _⟩) dX1_opening_68
      · refine lv_bipush (v := (-7)) hx hb dX1_opening_61 (by decide) ?_
        refine lv_goto (tgt := 68) hx hb dX1_opening_63 (by decide) ?_
        exact g_iret hx hb hr hlk hG (⟨by unfold F_opening; rw [if_pos c_e, if_neg (fun q => c58 (ite01.mpr (hob.1.mpr q)))], fr13_sc S _⟩) dX1_opening_68
    · have hvz := vis_iff (Hh := G 2) hw hc hk h3
      have vis0 : cntB (blk G (G 2) (cN x y) (nN f)) 192 = 0 := by rw [decide_eq_true (ite01.mp c35)] at hvz; unfold visB at hvz; simpa using hvz
      refine lv_bipush (v := (-7)) hx hb dX1_opening_38 (by decide) ?_
      exact g_iret hx hb hr hlk hG (⟨by unfold F_opening; rw [if_pos c_e, if_neg (by rw [vis0]; decide)], fr13_sc S _⟩) dX1_opening_40
  · refine lv_iload hx hb dX1_opening_14 (lv_at hl 0 rfl) ?_
    exact g_iret hx hb hr hlk hG (⟨by unfold F_opening; rw [if_neg c_e], fr13.rf⟩) dX1_opening_16
set_option maxHeartbeats 4000000 in
set_option maxRecDepth 100000 in
theorem kX1_lowerBlockers_3 {l : Launch} {D : va_G} {cy : ClassId} {hs : Nat → Nat} {X : va_W} (G : GN) (S : GS) (hw : wf G) (he : encC G S) (Hh : Nat → Nat) (hH : ∀ c, c < 192 → S 3 c = nI (Hh c)) (hH9 : ∀ c, c < 192 → Hh c ≤ 60) (p9 k : Nat) (hp : p9 < 192) (hk : k < G 0 2) (hpl : plB G p9 = true) : Ct l D cy (wC cy hs X) yX1_lowerBlockers cX1_lowerBlockers 8 (some .int) 4 93 (S) [.ref (hs 0), .int (nI p9), .int (nI k), .ref (hs 3)] (QI D (wC cy hs X) (fun r S' => r = nI (costN G Hh p9 k) ∧ (∀ c, c < 192 → S' 3 c = nI (lowN G Hh p9 k c)) ∧ frA 3 S S')) := by
  refine Ct.of wC_adr (plainFor_of_name (by decide)) (Nat.le_of_ble_eq_true rfl) ?_
  intro p e s m below meth c ls C hl hG
  obtain ⟨hx, hb, hml, hown, hts, hr, hlk⟩ := C
  have hl : lv_has ls 8 [(0, .ref (hs 0)), (1, .int (nI p9)), (2, .int (nI k)), (3, .ref (hs 3))] := hl
  refine lv_aload_n hx hb dX1_lowerBlockers_0 rfl (lv_at hl 0 rfl) ?_
  refine lv_iload_n hx hb dX1_lowerBlockers_1 rfl (lv_at hl 1 rfl) ?_
  refine lv_iload_n hx hb dX1_lowerBlockers_2 rfl (lv_at hl 2 rfl) ?_
  refine g_callvE wC_adr hG (g_runV (As := [.int (nI p9), .int (nI k)]) (rest := []) ⟨hx, hb, hml, hown, hts⟩ wC_adr (kX1_aim G S hw he p9 k hp hk) wyX1_aim q228 hG 0 rfl rfl ⟨by decide, by decide⟩ rfl rfl hl.1 (Nat.le_of_ble_eq_true rfl) ⟨Nat.le_refl 0, Nat.le_refl 0⟩ dX1_lowerBlockers_3) (fun H locs hG => ?_)
  refine lv_iconst (v := 0) hx hb dX1_lowerBlockers_6 (by decide) ?_
  refine lv_istore (lv' := [(4, .int 0), (0, .ref (hs 0)), (1, .int (nI p9)), (2, .int (nI k)), (3, .ref (hs 3))]) hx hb dX1_lowerBlockers_7 hl (by decide) rfl (fun ls hl => ?_)
  refine lv_iconst (v := 0) hx hb dX1_lowerBlockers_9 (by decide) ?_
  refine lv_istore (lv' := [(5, .int 0), (4, .int 0), (0, .ref (hs 0)), (1, .int (nI p9)), (2, .int (nI k)), (3, .ref (hs 3))]) hx hb dX1_lowerBlockers_10 hl (by decide) rfl (fun ls hl => ?_)
  have hN0 := NG_pos hw hp hk hpl
  have hA9 : ∀ c, c < 192 → sc S 13 (lnG G p9 k 0) 3 c = nI (lowQ G Hh p9 k 0 c) := fun c hc => hH c hc
  refine g_rec (τ := Nat × Nat) (fun z S9 => S9 13 = lnG G p9 k z.2 ∧ frA 3 S S9 ∧ (∀ c, c < 192 → S9 3 c = nI (lowQ G Hh p9 k z.2 c)) ∧ z.2 < NG G p9 k ∧ z.1 ≤ z.2) (fun z => 100 - z.2) (fun z => [(0, .ref (hs 0)), (3, .ref (hs 3)), (4, .int (nI (sumN (cstS G Hh p9 k) z.2))), (5, .int (nI z.1))]) 12 8 ?_ (0, 0) _ _ _ _ (⟨rfl, fun j _ h => sc_get S _ h, hA9, hN0, Nat.le_refl _⟩) hG (lv_sub hl [2, 5, 1, 0] (rfl))
  intro x9 S9 H locs ls hI hG hl ih
  obtain ⟨u, q⟩ := x9
  obtain ⟨h13, hfr, hA, hq, hu⟩ := hI
  replace h13 : S9 13 = lnG G p9 k q := h13
  replace hA : ∀ c, c < 192 → S9 3 c = nI (lowQ G Hh p9 k q c) := hA
  replace hq : q < NG G p9 k := hq
  replace hu : u ≤ q := hu
  have hN9 := NG_le hw hp hk
  have hG := hG.to13
  rw [h13] at hG
  have hnl := nxt_lowQ (Hh := Hh) hw hp hk (Nat.le_of_lt hq)
  have hK9 : ∀ c, c < 192 → S9 2 c = nI (G 1 c) := fun c hc => by rw [hfr 2 (by decide) (by decide)]; exact he.2.1 c hc
  refine lv_iload hx hb dX1_lowerBlockers_12 (lv_at hl 3 rfl) ?_
  refine lv_bipush (v := 28) hx hb dX1_lowerBlockers_14 (by decide) ?_
  refine lv_icmp_ge (tgt := 69) hx hb dX1_lowerBlockers_16 (by decide) (fun c1 => absurd c1 (nI_ge (b := 28) (by omega) (by decide))) (fun c1 => ?_)
  refine lv_aload_n hx hb dX1_lowerBlockers_19 rfl (lv_at hl 0 rfl) ?_
  refine lv_aload_n hx hb dX1_lowerBlockers_20 rfl (lv_at hl 1 rfl) ?_
  refine g_calliE wC_adr hG (g_runV (As := [.ref (hs 3)]) (rest := []) ⟨hx, hb, hml, hown, hts⟩ wC_adr (kX1_findNextBlocker_3 G S9 hw hK9 (lowQ G Hh p9 k q) hA (lowQ_le hH9 q) p9 k q hp hk (Nat.le_of_lt hq)) wyX1_findNextBlocker q252 hG 0 rfl rfl ⟨by decide, by decide⟩ rfl rfl hl.1 (Nat.le_of_ble_eq_true rfl) ⟨Nat.le_refl 0, Nat.le_refl 0⟩ dX1_lowerBlockers_21) (fun H locs hG => ?_)
  replace hG := hG.st (S' := sc S9 13 (lnG G p9 k (nxt (bkS G Hh p9 k) (NG G p9 k) q))) (by rw [hnl])
  refine lv_if_eq (tgt := 69) hx hb dX1_lowerBlockers_24 (by decide) (fun c24 => ?_) (fun c24 => ?_)
  · refine lv_iload hx hb dX1_lowerBlockers_69 (lv_at hl 2 rfl) ?_
    have hm := hnl.symm.trans (ite01.mp c24)
    exact g_iret hx hb hr hlk hG (⟨by rw [cst_end hw hp hk hpl hq hm], fun c hc => by rw [sc_get _ _ (by decide), hA c hc, lowQ_end hw hp hk hpl hq hm], fun j h1 h2 => by rw [sc_get _ _ h2]; exact hfr j h1 h2⟩) dX1_lowerBlockers_71
  · have hns := nxt_spec (bk := (bkS G Hh p9 k)) (N := (NG G p9 k)) (Nat.le_of_lt hq)
    have hm : nxt (bkS G Hh p9 k) (NG G p9 k) q < NG G p9 k := Nat.lt_of_le_of_ne hns.2.1 (fun z => c24 (ite01.mpr (hnl.trans z)))
    have hlt := hns.2.2.1 hq
    have hcl := csG_lt hw hp hk (Nat.le_of_lt hm)
    have hbl := bk_lt hw hp hk (Nat.le_of_lt hm) (hns.2.2.2.2 hm)
    refine lv_aload_n hx hb dX1_lowerBlockers_27 rfl (lv_at hl 0 rfl) ?_
    refine g_get hx hb hts hown hG inX1 0 rfl rfl 13 (by decide) q118 (v := .ref (hs 13)) rfl dX1_lowerBlockers_28 ?_
    refine g_calliE wC_adr hG (g_runV (As := []) (rest := []) ⟨hx, hb, hml, hown, hts⟩ wC_adr (kX0_crossedCell S9 (lnG G p9 k (nxt (bkS G Hh p9 k) (NG G p9 k) q)) ) wyX0_crossedCell q264 hG 9 rfl rfl ⟨by decide, by decide⟩ rfl rfl hl.1 (Nat.le_of_ble_eq_true rfl) ⟨Nat.le_refl 0, Nat.le_refl 0⟩ dX1_lowerBlockers_31) (fun H locs hG => ?_)
    refine g_top (y := nI (csG G p9 k (nxt (bkS G Hh p9 k) (NG G p9 k) q))) (cross_F hp (hw.f hk).1 (Nat.le_of_lt hm)) ?_
    refine lv_istore (lv' := [(6, .int (nI (csG G p9 k (nxt (bkS G Hh p9 k) (NG G p9 k) q)))), (0, .ref (hs 0)), (3, .ref (hs 3)), (4, .int (nI (sumN (cstS G Hh p9 k) q))), (5, .int (nI u))]) hx hb dX1_lowerBlockers_34 hl (by decide) rfl (fun ls hl => ?_)
    refine lv_aload_n hx hb dX1_lowerBlockers_36 rfl (lv_at hl 1 rfl) ?_
    refine g_get hx hb hts hown hG inX1 0 rfl rfl 13 (by decide) q118 (v := .ref (hs 13)) rfl dX1_lowerBlockers_37 ?_
    refine g_calliE wC_adr hG (g_runV (As := []) (rest := []) ⟨hx, hb, hml, hown, hts⟩ wC_adr (kX0_wholeClearance S9 (lnG G p9 k (nxt (bkS G Hh p9 k) (NG G p9 k) q))  (prt_ne hp (hw.f hk).1)) wyX0_wholeClearance q268 hG 9 rfl rfl ⟨by decide, by decide⟩ rfl rfl hl.1 (Nat.le_of_ble_eq_true rfl) ⟨Nat.le_refl 0, Nat.le_refl 0⟩ dX1_lowerBlockers_40) (fun H locs hG => ?_)
    refine g_top (y := nI (wn p9 (G 3 k) (eyN G p9) (G 2 (G 3 k)) (nxt (bkS G Hh p9 k) (NG G p9 k) q))) (whole_F hp (hw.f hk).1 (eyN_le G p9) (hw.c (hw.f hk).1).2.1 hm) ?_
    refine lv_istore (lv' := [(7, .int (nI (wn p9 (G 3 k) (eyN G p9) (G 2 (G 3 k)) (nxt (bkS G Hh p9 k) (NG G p9 k) q)))), (6, .int (nI (csG G p9 k (nxt (bkS G Hh p9 k) (NG G p9 k) q)))), (0, .ref (hs 0)), (3, .ref (hs 3)), (4, .int (nI (sumN (cstS G Hh p9 k) q))), (5, .int (nI u))]) hx hb dX1_lowerBlockers_43 hl (by decide) rfl (fun ls hl => ?_)
    refine lv_iload hx hb dX1_lowerBlockers_45 (lv_at hl 4 rfl) ?_
    refine lv_aload_n hx hb dX1_lowerBlockers_47 rfl (lv_at hl 3 rfl) ?_
    refine lv_iload hx hb dX1_lowerBlockers_48 (lv_at hl 1 rfl) ?_
    refine g_aldN (f := S9 3) hx hb hG 2 rfl (by decide) (csG G p9 k (nxt (bkS G Hh p9 k) (NG G p9 k) q)) (rfl) (hcl) dX1_lowerBlockers_50 ?_
    refine g_top (y := nI (Hh (csG G p9 k (nxt (bkS G Hh p9 k) (NG G p9 k) q)))) (by rw [hA _ hcl, lowQ_far hw hp hk hlt (Nat.le_of_lt hm)]) ?_
    refine lv_iload hx hb dX1_lowerBlockers_51 (lv_at hl 0 rfl) ?_
    refine lv_isub hx hb dX1_lowerBlockers_53 ?_
    refine lv_iadd hx hb dX1_lowerBlockers_54 ?_
    refine g_top (y := nI (sumN (cstS G Hh p9 k) (nxt (bkS G Hh p9 k) (NG G p9 k) q))) (by rw [pk_sub (Nat.le_of_lt hbl), nI_add, cst_jump hq hm]) ?_
    refine lv_istore (lv' := [(4, .int (nI (sumN (cstS G Hh p9 k) (nxt (bkS G Hh p9 k) (NG G p9 k) q)))), (7, .int (nI (wn p9 (G 3 k) (eyN G p9) (G 2 (G 3 k)) (nxt (bkS G Hh p9 k) (NG G p9 k) q)))), (6, .int (nI (csG G p9 k (nxt (bkS G Hh p9 k) (NG G p9 k) q)))), (0, .ref (hs 0)), (3, .ref (hs 3)), (5, .int (nI u))]) hx hb dX1_lowerBlockers_55 hl (by decide) rfl (fun ls hl => ?_)
    refine lv_aload_n hx hb dX1_lowerBlockers_57 rfl (lv_at hl 4 rfl) ?_
    refine lv_iload hx hb dX1_lowerBlockers_58 (lv_at hl 2 rfl) ?_
    refine lv_iload hx hb dX1_lowerBlockers_60 (lv_at hl 1 rfl) ?_
    refine g_astN (f := S9 3) hx hb hG 2 rfl (by decide) (csG G p9 k (nxt (bkS G Hh p9 k) (NG G p9 k) q)) (rfl) (hcl) (sc (up2 S9 3 (csG G p9 k (nxt (bkS G Hh p9 k) (NG G p9 k) q)) (nI (wn p9 (G 3 k) (eyN G p9) (G 2 (G 3 k)) (nxt (bkS G Hh p9 k) (NG G p9 k) q)))) 13 (lnG G p9 k (nxt (bkS G Hh p9 k) (NG G p9 k) q))) (rfl) dX1_lowerBlockers_62 (fun H locs hG => ?_)
    refine lv_iinc (v := nI (u + 1)) (lv' := [(5, .int (nI (u + 1))), (4, .int (nI (sumN (cstS G Hh p9 k) (nxt (bkS G Hh p9 k) (NG G p9 k) q)))), (7, .int (nI (wn p9 (G 3 k) (eyN G p9) (G 2 (G 3 k)) (nxt (bkS G Hh p9 k) (NG G p9 k) q)))), (6, .int (nI (csG G p9 k (nxt (bkS G Hh p9 k) (NG G p9 k) q)))), (0, .ref (hs 0)), (3, .ref (hs 3))]) hx hb dX1_lowerBlockers_63 hl (k := 5) rfl (nI_1 u) (by decide) rfl (fun ls hl => ?_)
    refine lv_goto (tgt := 12) hx hb dX1_lowerBlockers_66 (by decide) ?_
    refine ih (u + 1, nxt (bkS G Hh p9 k) (NG G p9 k) q) _ _ _ _ (by show 100 - nxt (bkS G Hh p9 k) (NG G p9 k) q < 100 - q; omega) ⟨?_, ?_, ?_, hm, by show u + 1 ≤ nxt (bkS G Hh p9 k) (NG G p9 k) q; omega⟩ hG (lv_sub hl [4, 5, 1, 0] rfl)
    · rfl
    · intro j h1 h2
      rw [sc_get _ _ h2, up2_ne _ _ _ _ h1]; exact hfr j h1 h2
    · intro c hc
      show _ = nI (lowQ G Hh p9 k (nxt (bkS G Hh p9 k) (NG G p9 k) q) c)
      rw [sc_get _ _ (by decide), up2_eq, lowQ_step hw hp hk hq hm c]
      unfold upd
      by_cases g : c = csG G p9 k (nxt (bkS G Hh p9 k) (NG G p9 k) q)
      · rw [if_pos g, if_pos g]
      · rw [if_neg g, if_neg g]; exact hA c hc
set_option maxHeartbeats 4000000 in
set_option maxRecDepth 100000 in
theorem kX1_lowerBlockers_12 {l : Launch} {D : va_G} {cy : ClassId} {hs : Nat → Nat} {X : va_W} (G : GN) (S : GS) (hw : wf G) (he : encC G S) (Hh : Nat → Nat) (hH : ∀ c, c < 192 → S 12 c = nI (Hh c)) (hH9 : ∀ c, c < 192 → Hh c ≤ 60) (p9 k : Nat) (hp : p9 < 192) (hk : k < G 0 2) (hpl : plB G p9 = true) : Ct l D cy (wC cy hs X) yX1_lowerBlockers cX1_lowerBlockers 8 (some .int) 4 93 (S) [.ref (hs 0), .int (nI p9), .int (nI k), .ref (hs 12)] (QI D (wC cy hs X) (fun r S' => r = nI (costN G Hh p9 k) ∧ (∀ c, c < 192 → S' 12 c = nI (lowN G Hh p9 k c)) ∧ frA 12 S S')) := by
  refine Ct.of wC_adr (plainFor_of_name (by decide)) (Nat.le_of_ble_eq_true rfl) ?_
  intro p e s m below meth c ls C hl hG
  obtain ⟨hx, hb, hml, hown, hts, hr, hlk⟩ := C
  have hl : lv_has ls 8 [(0, .ref (hs 0)), (1, .int (nI p9)), (2, .int (nI k)), (3, .ref (hs 12))] := hl
  refine lv_aload_n hx hb dX1_lowerBlockers_0 rfl (lv_at hl 0 rfl) ?_
  refine lv_iload_n hx hb dX1_lowerBlockers_1 rfl (lv_at hl 1 rfl) ?_
  refine lv_iload_n hx hb dX1_lowerBlockers_2 rfl (lv_at hl 2 rfl) ?_
  refine g_callvE wC_adr hG (g_runV (As := [.int (nI p9), .int (nI k)]) (rest := []) ⟨hx, hb, hml, hown, hts⟩ wC_adr (kX1_aim G S hw he p9 k hp hk) wyX1_aim q228 hG 0 rfl rfl ⟨by decide, by decide⟩ rfl rfl hl.1 (Nat.le_of_ble_eq_true rfl) ⟨Nat.le_refl 0, Nat.le_refl 0⟩ dX1_lowerBlockers_3) (fun H locs hG => ?_)
  refine lv_iconst (v := 0) hx hb dX1_lowerBlockers_6 (by decide) ?_
  refine lv_istore (lv' := [(4, .int 0), (0, .ref (hs 0)), (1, .int (nI p9)), (2, .int (nI k)), (3, .ref (hs 12))]) hx hb dX1_lowerBlockers_7 hl (by decide) rfl (fun ls hl => ?_)
  refine lv_iconst (v := 0) hx hb dX1_lowerBlockers_9 (by decide) ?_
  refine lv_istore (lv' := [(5, .int 0), (4, .int 0), (0, .ref (hs 0)), (1, .int (nI p9)), (2, .int (nI k)), (3, .ref (hs 12))]) hx hb dX1_lowerBlockers_10 hl (by decide) rfl (fun ls hl => ?_)
  have hN0 := NG_pos hw hp hk hpl
  have hA9 : ∀ c, c < 192 → sc S 13 (lnG G p9 k 0) 12 c = nI (lowQ G Hh p9 k 0 c) := fun c hc => hH c hc
  refine g_rec (τ := Nat × Nat) (fun z S9 => S9 13 = lnG G p9 k z.2 ∧ frA 12 S S9 ∧ (∀ c, c < 192 → S9 12 c = nI (lowQ G Hh p9 k z.2 c)) ∧ z.2 < NG G p9 k ∧ z.1 ≤ z.2) (fun z => 100 - z.2) (fun z => [(0, .ref (hs 0)), (3, .ref (hs 12)), (4, .int (nI (sumN (cstS G Hh p9 k) z.2))), (5, .int (nI z.1))]) 12 8 ?_ (0, 0) _ _ _ _ (⟨rfl, fun j _ h => sc_get S _ h, hA9, hN0, Nat.le_refl _⟩) hG (lv_sub hl [2, 5, 1, 0] (rfl))
  intro x9 S9 H locs ls hI hG hl ih
  obtain ⟨u, q⟩ := x9
  obtain ⟨h13, hfr, hA, hq, hu⟩ := hI
  replace h13 : S9 13 = lnG G p9 k q := h13
  replace hA : ∀ c, c < 192 → S9 12 c = nI (lowQ G Hh p9 k q c) := hA
  replace hq : q < NG G p9 k := hq
  replace hu : u ≤ q := hu
  have hN9 := NG_le hw hp hk
  have hG := hG.to13
  rw [h13] at hG
  have hnl := nxt_lowQ (Hh := Hh) hw hp hk (Nat.le_of_lt hq)
  have hK9 : ∀ c, c < 192 → S9 2 c = nI (G 1 c) := fun c hc => by rw [hfr 2 (by decide) (by decide)]; exact he.2.1 c hc
  refine lv_iload hx hb dX1_lowerBlockers_12 (lv_at hl 3 rfl) ?_
  refine lv_bipush (v := 28) hx hb dX1_lowerBlockers_14 (by decide) ?_
  refine lv_icmp_ge (tgt := 69) hx hb dX1_lowerBlockers_16 (by decide) (fun c1 => absurd c1 (nI_ge (b := 28) (by omega) (by decide))) (fun c1 => ?_)
  refine lv_aload_n hx hb dX1_lowerBlockers_19 rfl (lv_at hl 0 rfl) ?_
  refine lv_aload_n hx hb dX1_lowerBlockers_20 rfl (lv_at hl 1 rfl) ?_
  refine g_calliE wC_adr hG (g_runV (As := [.ref (hs 12)]) (rest := []) ⟨hx, hb, hml, hown, hts⟩ wC_adr (kX1_findNextBlocker_12 G S9 hw hK9 (lowQ G Hh p9 k q) hA (lowQ_le hH9 q) p9 k q hp hk (Nat.le_of_lt hq)) wyX1_findNextBlocker q252 hG 0 rfl rfl ⟨by decide, by decide⟩ rfl rfl hl.1 (Nat.le_of_ble_eq_true rfl) ⟨Nat.le_refl 0, Nat.le_refl 0⟩ dX1_lowerBlockers_21) (fun H locs hG => ?_)
  replace hG := hG.st (S' := sc S9 13 (lnG G p9 k (nxt (bkS G Hh p9 k) (NG G p9 k) q))) (by rw [hnl])
  refine lv_if_eq (tgt := 69) hx hb dX1_lowerBlockers_24 (by decide) (fun c24 => ?_) (fun c24 => ?_)
  · refine lv_iload hx hb dX1_lowerBlockers_69 (lv_at hl 2 rfl) ?_
    have hm := hnl.symm.trans (ite01.mp c24)
    exact g_iret hx hb hr hlk hG (⟨by rw [cst_end hw hp hk hpl hq hm], fun c hc => by rw [sc_get _ _ (by decide), hA c hc, lowQ_end hw hp hk hpl hq hm], fun j h1 h2 => by rw [sc_get _ _ h2]; exact hfr j h1 h2⟩) dX1_lowerBlockers_71
  · have hns := nxt_spec (bk := (bkS G Hh p9 k)) (N := (NG G p9 k)) (Nat.le_of_lt hq)
    have hm : nxt (bkS G Hh p9 k) (NG G p9 k) q < NG G p9 k := Nat.lt_of_le_of_ne hns.2.1 (fun z => c24 (ite01.mpr (hnl.trans z)))
    have hlt := hns.2.2.1 hq
    have hcl := csG_lt hw hp hk (Nat.le_of_lt hm)
    have hbl := bk_lt hw hp hk (Nat.le_of_lt hm) (hns.2.2.2.2 hm)
    refine lv_aload_n hx hb dX1_lowerBlockers_27 rfl (lv_at hl 0 rfl) ?_
    refine g_get hx hb hts hown hG inX1 0 rfl rfl 13 (by decide) q118 (v := .ref (hs 13)) rfl dX1_lowerBlockers_28 ?_
    refine g_calliE wC_adr hG (g_runV (As := []) (rest := []) ⟨hx, hb, hml, hown, hts⟩ wC_adr (kX0_crossedCell S9 (lnG G p9 k (nxt (bkS G Hh p9 k) (NG G p9 k) q)) ) wyX0_crossedCell q264 hG 9 rfl rfl ⟨by decide, by decide⟩ rfl rfl hl.1 (Nat.le_of_ble_eq_true rfl) ⟨Nat.le_refl 0, Nat.le_refl 0⟩ dX1_lowerBlockers_31) (fun H locs hG => ?_)
    refine g_top (y := nI (csG G p9 k (nxt (bkS G Hh p9 k) (NG G p9 k) q))) (cross_F hp (hw.f hk).1 (Nat.le_of_lt hm)) ?_
    refine lv_istore (lv' := [(6, .int (nI (csG G p9 k (nxt (bkS G Hh p9 k) (NG G p9 k) q)))), (0, .ref (hs 0)), (3, .ref (hs 12)), (4, .int (nI (sumN (cstS G Hh p9 k) q))), (5, .int (nI u))]) hx hb dX1_lowerBlockers_34 hl (by decide) rfl (fun ls hl => ?_)
    refine lv_aload_n hx hb dX1_lowerBlockers_36 rfl (lv_at hl 1 rfl) ?_
    refine g_get hx hb hts hown hG inX1 0 rfl rfl 13 (by decide) q118 (v := .ref (hs 13)) rfl dX1_lowerBlockers_37 ?_
    refine g_calliE wC_adr hG (g_runV (As := []) (rest := []) ⟨hx, hb, hml, hown, hts⟩ wC_adr (kX0_wholeClearance S9 (lnG G p9 k (nxt (bkS G Hh p9 k) (NG G p9 k) q))  (prt_ne hp (hw.f hk).1)) wyX0_wholeClearance q268 hG 9 rfl rfl ⟨by decide, by decide⟩ rfl rfl hl.1 (Nat.le_of_ble_eq_true rfl) ⟨Nat.le_refl 0, Nat.le_refl 0⟩ dX1_lowerBlockers_40) (fun H locs hG => ?_)
    refine g_top (y := nI (wn p9 (G 3 k) (eyN G p9) (G 2 (G 3 k)) (nxt (bkS G Hh p9 k) (NG G p9 k) q))) (whole_F hp (hw.f hk).1 (eyN_le G p9) (hw.c (hw.f hk).1).2.1 hm) ?_
    refine lv_istore (lv' := [(7, .int (nI (wn p9 (G 3 k) (eyN G p9) (G 2 (G 3 k)) (nxt (bkS G Hh p9 k) (NG G p9 k) q)))), (6, .int (nI (csG G p9 k (nxt (bkS G Hh p9 k) (NG G p9 k) q)))), (0, .ref (hs 0)), (3, .ref (hs 12)), (4, .int (nI (sumN (cstS G Hh p9 k) q))), (5, .int (nI u))]) hx hb dX1_lowerBlockers_43 hl (by decide) rfl (fun ls hl => ?_)
    refine lv_iload hx hb dX1_lowerBlockers_45 (lv_at hl 4 rfl) ?_
    refine lv_aload_n hx hb dX1_lowerBlockers_47 rfl (lv_at hl 3 rfl) ?_
    refine lv_iload hx hb dX1_lowerBlockers_48 (lv_at hl 1 rfl) ?_
    refine g_aldN (f := S9 12) hx hb hG 8 rfl (by decide) (csG G p9 k (nxt (bkS G Hh p9 k) (NG G p9 k) q)) (rfl) (hcl) dX1_lowerBlockers_50 ?_
    refine g_top (y := nI (Hh (csG G p9 k (nxt (bkS G Hh p9 k) (NG G p9 k) q)))) (by rw [hA _ hcl, lowQ_far hw hp hk hlt (Nat.le_of_lt hm)]) ?_
    refine lv_iload hx hb dX1_lowerBlockers_51 (lv_at hl 0 rfl) ?_
    refine lv_isub hx hb dX1_lowerBlockers_53 ?_
    refine lv_iadd hx hb dX1_lowerBlockers_54 ?_
    refine g_top (y := nI (sumN (cstS G Hh p9 k) (nxt (bkS G Hh p9 k) (NG G p9 k) q))) (by rw [pk_sub (Nat.le_of_lt hbl), nI_add, cst_jump hq hm]) ?_
    refine lv_istore (lv' := [(4, .int (nI (sumN (cstS G Hh p9 k) (nxt (bkS G Hh p9 k) (NG G p9 k) q)))), (7, .int (nI (wn p9 (G 3 k) (eyN G p9) (G 2 (G 3 k)) (nxt (bkS G Hh p9 k) (NG G p9 k) q)))), (6, .int (nI (csG G p9 k (nxt (bkS G Hh p9 k) (NG G p9 k) q)))), (0, .ref (hs 0)), (3, .ref (hs 12)), (5, .int (nI u))]) hx hb dX1_lowerBlockers_55 hl (by decide) rfl (fun ls hl => ?_)
    refine lv_aload_n hx hb dX1_lowerBlockers_57 rfl (lv_at hl 4 rfl) ?_
    refine lv_iload hx hb dX1_lowerBlockers_58 (lv_at hl 2 rfl) ?_
    refine lv_iload hx hb dX1_lowerBlockers_60 (lv_at hl 1 rfl) ?_
    refine g_astN (f := S9 12) hx hb hG 8 rfl (by decide) (csG G p9 k (nxt (bkS G Hh p9 k) (NG G p9 k) q)) (rfl) (hcl) (sc (up2 S9 12 (csG G p9 k (nxt (bkS G Hh p9 k) (NG G p9 k) q)) (nI (wn p9 (G 3 k) (eyN G p9) (G 2 (G 3 k)) (nxt (bkS G Hh p9 k) (NG G p9 k) q)))) 13 (lnG G p9 k (nxt (bkS G Hh p9 k) (NG G p9 k) q))) (rfl) dX1_lowerBlockers_62 (fun H locs hG => ?_)
    refine lv_iinc (v := nI (u + 1)) (lv' := [(5, .int (nI (u + 1))), (4, .int (nI (sumN (cstS G Hh p9 k) (nxt (bkS G Hh p9 k) (NG G p9 k) q)))), (7, .int (nI (wn p9 (G 3 k) (eyN G p9) (G 2 (G 3 k)) (nxt (bkS G Hh p9 k) (NG G p9 k) q)))), (6, .int (nI (csG G p9 k (nxt (bkS G Hh p9 k) (NG G p9 k) q)))), (0, .ref (hs 0)), (3, .ref (hs 12))]) hx hb dX1_lowerBlockers_63 hl (k := 5) rfl (nI_1 u) (by decide) rfl (fun ls hl => ?_)
    refine lv_goto (tgt := 12) hx hb dX1_lowerBlockers_66 (by decide) ?_
    refine ih (u + 1, nxt (bkS G Hh p9 k) (NG G p9 k) q) _ _ _ _ (by show 100 - nxt (bkS G Hh p9 k) (NG G p9 k) q < 100 - q; omega) ⟨?_, ?_, ?_, hm, by show u + 1 ≤ nxt (bkS G Hh p9 k) (NG G p9 k) q; omega⟩ hG (lv_sub hl [4, 5, 1, 0] rfl)
    · rfl
    · intro j h1 h2
      rw [sc_get _ _ h2, up2_ne _ _ _ _ h1]; exact hfr j h1 h2
    · intro c hc
      show _ = nI (lowQ G Hh p9 k (nxt (bkS G Hh p9 k) (NG G p9 k) q) c)
      rw [sc_get _ _ (by decide), up2_eq, lowQ_step hw hp hk hq hm c]
      unfold upd
      by_cases g : c = csG G p9 k (nxt (bkS G Hh p9 k) (NG G p9 k) q)
      · rw [if_pos g, if_pos g]
      · rw [if_neg g, if_neg g]; exact hA c hc
