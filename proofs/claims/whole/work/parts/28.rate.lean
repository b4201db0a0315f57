/-! ===== the class: the prospect ===== -/
theorem sq_abs (a : Int) : a * a = ((a.natAbs * a.natAbs : Nat) : Int) := (Int.natAbs_mul_self (a := a)).symm
theorem far_I (p t : Nat) : zI (aXz p t) * zI (aXz p t) + zI (aYz p t) * zI (aYz p t) = nI (farN p t) := by
  rw [zI_mul, zI_mul, zI_add, zI_nat, sq_abs, sq_abs, aX_abs, aY_abs]; rfl
theorem gt_0 {n : Nat} (h0 : 0 < n) (h : n < 2 ^ 31) : ¬ nI n ≤ 0 := by
  rw [Int32.le_iff_toInt_le, Int32.toInt_zero, nI_toInt h]; omega
theorem pr_hit {G : GN} {p k : Nat} (h : visB G (G 2) p k = true) : prL G p (k + 1) = FP.dadd (prL G p k) (prT G p k) := if_pos h
theorem pr_miss {G : GN} {p k : Nat} (h : ¬ visB G (G 2) p k = true) : prL G p (k + 1) = prL G p k := if_neg h
theorem bp_hit {G : GN} {d c : Nat} (h1 : bpI G d c = true) (h2 : gtB (prN G c) (bpL G d c).2 = true) : bpL G d (c + 1) = (nI c, prN G c) := if_pos (by rw [h1, h2]; rfl)
theorem bp_no {G : GN} {d c : Nat} (h1 : ¬ bpI G d c = true) : bpL G d (c + 1) = bpL G d c := if_neg (fun q => h1 (Bool.and_eq_true _ _ ▸ q).1)
theorem bp_less {G : GN} {d c : Nat} (h2 : ¬ gtB (prN G c) (bpL G d c).2 = true) : bpL G d (c + 1) = bpL G d c := if_neg (fun q => h2 (Bool.and_eq_true _ _ ▸ q).2)
theorem ws_hit {G : GN} {i : Nat} (h : plB G (G 5 i) = true) : wsL G (i + 1) = FP.dadd (wsL G i) (prN G (G 5 i)) := if_pos h
theorem ws_miss {G : GN} {i : Nat} (h : ¬ plB G (G 5 i) = true) : wsL G (i + 1) = wsL G i := if_neg h
theorem hasN {G : GN} (hw : wf G) {c : Nat} (hc : c < 192) : hasB G (nI (c % 16)) (nI (c / 16)) = (decide (c % 16 < G 0 0) && decide (c / 16 < G 0 1)) := by
  unfold hasB
  rw [nI_toInt (by omega), nI_toInt (by omega), decide_eq_true (show (0 : Int) ≤ ((c % 16 : Nat) : Int) by omega), decide_eq_true (show (0 : Int) ≤ ((c / 16 : Nat) : Int) by omega), Bool.true_and, Bool.and_true]
  congr 1
  · exact decide_eq_decide.mpr (by omega)
  · exact decide_eq_decide.mpr (by omega)
theorem pk_pl {G : GN} {k : Int32} (h : pkB k = true) {c : Nat} (hc : G 1 c = nN k) : plB G c = true := by
  unfold plB
  rw [hc]
  rcases (pkB_n h).2 with q | q | q <;> rw [q] <;> rfl
set_option maxHeartbeats 4000000 in
set_option maxRecDepth 100000 in
theorem kX1_prospectOf {l : Launch} {D : va_G} {cy : ClassId} {hs : Nat → Nat} {X : va_W} (G : GN) (S : GS) (hw : wf G) (he : encC G S) (p9 : Nat) (hp : p9 < 192) (hpl : plB G p9 = true) : Ct l D cy (wC cy hs X) yX1_prospectOf cX1_prospectOf 9 (some .double) 5 116 (S) [.ref (hs 0), .int (nI p9)] (QD D (wC cy hs X) (fun r S' => r = prN G p9 ∧ fr13 S S')) := by
  refine Ct.of wC_adr (plainFor_of_name (by decide)) (Nat.le_of_ble_eq_true rfl) ?_
  intro p e s m below meth c ls C hl hG
  obtain ⟨hx, hb, hml, hown, hts, hr, hlk⟩ := C
  have hl : lv_has ls 9 [(0, .ref (hs 0)), (1, .int (nI p9))] := hl
  refine lv_dconst0 hx hb dX1_prospectOf_0 ?_
  refine lv_dstore_n (lv' := [(2, .double FP.dconst0), (0, .ref (hs 0)), (1, .int (nI p9))]) hx hb dX1_prospectOf_1 rfl hl (by decide) rfl (fun ls hl => ?_)
  refine lv_iconst (v := 0) hx hb dX1_prospectOf_2 (by decide) ?_
  refine lv_istore (lv' := [(4, .int 0), (2, .double FP.dconst0), (0, .ref (hs 0)), (1, .int (nI p9))]) hx hb dX1_prospectOf_3 hl (by decide) rfl (fun ls hl => ?_)
  refine g_rec (τ := Nat) (fun j S9 => j ≤ G 0 2 ∧ fr13 S S9) (fun j => 100 - j) (fun j => [(0, .ref (hs 0)), (1, .int (nI p9)), (2, .double (prL G p9 j)), (4, .int (nI j))]) 5 9 ?_ 0 _ _ _ _ (⟨Nat.zero_le _, fr13.rf⟩) hG (lv_sub hl [2, 3, 1, 0] (rfl))
  intro x9 S9 H locs ls hI hG hl ih
  obtain ⟨hj, hfr0⟩ := hI
  have he9 := he.fr hfr0
  have hnf := hw.1.2.2.2.2.1
  refine lv_iload hx hb dX1_prospectOf_5 (lv_at hl 3 rfl) ?_
  refine lv_aload_n hx hb dX1_prospectOf_7 rfl (lv_at hl 0 rfl) ?_
  refine g_get hx hb hts hown hG inX1 0 rfl rfl 4 (by decide) q109 (v := .int (S9 0 4)) rfl dX1_prospectOf_8 ?_
  refine g_top (y := nI (G 0 2)) (he9.1.2.2.1) ?_
  refine lv_icmp_ge (tgt := 108) hx hb dX1_prospectOf_11 (by decide) (fun c11 => ?_) (fun c11 => ?_)
  · have hjl : G 0 2 ≤ x9 := (nI_leI (by omega) (by omega)).mp c11
    refine lv_dload_n hx hb dX1_prospectOf_108 rfl (lv_at hl 2 rfl) ?_
    exact g_dret hx hb hr hlk hG ⟨by unfold prN; rw [show x9 = G 0 2 by omega], hfr0⟩ dX1_prospectOf_109
  · have hjl : x9 < G 0 2 := Nat.lt_of_not_le (fun q => c11 (nI_le q (by omega)))
    refine lv_aload_n hx hb dX1_prospectOf_14 rfl (lv_at hl 0 rfl) ?_
    refine g_get hx hb hts hown hG inX1 0 rfl rfl 5 (by decide) q110 (v := .ref (hs 5)) rfl dX1_prospectOf_15 ?_
    refine lv_iload hx hb dX1_prospectOf_18 (lv_at hl 3 rfl) ?_
    refine g_aldN (f := S9 5) hx hb hG 3 rfl (by decide) (x9) (rfl) (by omega) dX1_prospectOf_20 ?_
    refine g_top (y := nI (G 3 x9)) ((he9.2.2.2.1 _ hjl).1) ?_
    refine lv_istore (lv' := [(5, .int (nI (G 3 x9))), (0, .ref (hs 0)), (1, .int (nI p9)), (2, .double (prL G p9 x9)), (4, .int (nI x9))]) hx hb dX1_prospectOf_21 hl (by decide) rfl (fun ls hl => ?_)
    refine lv_iload hx hb dX1_prospectOf_23 (lv_at hl 0 rfl) ?_
    refine g_stat (As := [.int (nI (G 3 x9))]) (rest := []) ⟨hx, hb, hml, hown, hts⟩ (kX1_columnOf (nI (G 3 x9))) wyX1_columnOf q321 hG ⟨by decide, by decide⟩ rfl rfl hl.1 (Nat.le_of_ble_eq_true rfl) ⟨Nat.le_refl 0, Nat.le_refl 0⟩ dX1_prospectOf_25 (fun H locs hG => ?_)
    refine g_top (y := nI (G 3 x9 % 16)) (col_nI (hw.f hjl).1) ?_
    refine lv_iload_n hx hb dX1_prospectOf_28 rfl (lv_at hl 2 rfl) ?_
    refine g_stat (As := [.int (nI p9)]) (rest := [.int (nI (G 3 x9 % 16))]) ⟨hx, hb, hml, hown, hts⟩ (kX1_columnOf (nI p9)) wyX1_columnOf q321 hG ⟨by decide, by decide⟩ rfl rfl hl.1 (Nat.le_of_ble_eq_true rfl) ⟨Nat.le_refl 0, Nat.le_refl 0⟩ dX1_prospectOf_29 (fun H locs hG => ?_)
    refine g_top (y := nI (p9 % 16)) (col_nI hp) ?_
    refine lv_isub hx hb dX1_prospectOf_32 ?_
    refine g_top (y := zI (aXz p9 (G 3 x9))) (subX p9 _) ?_
    refine lv_istore (lv' := [(6, .int (zI (aXz p9 (G 3 x9)))), (5, .int (nI (G 3 x9))), (0, .ref (hs 0)), (1, .int (nI p9)), (2, .double (prL G p9 x9)), (4, .int (nI x9))]) hx hb dX1_prospectOf_33 hl (by decide) rfl (fun ls hl => ?_)
    refine lv_iload hx hb dX1_prospectOf_35 (lv_at hl 1 rfl) ?_
    refine g_stat (As := [.int (nI (G 3 x9))]) (rest := []) ⟨hx, hb, hml, hown, hts⟩ (kX1_rowOf (nI (G 3 x9))) wyX1_rowOf q323 hG ⟨by decide, by decide⟩ rfl rfl hl.1 (Nat.le_of_ble_eq_true rfl) ⟨Nat.le_refl 0, Nat.le_refl 0⟩ dX1_prospectOf_37 (fun H locs hG => ?_)
    refine g_top (y := nI (G 3 x9 / 16)) (row_nI (hw.f hjl).1) ?_
    refine lv_iload_n hx hb dX1_prospectOf_40 rfl (lv_at hl 3 rfl) ?_
    refine g_stat (As := [.int (nI p9)]) (rest := [.int (nI (G 3 x9 / 16))]) ⟨hx, hb, hml, hown, hts⟩ (kX1_rowOf (nI p9)) wyX1_rowOf q323 hG ⟨by decide, by decide⟩ rfl rfl hl.1 (Nat.le_of_ble_eq_true rfl) ⟨Nat.le_refl 0, Nat.le_refl 0⟩ dX1_prospectOf_41 (fun H locs hG => ?_)
    refine g_top (y := nI (p9 / 16)) (row_nI hp) ?_
    refine lv_isub hx hb dX1_prospectOf_44 ?_
    refine g_top (y := zI (aYz p9 (G 3 x9))) (subY p9 _) ?_
    refine lv_istore (lv' := [(7, .int (zI (aYz p9 (G 3 x9)))), (6, .int (zI (aXz p9 (G 3 x9)))), (5, .int (nI (G 3 x9))), (0, .ref (hs 0)), (1, .int (nI p9)), (2, .double (prL G p9 x9)), (4, .int (nI x9))]) hx hb dX1_prospectOf_45 hl (by decide) rfl (fun ls hl => ?_)
    refine lv_iload hx hb dX1_prospectOf_47 (lv_at hl 1 rfl) ?_
    refine lv_iload hx hb dX1_prospectOf_49 (lv_at hl 1 rfl) ?_
    refine lv_imul hx hb dX1_prospectOf_51 ?_
    refine lv_iload hx hb dX1_prospectOf_52 (lv_at hl 0 rfl) ?_
    refine lv_iload hx hb dX1_prospectOf_54 (lv_at hl 0 rfl) ?_
    refine lv_imul hx hb dX1_prospectOf_56 ?_
    refine lv_iadd hx hb dX1_prospectOf_57 ?_
    refine g_top (y := nI (farN p9 (G 3 x9))) (far_I _ _) ?_
    refine lv_istore (lv' := [(8, .int (nI (farN p9 (G 3 x9)))), (7, .int (zI (aYz p9 (G 3 x9)))), (6, .int (zI (aXz p9 (G 3 x9)))), (5, .int (nI (G 3 x9))), (0, .ref (hs 0)), (1, .int (nI p9)), (2, .double (prL G p9 x9)), (4, .int (nI x9))]) hx hb dX1_prospectOf_58 hl (by decide) rfl (fun ls hl => ?_)
    refine lv_iload hx hb dX1_prospectOf_60 (lv_at hl 0 rfl) ?_
    refine lv_if_le (tgt := 102) hx hb dX1_prospectOf_62 (by decide) (fun c1 => absurd c1 (gt_0 (far_pos hw hjl hpl) (by have := far_le hp (hw.f hjl).1; omega))) (fun c1 => ?_)
    refine lv_aload_n hx hb dX1_prospectOf_65 rfl (lv_at hl 4 rfl) ?_
    refine lv_iload_n hx hb dX1_prospectOf_66 rfl (lv_at hl 5 rfl) ?_
    refine lv_iload hx hb dX1_prospectOf_67 (lv_at hl 7 rfl) ?_
    refine lv_aload_n hx hb dX1_prospectOf_69 rfl (lv_at hl 4 rfl) ?_
    refine g_get hx hb hts hown hG inX1 0 rfl rfl 3 (by decide) q108 (v := .ref (hs 3)) rfl dX1_prospectOf_70 ?_
    refine g_calli wC_adr hG (g_runV (As := [.int (nI p9), .int (nI x9), .ref (hs 3)]) (rest := []) ⟨hx, hb, hml, hown, hts⟩ wC_adr (kX1_isVisible_3 G S9 hw he9 (G 2) he9.2.2.1 (hG2 hw) p9 x9 hp hjl hpl) wyX1_isVisible q224 hG 0 rfl rfl ⟨by decide, by decide⟩ rfl rfl hl.1 (Nat.le_of_ble_eq_true rfl) ⟨Nat.le_refl 0, Nat.le_refl 0⟩ dX1_prospectOf_73) (fun r3 S2 H locs hp hG => ?_)
    obtain ⟨rfl, hfr⟩ := hp
    have he8 := he9.fr hfr
    refine lv_if_eq (tgt := 102) hx hb dX1_prospectOf_76 (by decide) (fun c76 => ?_) (fun c76 => ?_)
    · have hv : ¬ visB G (G 2) p9 x9 = true := ite10.mp c76
      refine lv_iinc (v := nI (x9 + 1)) (lv' := [(4, .int (nI (x9 + 1))), (8, .int (nI (farN p9 (G 3 x9)))), (7, .int (zI (aYz p9 (G 3 x9)))), (6, .int (zI (aXz p9 (G 3 x9)))), (5, .int (nI (G 3 x9))), (0, .ref (hs 0)), (1, .int (nI p9)), (2, .double (prL G p9 x9))]) hx hb dX1_prospectOf_102 hl (k := 7) rfl (nI_1 x9) (by decide) rfl (fun ls hl => ?_)
      refine lv_goto (tgt := 5) hx hb dX1_prospectOf_105 (by decide) ?_
      exact ih (x9 + 1) _ _ _ _ (by omega) ⟨hjl, hfr0.tr hfr⟩ hG (lv_sub hl [5, 6, 7, 0] (by rw [pr_miss hv]; rfl))
    · have hv : visB G (G 2) p9 x9 = true := Classical.byContradiction (fun q => c76 (ite10.mpr q))
      refine lv_dload_n hx hb dX1_prospectOf_79 rfl (lv_at hl 6 rfl) ?_
      refine lv_aload_n hx hb dX1_prospectOf_80 rfl (lv_at hl 4 rfl) ?_
      refine g_get hx hb hts hown hG inX1 0 rfl rfl 6 (by decide) q111 (v := .ref (hs 6)) rfl dX1_prospectOf_81 ?_
      refine lv_iload hx hb dX1_prospectOf_84 (lv_at hl 7 rfl) ?_
      refine g_aldN (f := S2 6) hx hb hG 4 rfl (by decide) (x9) (rfl) (by omega) dX1_prospectOf_86 ?_
      refine g_top (y := nI (G 4 x9)) ((he8.2.2.2.1 _ hjl).2) ?_
      refine lv_aload_n hx hb dX1_prospectOf_87 rfl (lv_at hl 4 rfl) ?_
      refine g_get hx hb hts hown hG inX1 0 rfl rfl 3 (by decide) q108 (v := .ref (hs 3)) rfl dX1_prospectOf_88 ?_
      refine lv_iload hx hb dX1_prospectOf_91 (lv_at hl 3 rfl) ?_
      refine g_aldN (f := S2 3) hx hb hG 2 rfl (by decide) (G 3 x9) (rfl) ((hw.f hjl).1) dX1_prospectOf_93 ?_
      refine g_top (y := nI (G 2 (G 3 x9))) (he8.2.2.1 _ (hw.f hjl).1) ?_
      refine lv_imul hx hb dX1_prospectOf_94 ?_
      refine g_top (y := nI (G 4 x9 * G 2 (G 3 x9))) (pk_mul _ _) ?_
      refine lv_i2d hx hb dX1_prospectOf_95 ?_
      refine lv_iload hx hb dX1_prospectOf_96 (lv_at hl 0 rfl) ?_
      refine lv_i2d hx hb dX1_prospectOf_98 ?_
      refine lv_ddiv hx hb dX1_prospectOf_99 (g64_n (prT_g hw hp hjl hpl)) ?_
      refine lv_dadd hx hb dX1_prospectOf_100 (g64_n (g64_add (prL_g hw hp hpl _ (by omega)) (prT_g hw hp hjl hpl))) ?_
      refine lv_dstore_n (lv' := [(2, .double (FP.dadd (prL G p9 x9) (FP.ddiv (FP.i2d (nI (G 4 x9 * G 2 (G 3 x9)))) (FP.i2d (nI (farN p9 (G 3 x9))))))), (8, .int (nI (farN p9 (G 3 x9)))), (7, .int (zI (aYz p9 (G 3 x9)))), (6, .int (zI (aXz p9 (G 3 x9)))), (5, .int (nI (G 3 x9))), (0, .ref (hs 0)), (1, .int (nI p9)), (4, .int (nI x9))]) hx hb dX1_prospectOf_101 rfl hl (by decide) rfl (fun ls hl => ?_)
      refine lv_iinc (v := nI (x9 + 1)) (lv' := [(4, .int (nI (x9 + 1))), (2, .double (FP.dadd (prL G p9 x9) (FP.ddiv (FP.i2d (nI (G 4 x9 * G 2 (G 3 x9)))) (FP.i2d (nI (farN p9 (G 3 x9))))))), (8, .int (nI (farN p9 (G 3 x9)))), (7, .int (zI (aYz p9 (G 3 x9)))), (6, .int (zI (aXz p9 (G 3 x9)))), (5, .int (nI (G 3 x9))), (0, .ref (hs 0)), (1, .int (nI p9))]) hx hb dX1_prospectOf_102 hl (k := 7) rfl (nI_1 x9) (by decide) rfl (fun ls hl => ?_)
      refine lv_goto (tgt := 5) hx hb dX1_prospectOf_105 (by decide) ?_
      exact ih (x9 + 1) _ _ _ _ (by omega) ⟨hjl, hfr0.tr hfr⟩ hG (lv_sub hl [6, 7, 1, 0] (by rw [pr_hit hv]; rfl))
set_option maxHeartbeats 4000000 in
set_option maxRecDepth 100000 in
theorem kX1_prospect {l : Launch} {D : va_G} {cy : ClassId} {hs : Nat → Nat} {X : va_W} (G : GN) (S : GS) (hw : wf G) (he : encC G S) (x y : Int32) : Ct l D cy (wC cy hs X) yX1_prospect cX1_prospect 3 (some .double) 6 144 (S) [.ref (hs 0), .int x, .int y] (QD D (wC cy hs X) (fun r S' => r = F_prospect G x y ∧ fr13 S S')) := by
  refine Ct.of wC_adr (plainFor_of_name (by decide)) (Nat.le_of_ble_eq_true rfl) ?_
  intro p e s m below meth c ls C hl hG
  obtain ⟨hx, hb, hml, hown, hts, hr, hlk⟩ := C
  have hl : lv_has ls 3 [(0, .ref (hs 0)), (1, .int x), (2, .int y)] := hl
  refine lv_aload_n hx hb dX1_prospect_0 rfl (lv_at hl 0 rfl) ?_
  refine lv_iload_n hx hb dX1_prospect_1 rfl (lv_at hl 1 rfl) ?_
  refine lv_iload_n hx hb dX1_prospect_2 rfl (lv_at hl 2 rfl) ?_
  refine g_calliE wC_adr hG (g_runV (As := [.int x, .int y]) (rest := []) ⟨hx, hb, hml, hown, hts⟩ wC_adr (kX1_placeError S x y) wyX1_placeError q213 hG 0 rfl rfl ⟨by decide, by decide⟩ rfl rfl hl.1 (Nat.le_of_ble_eq_true rfl) ⟨Nat.le_refl 0, Nat.le_refl 0⟩ dX1_prospect_3) (fun H locs hG => ?_)
  refine g_top (y := pErr G x y) (pErrC hw he x y) ?_
  refine lv_if_eq (tgt := 13) hx hb dX1_prospect_6 (by decide) (fun c6 => ?_) (fun c6 => ?_)
  · obtain ⟨h1, h2⟩ := pErr_0 c6
    refine lv_aload_n hx hb dX1_prospect_13 rfl (lv_at hl 0 rfl) ?_
    refine lv_iload_n hx hb dX1_prospect_14 rfl (lv_at hl 1 rfl) ?_
    refine lv_iload_n hx hb dX1_prospect_15 rfl (lv_at hl 2 rfl) ?_
    refine g_stat (As := [.int x, .int y]) (rest := [.ref (hs 0)]) ⟨hx, hb, hml, hown, hts⟩ (kX1_cellAt x y) wyX1_cellAt q170 hG ⟨by decide, by decide⟩ rfl rfl hl.1 (Nat.le_of_ble_eq_true rfl) ⟨Nat.le_refl 0, Nat.le_refl 0⟩ dX1_prospect_16 (fun H locs hG => ?_)
    refine g_top (y := nI (cN x y)) (cellC h1) ?_
    refine g_calld wC_adr hG (g_runV (As := [.int (nI (cN x y))]) (rest := []) ⟨hx, hb, hml, hown, hts⟩ wC_adr (kX1_prospectOf G S hw he (cN x y) (has_c hw h1) h2) wyX1_prospectOf q373 hG 0 rfl rfl ⟨by decide, by decide⟩ rfl rfl hl.1 (Nat.le_of_ble_eq_true rfl) ⟨Nat.le_refl 0, Nat.le_refl 0⟩ dX1_prospect_19) (fun r2 S1 H locs hp hG => ?_)
    obtain ⟨rfl, hfr⟩ := hp
    exact g_dret hx hb hr hlk hG ⟨by unfold F_prospect; rw [if_pos c6], hfr⟩ dX1_prospect_22
  · refine lv_ldc2d hx hb hown (hts _ q372) dX1_prospect_9 ?_
    exact g_dret hx hb hr hlk hG ⟨by unfold F_prospect; rw [if_neg c6], fr13.rf⟩ dX1_prospect_12
set_option maxHeartbeats 4000000 in
set_option maxRecDepth 100000 in
theorem kX1_bestPlace {l : Launch} {D : va_G} {cy : ClassId} {hs : Nat → Nat} {X : va_W} (G : GN) (S : GS) (hw : wf G) (he : encC G S) (k9 : Int32) : Ct l D cy (wC cy hs X) yX1_bestPlace cX1_bestPlace 8 (some .int) 6 144 (S) [.ref (hs 0), .int k9] (QI D (wC cy hs X) (fun r S' => r = F_best G k9 ∧ fr13 S S')) := by
  refine Ct.of wC_adr (plainFor_of_name (by decide)) (Nat.le_of_ble_eq_true rfl) ?_
  intro p e s m below meth c ls C hl hG
  obtain ⟨hx, hb, hml, hown, hts, hr, hlk⟩ := C
  have hl : lv_has ls 8 [(0, .ref (hs 0)), (1, .int k9)] := hl
  refine lv_iload_n hx hb dX1_bestPlace_0 rfl (lv_at hl 1 rfl) ?_
  refine g_stat (As := [.int k9]) (rest := []) ⟨hx, hb, hml, hown, hts⟩ (kX1_isPlaceKind k9) wyX1_isPlaceKind q159 hG ⟨by decide, by decide⟩ rfl rfl hl.1 (Nat.le_of_ble_eq_true rfl) ⟨Nat.le_refl 0, Nat.le_refl 0⟩ dX1_bestPlace_1 (fun H locs hG => ?_)
  refine g_top (y := if pkB k9 then 1 else 0) (pkE k9) ?_
  refine lv_if_ne (tgt := 10) hx hb dX1_bestPlace_4 (by decide) (fun c4 => ?_) (fun c4 => ?_)
  · have hk : pkB k9 = true := Classical.byContradiction (fun q => c4 (ite10.mpr q))
    refine lv_bipush (v := (-7)) hx hb dX1_bestPlace_10 (by decide) ?_
    refine lv_istore_n (lv' := [(2, .int (-7)), (0, .ref (hs 0)), (1, .int k9)]) hx hb dX1_bestPlace_12 rfl hl (by decide) rfl (fun ls hl => ?_)
    refine lv_ldc2d hx hb hown (hts _ q372) dX1_bestPlace_13 ?_
    refine lv_dstore_n (lv' := [(3, .double 13830554455654793216), (2, .int (-7)), (0, .ref (hs 0)), (1, .int k9)]) hx hb dX1_bestPlace_16 rfl hl (by decide) rfl (fun ls hl => ?_)
    refine lv_iconst (v := 0) hx hb dX1_bestPlace_17 (by decide) ?_
    refine lv_istore (lv' := [(5, .int 0), (3, .double 13830554455654793216), (2, .int (-7)), (0, .ref (hs 0)), (1, .int k9)]) hx hb dX1_bestPlace_18 hl (by decide) rfl (fun ls hl => ?_)
    have hke := (pkB_n hk).1
    have hk3 := (pkB_n hk).2
    refine g_rec (τ := Nat) (fun j S9 => j ≤ 192 ∧ fr13 S S9) (fun j => 200 - j) (fun j => [(0, .ref (hs 0)), (1, .int k9), (2, .int (bpL G (nN k9) j).1), (3, .double (bpL G (nN k9) j).2), (5, .int (nI j))]) 20 8 ?_ 0 _ _ _ _ (⟨Nat.zero_le _, fr13.rf⟩) hG (lv_sub hl [3, 4, 2, 1, 0] (rfl))
    intro x9 S9 H locs ls hI hG hl ih
    obtain ⟨hj, hfr0⟩ := hI
    have he9 := he.fr hfr0
    refine lv_iload hx hb dX1_bestPlace_20 (lv_at hl 4 rfl) ?_
    refine lv_sipush (v := 192) hx hb dX1_bestPlace_22 (by decide) ?_
    refine lv_icmp_ge (tgt := 83) hx hb dX1_bestPlace_25 (by decide) (fun c25 => ?_) (fun c25 => ?_)
    · have hjl : 192 ≤ x9 := (nI_leI (by omega) (by omega)).mp (show nI 192 ≤ nI x9 from c25)
      refine lv_iload_n hx hb dX1_bestPlace_83 rfl (lv_at hl 2 rfl) ?_
      exact g_iret hx hb hr hlk hG ⟨by unfold F_best; rw [if_pos hk, show x9 = 192 by omega], hfr0⟩ dX1_bestPlace_84
    · have hjl : x9 < 192 := Nat.lt_of_not_le (fun q => c25 (nI_le q (by omega)))
      refine lv_aload_n hx hb dX1_bestPlace_28 rfl (lv_at hl 0 rfl) ?_
      refine g_get hx hb hts hown hG inX1 0 rfl rfl 2 (by decide) q107 (v := .ref (hs 2)) rfl dX1_bestPlace_29 ?_
      refine lv_iload hx hb dX1_bestPlace_32 (lv_at hl 4 rfl) ?_
      refine g_aldN (f := S9 2) hx hb hG 1 rfl (by decide) (x9) (rfl) (hjl) dX1_bestPlace_34 ?_
      refine g_top (y := nI (G 1 x9)) (he9.2.1 _ hjl) ?_
      refine lv_iload_n hx hb dX1_bestPlace_35 rfl (lv_at hl 1 rfl) ?_
      refine lv_icmp_ne (tgt := 77) hx hb dX1_bestPlace_36 (by decide) (fun c36 => ?_) (fun c36 => ?_)
      · have hbi : ¬ bpI G (nN k9) x9 = true := fun q => c36 (by unfold bpI at q; simp only [Bool.and_eq_true, decide_eq_true_eq] at q; rw [hke, q.1.1])
        refine lv_iinc (v := nI (x9 + 1)) (lv' := [(5, .int (nI (x9 + 1))), (0, .ref (hs 0)), (1, .int k9), (2, .int ((bpL G (nN k9) x9).1)), (3, .double ((bpL G (nN k9) x9).2))]) hx hb dX1_bestPlace_77 hl (k := 4) rfl (nI_1 x9) (by decide) rfl (fun ls hl => ?_)
        refine lv_goto (tgt := 20) hx hb dX1_bestPlace_80 (by decide) ?_
        exact ih (x9 + 1) _ _ _ _ (by omega) ⟨hjl, hfr0⟩ hG (lv_sub hl [1, 2, 3, 4, 0] (by rw [bp_no hbi]; rfl))
      · have hkd : G 1 x9 = nN k9 := (nI_eq (by have := (hw.c hjl).1; omega) (by omega)).mp (c36.trans hke)
        refine lv_aload_n hx hb dX1_bestPlace_39 rfl (lv_at hl 0 rfl) ?_
        refine lv_iload hx hb dX1_bestPlace_40 (lv_at hl 4 rfl) ?_
        refine g_stat (As := [.int (nI x9)]) (rest := [.ref (hs 0)]) ⟨hx, hb, hml, hown, hts⟩ (kX1_columnOf (nI x9)) wyX1_columnOf q321 hG ⟨by decide, by decide⟩ rfl rfl hl.1 (Nat.le_of_ble_eq_true rfl) ⟨Nat.le_refl 0, Nat.le_refl 0⟩ dX1_bestPlace_42 (fun H locs hG => ?_)
        refine g_top (y := nI (x9 % 16)) (col_nI hjl) ?_
        refine lv_iload hx hb dX1_bestPlace_45 (lv_at hl 4 rfl) ?_
        refine g_stat (As := [.int (nI x9)]) (rest := [.int (nI (x9 % 16)), .ref (hs 0)]) ⟨hx, hb, hml, hown, hts⟩ (kX1_rowOf (nI x9)) wyX1_rowOf q323 hG ⟨by decide, by decide⟩ rfl rfl hl.1 (Nat.le_of_ble_eq_true rfl) ⟨Nat.le_refl 0, Nat.le_refl 0⟩ dX1_bestPlace_47 (fun H locs hG => ?_)
        refine g_top (y := nI (x9 / 16)) (row_nI hjl) ?_
        refine g_calliE wC_adr hG (g_runV (As := [.int (nI (x9 % 16)), .int (nI (x9 / 16))]) (rest := []) ⟨hx, hb, hml, hown, hts⟩ wC_adr (kX1_hasCell S9 (nI (x9 % 16)) (nI (x9 / 16))) wyX1_hasCell q166 hG 0 rfl rfl ⟨by decide, by decide⟩ rfl rfl hl.1 (Nat.le_of_ble_eq_true rfl) ⟨Nat.le_refl 0, Nat.le_refl 0⟩ dX1_bestPlace_50) (fun H locs hG => ?_)
        refine g_top (y := if hasB G (nI (x9 % 16)) (nI (x9 / 16)) then 1 else 0) (hasC hw he9 _ _) ?_
        refine lv_if_eq (tgt := 77) hx hb dX1_bestPlace_53 (by decide) (fun c53 => ?_) (fun c53 => ?_)
        · have hhb := ite10.mp c53
          rw [hasN hw hjl] at hhb
          have hbi : ¬ bpI G (nN k9) x9 = true := fun q => hhb (by unfold bpI at q; simp only [Bool.and_eq_true, decide_eq_true_eq] at q ⊢; exact ⟨q.1.2, q.2⟩)
          refine lv_iinc (v := nI (x9 + 1)) (lv' := [(5, .int (nI (x9 + 1))), (0, .ref (hs 0)), (1, .int k9), (2, .int ((bpL G (nN k9) x9).1)), (3, .double ((bpL G (nN k9) x9).2))]) hx hb dX1_bestPlace_77 hl (k := 4) rfl (nI_1 x9) (by decide) rfl (fun ls hl => ?_)
          refine lv_goto (tgt := 20) hx hb dX1_bestPlace_80 (by decide) ?_
          exact ih (x9 + 1) _ _ _ _ (by omega) ⟨hjl, hfr0⟩ hG (lv_sub hl [1, 2, 3, 4, 0] (by rw [bp_no hbi]; rfl))
        · have hhb := Classical.byContradiction (fun q => c53 (ite10.mpr q))
          rw [hasN hw hjl] at hhb
          have hbi : bpI G (nN k9) x9 = true := by unfold bpI; rw [decide_eq_true hkd, Bool.true_and]; exact hhb
          refine lv_aload_n hx hb dX1_bestPlace_56 rfl (lv_at hl 0 rfl) ?_
          refine lv_iload hx hb dX1_bestPlace_57 (lv_at hl 4 rfl) ?_
          refine g_calld wC_adr hG (g_runV (As := [.int (nI x9)]) (rest := []) ⟨hx, hb, hml, hown, hts⟩ wC_adr (kX1_prospectOf G S9 hw he9 x9 hjl (pk_pl hk hkd)) wyX1_prospectOf q373 hG 0 rfl rfl ⟨by decide, by decide⟩ rfl rfl hl.1 (Nat.le_of_ble_eq_true rfl) ⟨Nat.le_refl 0, Nat.le_refl 0⟩ dX1_bestPlace_59) (fun r2 S1 H locs hp hG => ?_)
          obtain ⟨rfl, hfr⟩ := hp
          refine lv_dstore (lv' := [(6, .double (prN G x9)), (0, .ref (hs 0)), (1, .int k9), (2, .int ((bpL G (nN k9) x9).1)), (3, .double ((bpL G (nN k9) x9).2)), (5, .int (nI x9))]) hx hb dX1_bestPlace_62 hl (by decide) rfl (fun ls hl => ?_)
          refine lv_dload hx hb dX1_bestPlace_64 (lv_at hl 0 rfl) ?_
          refine lv_dload_n hx hb dX1_bestPlace_66 rfl (lv_at hl 4 rfl) ?_
          refine lv_dcmp hx hb dX1_bestPlace_67 ?_
          refine lv_if_le (tgt := 77) hx hb dX1_bestPlace_68 (by decide) (fun c68 => ?_) (fun c68 => ?_)
          · have hgt : ¬ gtB (prN G x9) (bpL G (nN k9) x9).2 = true := fun q => absurd (of_decide_eq_true q) (by rw [Int32.le_iff_toInt_le] at c68; rw [Int32.lt_iff_toInt_lt]; omega)
            refine lv_iinc (v := nI (x9 + 1)) (lv' := [(5, .int (nI (x9 + 1))), (6, .double (prN G x9)), (0, .ref (hs 0)), (1, .int k9), (2, .int ((bpL G (nN k9) x9).1)), (3, .double ((bpL G (nN k9) x9).2))]) hx hb dX1_bestPlace_77 hl (k := 5) rfl (nI_1 x9) (by decide) rfl (fun ls hl => ?_)
            refine lv_goto (tgt := 20) hx hb dX1_bestPlace_80 (by decide) ?_
            exact ih (x9 + 1) _ _ _ _ (by omega) ⟨hjl, hfr0.tr hfr⟩ hG (lv_sub hl [2, 3, 4, 5, 0] (by rw [bp_less hgt]; rfl))
          · have hgt : gtB (prN G x9) (bpL G (nN k9) x9).2 = true := decide_eq_true (by rw [Int32.le_iff_toInt_le] at c68; rw [Int32.lt_iff_toInt_lt]; omega)
            refine lv_dload hx hb dX1_bestPlace_71 (lv_at hl 0 rfl) ?_
            refine lv_dstore_n (lv' := [(3, .double (prN G x9)), (6, .double (prN G x9)), (0, .ref (hs 0)), (1, .int k9), (2, .int ((bpL G (nN k9) x9).1)), (5, .int (nI x9))]) hx hb dX1_bestPlace_73 rfl hl (by decide) rfl (fun ls hl => ?_)
            refine lv_iload hx hb dX1_bestPlace_74 (lv_at hl 5 rfl) ?_
            refine lv_istore_n (lv' := [(2, .int (nI x9)), (3, .double (prN G x9)), (6, .double (prN G x9)), (0, .ref (hs 0)), (1, .int k9), (5, .int (nI x9))]) hx hb dX1_bestPlace_76 rfl hl (by decide) rfl (fun ls hl => ?_)
            refine lv_iinc (v := nI (x9 + 1)) (lv' := [(5, .int (nI (x9 + 1))), (2, .int (nI x9)), (3, .double (prN G x9)), (6, .double (prN G x9)), (0, .ref (hs 0)), (1, .int k9)]) hx hb dX1_bestPlace_77 hl (k := 5) rfl (nI_1 x9) (by decide) rfl (fun ls hl => ?_)
            refine lv_goto (tgt := 20) hx hb dX1_bestPlace_80 (by decide) ?_
            exact ih (x9 + 1) _ _ _ _ (by omega) ⟨hjl, hfr0.tr hfr⟩ hG (lv_sub hl [4, 5, 1, 2, 0] (by rw [bp_hit hbi hgt]; rfl))
  · have hk : ¬ pkB k9 = true := ite10.mp c4
    refine lv_bipush (v := (-4)) hx hb dX1_bestPlace_7 (by decide) ?_
    exact g_iret hx hb hr hlk hG ⟨by unfold F_best; rw [if_neg hk], fr13.rf⟩ dX1_bestPlace_9
set_option maxHeartbeats 4000000 in
set_option maxRecDepth 100000 in
theorem kX1_meanProspect {l : Launch} {D : va_G} {cy : ClassId} {hs : Nat → Nat} {X : va_W} (G : GN) (S : GS) (hw : wf G) (he : encC G S) : Ct l D cy (wC cy hs X) yX1_meanProspect cX1_meanProspect 4 (some .float) 6 144 (S) [.ref (hs 0)] (QF D (wC cy hs X) (fun r S' => r = F_mean G ∧ fr13 S S')) := by
  refine Ct.of wC_adr (plainFor_of_name (by decide)) (Nat.le_of_ble_eq_true rfl) ?_
  intro p e s m below meth c ls C hl hG
  obtain ⟨hx, hb, hml, hown, hts, hr, hlk⟩ := C
  have hl : lv_has ls 4 [(0, .ref (hs 0))] := hl
  have hnw := hw.1.2.2.2.2.2.1
  refine lv_aload_n hx hb dX1_meanProspect_0 rfl (lv_at hl 0 rfl) ?_
  refine g_get hx hb hts hown hG inX1 0 rfl rfl 7 (by decide) q112 (v := .int (S 0 7)) rfl dX1_meanProspect_1 ?_
  refine g_top (y := nI (G 0 3)) (he.1.2.2.2.1) ?_
  refine lv_if_gt (tgt := 10) hx hb dX1_meanProspect_4 (by decide) (fun c4 => ?_) (fun c4 => ?_)
  · have hn0 : 0 < G 0 3 := by rw [Int32.lt_iff_toInt_lt, Int32.toInt_zero, nI_toInt (by omega)] at c4; omega
    refine lv_dconst0 hx hb dX1_meanProspect_10 ?_
    refine lv_dstore_n (lv' := [(1, .double FP.dconst0), (0, .ref (hs 0))]) hx hb dX1_meanProspect_11 rfl hl (by decide) rfl (fun ls hl => ?_)
    refine lv_iconst (v := 0) hx hb dX1_meanProspect_12 (by decide) ?_
    refine lv_istore_n (lv' := [(3, .int 0), (1, .double FP.dconst0), (0, .ref (hs 0))]) hx hb dX1_meanProspect_13 rfl hl (by decide) rfl (fun ls hl => ?_)
    refine g_rec (τ := Nat) (fun j S9 => j ≤ G 0 3 ∧ fr13 S S9) (fun j => 100 - j) (fun j => [(0, .ref (hs 0)), (1, .double (wsL G j)), (3, .int (nI j))]) 14 4 ?_ 0 _ _ _ _ (⟨Nat.zero_le _, fr13.rf⟩) hG (lv_sub hl [2, 1, 0] (rfl))
    intro x9 S9 H locs ls hI hG hl ih
    obtain ⟨hj, hfr0⟩ := hI
    have he9 := he.fr hfr0
    refine lv_iload_n hx hb dX1_meanProspect_14 rfl (lv_at hl 2 rfl) ?_
    refine lv_aload_n hx hb dX1_meanProspect_15 rfl (lv_at hl 0 rfl) ?_
    refine g_get hx hb hts hown hG inX1 0 rfl rfl 7 (by decide) q112 (v := .int (S9 0 7)) rfl dX1_meanProspect_16 ?_
    refine g_top (y := nI (G 0 3)) (he9.1.2.2.2.1) ?_
    refine lv_icmp_ge (tgt := 54) hx hb dX1_meanProspect_19 (by decide) (fun c19 => ?_) (fun c19 => ?_)
    · have hjl : G 0 3 ≤ x9 := (nI_leI (by omega) (by omega)).mp c19
      refine lv_dload_n hx hb dX1_meanProspect_54 rfl (lv_at hl 1 rfl) ?_
      refine lv_aload_n hx hb dX1_meanProspect_55 rfl (lv_at hl 0 rfl) ?_
      refine g_get hx hb hts hown hG inX1 0 rfl rfl 7 (by decide) q112 (v := .int (S9 0 7)) rfl dX1_meanProspect_56 ?_
      refine g_top (y := nI (G 0 3)) (he9.1.2.2.2.1) ?_
      refine lv_i2d hx hb dX1_meanProspect_59 ?_
      refine lv_ddiv hx hb dX1_meanProspect_60 (g64_n (g64_div (wsL_g hw _ (by omega)) hn0 (by omega))) ?_
      refine lv_d2f hx hb dX1_meanProspect_61 (d2f_n (g64_div (wsL_g hw _ (by omega)) hn0 (by omega))) ?_
      exact g_fret hx hb hr hlk hG ⟨by unfold F_mean; rw [if_neg (by omega), show x9 = G 0 3 by omega], hfr0⟩ dX1_meanProspect_62
    · have hjl : x9 < G 0 3 := Nat.lt_of_not_le (fun q => c19 (nI_le q (by omega)))
      refine lv_aload_n hx hb dX1_meanProspect_22 rfl (lv_at hl 0 rfl) ?_
      refine lv_aload_n hx hb dX1_meanProspect_23 rfl (lv_at hl 0 rfl) ?_
      refine g_get hx hb hts hown hG inX1 0 rfl rfl 8 (by decide) q113 (v := .ref (hs 8)) rfl dX1_meanProspect_24 ?_
      refine lv_iload_n hx hb dX1_meanProspect_27 rfl (lv_at hl 2 rfl) ?_
      refine g_aldN (f := S9 8) hx hb hG 5 rfl (by decide) (x9) (rfl) (by omega) dX1_meanProspect_28 ?_
      refine g_top (y := nI (G 5 x9)) (he9.2.2.2.2.1 _ hjl) ?_
      refine g_calliE wC_adr hG (g_runV (As := [.int (nI (G 5 x9))]) (rest := []) ⟨hx, hb, hml, hown, hts⟩ wC_adr (kX1_isPlace S9 (nI (G 5 x9))) wyX1_isPlace q217 hG 0 rfl rfl ⟨by decide, by decide⟩ rfl rfl hl.1 (Nat.le_of_ble_eq_true rfl) ⟨Nat.le_refl 0, Nat.le_refl 0⟩ dX1_meanProspect_29) (fun H locs hG => ?_)
      refine g_top (y := if plB G (G 5 x9) then 1 else 0) (placeC hw he9 (hw.2.2.2.1 _ hjl)) ?_
      refine lv_if_eq (tgt := 48) hx hb dX1_meanProspect_32 (by decide) (fun c32 => ?_) (fun c32 => ?_)
      · have hpl : ¬ plB G (G 5 x9) = true := ite10.mp c32
        refine lv_iinc (v := nI (x9 + 1)) (lv' := [(3, .int (nI (x9 + 1))), (0, .ref (hs 0)), (1, .double (wsL G x9))]) hx hb dX1_meanProspect_48 hl (k := 2) rfl (nI_1 x9) (by decide) rfl (fun ls hl => ?_)
        refine lv_goto (tgt := 14) hx hb dX1_meanProspect_51 (by decide) ?_
        exact ih (x9 + 1) _ _ _ _ (by omega) ⟨hjl, hfr0⟩ hG (lv_sub hl [1, 2, 0] (by rw [ws_miss hpl]; rfl))
      · have hpl : plB G (G 5 x9) = true := Classical.byContradiction (fun q => c32 (ite10.mpr q))
        refine lv_dload_n hx hb dX1_meanProspect_35 rfl (lv_at hl 1 rfl) ?_
        refine lv_aload_n hx hb dX1_meanProspect_36 rfl (lv_at hl 0 rfl) ?_
        refine lv_aload_n hx hb dX1_meanProspect_37 rfl (lv_at hl 0 rfl) ?_
        refine g_get hx hb hts hown hG inX1 0 rfl rfl 8 (by decide) q113 (v := .ref (hs 8)) rfl dX1_meanProspect_38 ?_
        refine lv_iload_n hx hb dX1_meanProspect_41 rfl (lv_at hl 2 rfl) ?_
        refine g_aldN (f := S9 8) hx hb hG 5 rfl (by decide) (x9) (rfl) (by omega) dX1_meanProspect_42 ?_
        refine g_top (y := nI (G 5 x9)) (he9.2.2.2.2.1 _ hjl) ?_
        refine g_calld wC_adr hG (g_runV (As := [.int (nI (G 5 x9))]) (rest := [.double (wsL G x9)]) ⟨hx, hb, hml, hown, hts⟩ wC_adr (kX1_prospectOf G S9 hw he9 (G 5 x9) (hw.2.2.2.1 _ hjl) hpl) wyX1_prospectOf q373 hG 0 rfl rfl ⟨by decide, by decide⟩ rfl rfl hl.1 (Nat.le_of_ble_eq_true rfl) ⟨Nat.le_refl 0, Nat.le_refl 0⟩ dX1_meanProspect_43) (fun r2 S1 H locs hp hG => ?_)
        obtain ⟨rfl, hfr⟩ := hp
        refine lv_dadd hx hb dX1_meanProspect_46 (g64_n (g64_add (wsL_g hw _ (by omega)) (prL_g hw (hw.2.2.2.1 _ hjl) hpl _ (Nat.le_refl _)))) ?_
        refine lv_dstore_n (lv' := [(1, .double (FP.dadd (wsL G x9) (prN G (G 5 x9)))), (0, .ref (hs 0)), (3, .int (nI x9))]) hx hb dX1_meanProspect_47 rfl hl (by decide) rfl (fun ls hl => ?_)
        refine lv_iinc (v := nI (x9 + 1)) (lv' := [(3, .int (nI (x9 + 1))), (1, .double (FP.dadd (wsL G x9) (prN G (G 5 x9)))), (0, .ref (hs 0))]) hx hb dX1_meanProspect_48 hl (k := 2) rfl (nI_1 x9) (by decide) rfl (fun ls hl => ?_)
        refine lv_goto (tgt := 14) hx hb dX1_meanProspect_51 (by decide) ?_
        exact ih (x9 + 1) _ _ _ _ (by omega) ⟨hjl, hfr0.tr hfr⟩ hG (lv_sub hl [2, 1, 0] (by rw [ws_hit hpl]; rfl))
  · have hn0 : G 0 3 = 0 := by rw [Int32.lt_iff_toInt_lt, Int32.toInt_zero, nI_toInt (by omega)] at c4; omega
    refine lv_ldcf hx hb hown (hts _ q385) dX1_meanProspect_7 ?_
    exact g_fret hx hb hr hlk hG ⟨by unfold F_mean; rw [if_pos hn0], fr13.rf⟩ dX1_meanProspect_9
