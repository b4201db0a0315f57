/-! ===== the class: surprises and their order ===== -/
set_option maxHeartbeats 4000000 in
set_option maxRecDepth 100000 in
theorem kX1_surprises {l : Launch} {D : va_G} {cy : ClassId} {hs : Nat → Nat} {X : va_W} (G : GN) (S : GS) (hw : wf G) (he : encC G S) (q9 : Int32) : Ct l D cy (wC cy hs X) yX1_surprises cX1_surprises 4 (some .int) 6 139 (S) [.ref (hs 0), .int q9] (QI D (wC cy hs X) (fun r S' => r = F_surprises G q9 ∧ fr13 S S')) := by
  refine Ct.of wC_adr (plainFor_of_name (by decide)) (Nat.le_of_ble_eq_true rfl) ?_
  intro p e s m below meth c ls C hl hG
  obtain ⟨hx, hb, hml, hown, hts, hr, hlk⟩ := C
  have hl : lv_has ls 4 [(0, .ref (hs 0)), (1, .int q9)] := hl
  refine lv_iload_n hx hb dX1_surprises_0 rfl (lv_at hl 1 rfl) ?_
  refine lv_if_lt (tgt := 12) hx hb dX1_surprises_1 (by decide) (fun c1 => ?_) (fun c1 => ?_)
  · have hsp : ¬ spB G q9 = true := by unfold spB; rw [Int32.lt_iff_toInt_lt, Int32.toInt_zero] at c1; rw [decide_eq_false (show ¬ 0 ≤ q9.toInt by omega), Bool.false_and]; decide
    refine lv_bipush (v := (-4)) hx hb dX1_surprises_12 (by decide) ?_
    exact g_iret hx hb hr hlk hG ⟨by unfold F_surprises; rw [if_neg hsp], fr13.rf⟩ dX1_surprises_14
  · refine lv_iload_n hx hb dX1_surprises_4 rfl (lv_at hl 1 rfl) ?_
    refine lv_aload_n hx hb dX1_surprises_5 rfl (lv_at hl 0 rfl) ?_
    refine g_get hx hb hts hown hG inX1 0 rfl rfl 7 (by decide) q112 (v := .int (S 0 7)) rfl dX1_surprises_6 ?_
    refine g_top (y := nI (G 0 3)) (he.1.2.2.2.1) ?_
    refine lv_icmp_lt (tgt := 15) hx hb dX1_surprises_9 (by decide) (fun c9 => ?_) (fun c9 => ?_)
    · have hnw := hw.1.2.2.2.2.2.1
      rw [Int32.lt_iff_toInt_lt, Int32.toInt_zero] at c1
      rw [Int32.lt_iff_toInt_lt, nI_toInt (by omega)] at c9
      have hsp : spB G q9 = true := by unfold spB; rw [decide_eq_true (show 0 ≤ q9.toInt by omega), decide_eq_true c9]; rfl
      have hqe : q9 = nI (nN q9) := nN_eq (by omega)
      have hq : nN q9 < G 0 3 := by unfold nN; omega
      have hl : lv_has ls 4 [(0, .ref (hs 0)), (1, .int (nI (nN q9)))] := by rw [← hqe]; exact hl
      refine lv_iconst (v := 0) hx hb dX1_surprises_15 (by decide) ?_
      refine lv_istore_n (lv' := [(2, .int 0), (0, .ref (hs 0)), (1, .int (nI (nN q9)))]) hx hb dX1_surprises_16 rfl hl (by decide) rfl (fun ls hl => ?_)
      refine lv_iconst (v := 0) hx hb dX1_surprises_17 (by decide) ?_
      refine lv_istore_n (lv' := [(3, .int 0), (2, .int 0), (0, .ref (hs 0)), (1, .int (nI (nN q9)))]) hx hb dX1_surprises_18 rfl hl (by decide) rfl (fun ls hl => ?_)
      refine g_rec (τ := Nat) (fun j S9 => j ≤ nN q9 ∧ fr13 S S9) (fun j => 100 - j) (fun j => [(0, .ref (hs 0)), (1, .int (nI (nN q9))), (2, .int (earI G j)), (3, .int (nI j))]) 19 4 ?_ 0 _ _ _ _ (⟨Nat.zero_le _, fr13.rf⟩) hG (lv_sub hl [2, 3, 1, 0] (rfl))
      intro x9 S9 H locs ls hI hG hl ih
      obtain ⟨hj, hfr0⟩ := hI
      have he9 := he.fr hfr0
      refine lv_iload_n hx hb dX1_surprises_19 rfl (lv_at hl 3 rfl) ?_
      refine lv_iload_n hx hb dX1_surprises_20 rfl (lv_at hl 1 rfl) ?_
      refine lv_icmp_ge (tgt := 43) hx hb dX1_surprises_21 (by decide) (fun c21 => ?_) (fun c21 => ?_)
      · have hjl : nN q9 ≤ x9 := (nI_leI (by omega) (by omega)).mp c21
        refine lv_aload_n hx hb dX1_surprises_43 rfl (lv_at hl 0 rfl) ?_
        refine lv_aload_n hx hb dX1_surprises_44 rfl (lv_at hl 0 rfl) ?_
        refine g_get hx hb hts hown hG inX1 0 rfl rfl 8 (by decide) q113 (v := .ref (hs 8)) rfl dX1_surprises_45 ?_
        refine lv_iload_n hx hb dX1_surprises_48 rfl (lv_at hl 1 rfl) ?_
        refine g_aldN (f := S9 8) hx hb hG 5 rfl (by decide) (nN q9) (rfl) (by omega) dX1_surprises_49 ?_
        refine g_top (y := nI (G 5 (nN q9))) (he9.2.2.2.2.1 _ hq) ?_
        refine g_calli wC_adr hG (g_runV (As := [.int (nI (G 5 (nN q9)))]) (rest := []) ⟨hx, hb, hml, hown, hts⟩ wC_adr (kX1_visibleFrom G S9 hw he9 (G 5 (nN q9)) (hw.2.2.2.1 _ hq)) wyX1_visibleFrom q279 hG 0 rfl rfl ⟨by decide, by decide⟩ rfl rfl hl.1 (Nat.le_of_ble_eq_true rfl) ⟨Nat.le_refl 0, Nat.le_refl 0⟩ dX1_surprises_50) (fun r2 S1 H locs hp hG => ?_)
        obtain ⟨rfl, hfr⟩ := hp
        refine lv_iload_n hx hb dX1_surprises_53 rfl (lv_at hl 2 rfl) ?_
        refine lv_iconst (v := (-1)) hx hb dX1_surprises_54 (by decide) ?_
        refine lv_ixor hx hb dX1_surprises_55 ?_
        refine lv_iand hx hb dX1_surprises_56 ?_
        exact g_iret hx hb hr hlk hG ⟨by unfold F_surprises; rw [if_pos hsp, show x9 = nN q9 by omega, sur_C hw hq], hfr0.tr hfr⟩ dX1_surprises_57
      · have hjl : x9 < nN q9 := Nat.lt_of_not_le (fun q => c21 (nI_le q (by omega)))
        refine lv_iload_n hx hb dX1_surprises_24 rfl (lv_at hl 2 rfl) ?_
        refine lv_aload_n hx hb dX1_surprises_25 rfl (lv_at hl 0 rfl) ?_
        refine lv_aload_n hx hb dX1_surprises_26 rfl (lv_at hl 0 rfl) ?_
        refine g_get hx hb hts hown hG inX1 0 rfl rfl 8 (by decide) q113 (v := .ref (hs 8)) rfl dX1_surprises_27 ?_
        refine lv_iload_n hx hb dX1_surprises_30 rfl (lv_at hl 3 rfl) ?_
        refine g_aldN (f := S9 8) hx hb hG 5 rfl (by decide) (x9) (rfl) (by omega) dX1_surprises_31 ?_
        refine g_top (y := nI (G 5 x9)) (he9.2.2.2.2.1 _ (by omega)) ?_
        refine g_calli wC_adr hG (g_runV (As := [.int (nI (G 5 x9))]) (rest := [.int (earI G x9)]) ⟨hx, hb, hml, hown, hts⟩ wC_adr (kX1_visibleFrom G S9 hw he9 (G 5 x9) (hw.2.2.2.1 _ (by omega))) wyX1_visibleFrom q279 hG 0 rfl rfl ⟨by decide, by decide⟩ rfl rfl hl.1 (Nat.le_of_ble_eq_true rfl) ⟨Nat.le_refl 0, Nat.le_refl 0⟩ dX1_surprises_32) (fun r4 S3 H locs hp hG => ?_)
        obtain ⟨rfl, hfr⟩ := hp
        refine lv_ior hx hb dX1_surprises_35 ?_
        refine lv_istore_n (lv' := [(2, .int ((earI G x9) ||| (visSet G (G 5 x9)))), (0, .ref (hs 0)), (1, .int (nI (nN q9))), (3, .int (nI x9))]) hx hb dX1_surprises_36 rfl hl (by decide) rfl (fun ls hl => ?_)
        refine lv_iinc (v := nI (x9 + 1)) (lv' := [(3, .int (nI (x9 + 1))), (2, .int ((earI G x9) ||| (visSet G (G 5 x9)))), (0, .ref (hs 0)), (1, .int (nI (nN q9)))]) hx hb dX1_surprises_37 hl (k := 3) rfl (nI_1 x9) (by decide) rfl (fun ls hl => ?_)
        refine lv_goto (tgt := 19) hx hb dX1_surprises_40 (by decide) ?_
        exact ih (x9 + 1) _ _ _ _ (by omega) ⟨hjl, hfr0.tr hfr⟩ hG (lv_sub hl [2, 3, 1, 0] rfl)
    · have hsp : ¬ spB G q9 = true := by unfold spB; have hnw := hw.1; rw [Int32.lt_iff_toInt_lt, nI_toInt (by omega)] at c9; rw [decide_eq_false (show ¬ q9.toInt < (G 0 3 : Int) by omega), Bool.and_false]; decide
      refine lv_bipush (v := (-4)) hx hb dX1_surprises_12 (by decide) ?_
      exact g_iret hx hb hr hlk hG ⟨by unfold F_surprises; rw [if_neg hsp], fr13.rf⟩ dX1_surprises_14
set_option maxHeartbeats 4000000 in
set_option maxRecDepth 100000 in
theorem kX1_shown {l : Launch} {D : va_G} {cy : ClassId} {hs : Nat → Nat} {X : va_W} (G : GN) (S : GS) (hw : wf G) (he : encC G S) (k9 : Int32) : Ct l D cy (wC cy hs X) yX1_shown cX1_shown 7 (some .int) 6 139 (S) [.ref (hs 0), .int k9] (QI D (wC cy hs X) (fun r S' => r = F_shown G k9 ∧ fr13 S S')) := by
  refine Ct.of wC_adr (plainFor_of_name (by decide)) (Nat.le_of_ble_eq_true rfl) ?_
  intro p e s m below meth c ls C hl hG
  obtain ⟨hx, hb, hml, hown, hts, hr, hlk⟩ := C
  have hl : lv_has ls 7 [(0, .ref (hs 0)), (1, .int k9)] := hl
  refine lv_iload_n hx hb dX1_shown_0 rfl (lv_at hl 1 rfl) ?_
  refine lv_if_ge (tgt := 7) hx hb dX1_shown_1 (by decide) (fun c1 => ?_) (fun c1 => ?_)
  · refine lv_iconst (v := 0) hx hb dX1_shown_7 (by decide) ?_
    refine lv_istore_n (lv' := [(2, .int 0), (0, .ref (hs 0)), (1, .int k9)]) hx hb dX1_shown_8 rfl hl (by decide) rfl (fun ls hl => ?_)
    refine lv_iconst (v := 0) hx hb dX1_shown_9 (by decide) ?_
    refine lv_istore_n (lv' := [(3, .int 0), (2, .int 0), (0, .ref (hs 0)), (1, .int k9)]) hx hb dX1_shown_10 rfl hl (by decide) rfl (fun ls hl => ?_)
    refine lv_iconst (v := 0) hx hb dX1_shown_11 (by decide) ?_
    refine lv_istore (lv' := [(4, .int 0), (3, .int 0), (2, .int 0), (0, .ref (hs 0)), (1, .int k9)]) hx hb dX1_shown_12 hl (by decide) rfl (fun ls hl => ?_)
    have hke : k9 = nI (nN k9) := nN_eq (by rw [Int32.le_iff_toInt_le, Int32.toInt_zero] at c1; exact c1)
    have hnw := hw.1.2.2.2.2.2.1
    have hnf := hw.1.2.2.2.2.1
    refine g_rec (τ := Nat) (fun j S8 => j ≤ G 0 3 ∧ fr13 S S8 ∧ ∀ f, f < G 0 2 → apN G (G 2) f < j → ahd G f ≠ nN k9) (fun j => 100 - j) (fun j => [(0, .ref (hs 0)), (1, .int k9), (2, .int (earI G j)), (3, .int (nI (bef G j 0))), (4, .int (nI j))]) 14 7 ?_ 0 _ _ _ _ (⟨Nat.zero_le _, fr13.rf, fun f _ h => absurd h (by omega)⟩) hG (lv_sub hl [3, 4, 2, 1, 0] (by rw [bef_0]; rfl))
    intro i9 S8 H locs ls hI hG hl ih1
    obtain ⟨hi, hfr0, hno⟩ := hI
    have he8 := he.fr hfr0
    refine lv_iload hx hb dX1_shown_14 (lv_at hl 4 rfl) ?_
    refine lv_aload_n hx hb dX1_shown_16 rfl (lv_at hl 0 rfl) ?_
    refine g_get hx hb hts hown hG inX1 0 rfl rfl 7 (by decide) q112 (v := .int (S8 0 7)) rfl dX1_shown_17 ?_
    refine g_top (y := nI (G 0 3)) (he8.1.2.2.2.1) ?_
    refine lv_icmp_ge (tgt := 90) hx hb dX1_shown_20 (by decide) (fun c20 => ?_) (fun c20 => ?_)
    · have hil : G 0 3 ≤ i9 := (nI_leI (by omega) (by omega)).mp c20
      refine lv_bipush (v := (-7)) hx hb dX1_shown_90 (by decide) ?_
      exact g_iret hx hb hr hlk hG ⟨by unfold F_shown; rw [if_neg (by rw [Int32.le_iff_toInt_le, Int32.toInt_zero] at c1; rw [Int32.lt_iff_toInt_lt, Int32.toInt_zero]; omega), if_neg (sh_none (fun f h1 h2 => hno f h1 (by omega)))], hfr0⟩ dX1_shown_92
    · have hil : i9 < G 0 3 := Nat.lt_of_not_le (fun q => c20 (nI_le q (by omega)))
      refine lv_aload_n hx hb dX1_shown_23 rfl (lv_at hl 0 rfl) ?_
      refine lv_aload_n hx hb dX1_shown_24 rfl (lv_at hl 0 rfl) ?_
      refine g_get hx hb hts hown hG inX1 0 rfl rfl 8 (by decide) q113 (v := .ref (hs 8)) rfl dX1_shown_25 ?_
      refine lv_iload hx hb dX1_shown_28 (lv_at hl 4 rfl) ?_
      refine g_aldN (f := S8 8) hx hb hG 5 rfl (by decide) (i9) (rfl) (by omega) dX1_shown_30 ?_
      refine g_top (y := nI (G 5 i9)) (he8.2.2.2.2.1 _ hil) ?_
      refine g_calli wC_adr hG (g_runV (As := [.int (nI (G 5 i9))]) (rest := []) ⟨hx, hb, hml, hown, hts⟩ wC_adr (kX1_visibleFrom G S8 hw he8 (G 5 i9) (hw.2.2.2.1 _ hil)) wyX1_visibleFrom q279 hG 0 rfl rfl ⟨by decide, by decide⟩ rfl rfl hl.1 (Nat.le_of_ble_eq_true rfl) ⟨Nat.le_refl 0, Nat.le_refl 0⟩ dX1_shown_31) (fun r2 S1 H locs hp hG => ?_)
      obtain ⟨rfl, hfr⟩ := hp
      refine lv_iload_n hx hb dX1_shown_34 rfl (lv_at hl 2 rfl) ?_
      refine lv_iconst (v := (-1)) hx hb dX1_shown_35 (by decide) ?_
      refine lv_ixor hx hb dX1_shown_36 ?_
      refine lv_iand hx hb dX1_shown_37 ?_
      refine g_top (y := surI G i9) (sur_C hw hil) ?_
      refine lv_istore (lv' := [(5, .int (surI G i9)), (0, .ref (hs 0)), (1, .int k9), (2, .int (earI G i9)), (3, .int (nI (bef G i9 0))), (4, .int (nI i9))]) hx hb dX1_shown_38 hl (by decide) rfl (fun ls hl => ?_)
      refine lv_iconst (v := 0) hx hb dX1_shown_40 (by decide) ?_
      refine lv_istore (lv' := [(6, .int 0), (5, .int (surI G i9)), (0, .ref (hs 0)), (1, .int k9), (2, .int (earI G i9)), (3, .int (nI (bef G i9 0))), (4, .int (nI i9))]) hx hb dX1_shown_41 hl (by decide) rfl (fun ls hl => ?_)
      have he7 := he8.fr hfr
      refine g_rec (τ := Nat) (fun j S9 => j ≤ G 0 2 ∧ S9 = S1 ∧ ∀ f, f < G 0 2 → (apN G (G 2) f < i9 ∨ (apN G (G 2) f = i9 ∧ f < j)) → ahd G f ≠ nN k9) (fun j => 100 - j) (fun j => [(0, .ref (hs 0)), (1, .int k9), (2, .int (earI G i9)), (3, .int (nI (bef G i9 j))), (4, .int (nI i9)), (5, .int (surI G i9)), (6, .int (nI j))]) 43 7 ?_ 0 _ _ _ _ (⟨Nat.zero_le _, rfl, fun f h1 h2 => hno f h1 (by omega)⟩) hG (lv_sub hl [2, 3, 4, 5, 6, 1, 0] (rfl))
      intro x9 S9 H locs ls hI hG hl ih
      obtain ⟨hj, hS9, hno2⟩ := hI
      replace hG := hG.st hS9
      refine lv_iload hx hb dX1_shown_43 (lv_at hl 6 rfl) ?_
      refine lv_aload_n hx hb dX1_shown_45 rfl (lv_at hl 0 rfl) ?_
      refine g_get hx hb hts hown hG inX1 0 rfl rfl 4 (by decide) q109 (v := .int (S1 0 4)) rfl dX1_shown_46 ?_
      refine g_top (y := nI (G 0 2)) (he7.1.2.2.1) ?_
      refine lv_icmp_ge (tgt := 79) hx hb dX1_shown_49 (by decide) (fun c49 => ?_) (fun c49 => ?_)
      · have hjl : G 0 2 ≤ x9 := (nI_leI (by omega) (by omega)).mp c49
        refine lv_iload_n hx hb dX1_shown_79 rfl (lv_at hl 2 rfl) ?_
        refine lv_iload hx hb dX1_shown_80 (lv_at hl 5 rfl) ?_
        refine lv_ior hx hb dX1_shown_82 ?_
        refine lv_istore_n (lv' := [(2, .int ((earI G i9) ||| (surI G i9))), (0, .ref (hs 0)), (1, .int k9), (3, .int (nI (bef G i9 x9))), (4, .int (nI i9)), (5, .int (surI G i9)), (6, .int (nI x9))]) hx hb dX1_shown_83 rfl hl (by decide) rfl (fun ls hl => ?_)
        refine lv_iinc (v := nI (i9 + 1)) (lv' := [(4, .int (nI (i9 + 1))), (2, .int ((earI G i9) ||| (surI G i9))), (0, .ref (hs 0)), (1, .int k9), (3, .int (nI (bef G i9 x9))), (5, .int (surI G i9)), (6, .int (nI x9))]) hx hb dX1_shown_84 hl (k := 4) rfl (nI_1 i9) (by decide) rfl (fun ls hl => ?_)
        refine lv_goto (tgt := 14) hx hb dX1_shown_87 (by decide) ?_
        have e1 : earI G i9 ||| surI G i9 = earI G (i9 + 1) := by rw [← sur_C hw hil]; exact ear_succ hw hil
        exact ih1 (i9 + 1) _ _ _ _ (by omega) ⟨hil, hfr0.tr hfr, fun f h1 h2 => hno2 f h1 (by omega)⟩ hG (lv_sub hl [2, 3, 1, 4, 0] (by rw [← e1, ← bef_next i9, show G 0 2 = x9 by omega]; rfl))
      · have hjl : x9 < G 0 2 := Nat.lt_of_not_le (fun q => c49 (nI_le q (by omega)))
        refine lv_iload hx hb dX1_shown_52 (lv_at hl 5 rfl) ?_
        refine lv_iconst (v := 1) hx hb dX1_shown_54 (by decide) ?_
        refine lv_iload hx hb dX1_shown_55 (lv_at hl 6 rfl) ?_
        refine lv_ishl hx hb dX1_shown_57 ?_
        refine lv_iand hx hb dX1_shown_58 ?_
        refine lv_if_eq (tgt := 73) hx hb dX1_shown_59 (by decide) (fun c59 => ?_) (fun c59 => ?_)
        · have hap : ¬ apN G (G 2) x9 = i9 := (sur_bit hw hjl).mp c59
          refine lv_iinc (v := nI (x9 + 1)) (lv' := [(6, .int (nI (x9 + 1))), (0, .ref (hs 0)), (1, .int k9), (2, .int (earI G i9)), (3, .int (nI (bef G i9 x9))), (4, .int (nI i9)), (5, .int (surI G i9))]) hx hb dX1_shown_73 hl (k := 6) rfl (nI_1 x9) (by decide) rfl (fun ls hl => ?_)
          refine lv_goto (tgt := 43) hx hb dX1_shown_76 (by decide) ?_
          have hno3 : ∀ f, f < G 0 2 → (apN G (G 2) f < i9 ∨ (apN G (G 2) f = i9 ∧ f < x9 + 1)) → ahd G f ≠ nN k9 := fun f h1 h2 => by
            have hne : f = x9 → ¬ apN G (G 2) f = i9 := fun q => by rw [q]; exact hap
            exact hno2 f h1 (by omega)
          exact ih (x9 + 1) _ _ _ _ (by omega) ⟨hjl, rfl, hno3⟩ hG (lv_sub hl [1, 2, 3, 4, 5, 6, 0] (by rw [bef_miss hap]; rfl))
        · have hap : apN G (G 2) x9 = i9 := Classical.byContradiction (fun q => c59 ((sur_bit hw hjl).mpr q))
          refine lv_iload_n hx hb dX1_shown_62 rfl (lv_at hl 3 rfl) ?_
          refine lv_iload_n hx hb dX1_shown_63 rfl (lv_at hl 1 rfl) ?_
          refine lv_icmp_ne (tgt := 70) hx hb dX1_shown_64 (by decide) (fun c64 => ?_) (fun c64 => ?_)
          · refine lv_iinc (v := nI ((bef G i9 x9) + 1)) (lv' := [(3, .int (nI ((bef G i9 x9) + 1))), (0, .ref (hs 0)), (1, .int k9), (2, .int (earI G i9)), (4, .int (nI i9)), (5, .int (surI G i9)), (6, .int (nI x9))]) hx hb dX1_shown_70 hl (k := 3) rfl (nI_1 (bef G i9 x9)) (by decide) rfl (fun ls hl => ?_)
            refine lv_iinc (v := nI (x9 + 1)) (lv' := [(6, .int (nI (x9 + 1))), (3, .int (nI ((bef G i9 x9) + 1))), (0, .ref (hs 0)), (1, .int k9), (2, .int (earI G i9)), (4, .int (nI i9)), (5, .int (surI G i9))]) hx hb dX1_shown_73 hl (k := 6) rfl (nI_1 x9) (by decide) rfl (fun ls hl => ?_)
            refine lv_goto (tgt := 43) hx hb dX1_shown_76 (by decide) ?_
            have hah : ahd G x9 ≠ nN k9 := fun q => c64 (by rw [hke, ← q]; unfold ahd; rw [hap])
            exact ih (x9 + 1) _ _ _ _ (by omega) ⟨hjl, rfl, fun f h1 h2 => by
              rcases Nat.lt_trichotomy f x9 with u | u | u
              · exact hno2 f h1 (by omega)
              · rw [u]; exact hah
              · exact hno2 f h1 (by omega)⟩ hG (lv_sub hl [2, 3, 4, 1, 5, 6, 0] (by rw [bef_hit hjl hap]; rfl))
          · refine lv_iload hx hb dX1_shown_67 (lv_at hl 6 rfl) ?_
            have hahd : ahd G x9 = nN k9 := by unfold ahd; rw [hap]; rw [hke] at c64; exact (nI_eq (by have := bef_le (G := G) i9 x9; omega) (by unfold nN; have := Int32.toInt_lt k9; omega)).mp c64
            have hsh : shN G (nN k9) = x9 := sh_hit hjl (by unfold shF; rw [decide_eq_true (show apN G (G 2) x9 < G 0 3 by omega), decide_eq_true hahd]; rfl)
            exact g_iret hx hb hr hlk hG ⟨by unfold F_shown; rw [if_neg (by rw [Int32.le_iff_toInt_le, Int32.toInt_zero] at c1; rw [Int32.lt_iff_toInt_lt, Int32.toInt_zero]; omega), hsh, if_pos hjl], hfr0.tr hfr⟩ dX1_shown_69
  · refine lv_bipush (v := (-4)) hx hb dX1_shown_4 (by decide) ?_
    exact g_iret hx hb hr hlk hG ⟨by unfold F_shown; rw [if_pos (by rw [Int32.le_iff_toInt_le, Int32.toInt_zero] at c1; rw [Int32.lt_iff_toInt_lt, Int32.toInt_zero]; omega)], fr13.rf⟩ dX1_shown_6
