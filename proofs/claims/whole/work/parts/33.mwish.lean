/-! ===== the reference: wishes and prospects ===== -/
theorem spI_m {G : GN} {p k c : Nat} {Hh : Nat → Nat} (h9 : G 2 c ≤ 60) (hle : Hh c ≤ G 2 c) (h : loI G (G 2) p k c < 0) : nI (LK G Hh c) = nI (LK G (lowN G Hh p k) c) := by
  have := wish_step (p := p) (k := k) h9 hle
  rw [if_pos h] at this; exact this
theorem spI_p {G : GN} {p k c : Nat} {Hh : Nat → Nat} (h9 : G 2 c ≤ 60) (hle : Hh c ≤ G 2 c) (h : ¬ loI G (G 2) p k c < 0) : (if nI (LK G Hh c) ≤ loI G (G 2) p k c then nI (LK G Hh c) else loI G (G 2) p k c) = nI (LK G (lowN G Hh p k) c) := by
  have := wish_step (p := p) (k := k) h9 hle
  rw [if_neg h] at this; exact this
set_option maxHeartbeats 4000000 in
set_option maxRecDepth 100000 in
theorem kX2_layWished {l : Launch} {D : va_G} {cy : ClassId} {hs : Nat → Nat} {X : va_W} (G : GN) (S : GS) (hw : wf G) (he : encM G S) : Ct l D cy (wM cy hs X) yX2_layWished cX2_layWished 4 none 4 92 (S) [.ref (hs 0)] (QV D (wM cy hs X) (fun S' => (∀ c, c < 192 → S' 26 c = nI (LK G (wpl G (G 0 4)) c)) ∧ LkM G (G 2) S' ∧ encM G S' ∧ S' 21 = S 21)) := by
  refine Ct.of wM_adr (plainFor_of_name (by decide)) (Nat.le_of_ble_eq_true rfl) ?_
  intro p e s m below meth c ls C hl hG
  obtain ⟨hx, hb, hml, hown, hts, hr, hlk⟩ := C
  have hl : lv_has ls 4 [(0, .ref (hs 0))] := hl
  refine lv_aload_n hx hb dX2_layWished_0 rfl (lv_at hl 0 rfl) ?_
  refine g_callv wM_adr hG (g_runV (As := []) (rest := []) ⟨hx, hb, hml, hown, hts⟩ wM_adr (kX2_takeHeights G S hw he) wyX2_takeHeights q533 hG 0 rfl rfl ⟨by decide, by decide⟩ rfl rfl hl.1 (Nat.le_of_ble_eq_true rfl) ⟨Nat.le_refl 0, Nat.le_refl 0⟩ dX2_layWished_1) (fun S1 H locs hp hG => ?_)
  obtain ⟨hLt, hft⟩ := hp
  have het := he.fb (Or.inl rfl) hft
  refine lv_iconst (v := 0) hx hb dX2_layWished_4 (by decide) ?_
  refine lv_istore_n (lv' := [(1, .int 0), (0, .ref (hs 0))]) hx hb dX2_layWished_5 rfl hl (by decide) rfl (fun ls hl => ?_)
  refine g_rec (τ := Nat) (fun j S9 => j ≤ 192 ∧ (∀ c, c < j → S9 26 c = nI (LK G (G 2) c)) ∧ frB 26 S1 S9) (fun j => 200 - j) (fun j => [(0, .ref (hs 0)), (1, .int (nI j))]) 6 4 ?_ 0 _ _ _ _ (⟨by decide, fun c hc => absurd hc (by omega), frB.rf⟩) hG (lv_sub hl [1, 0] (rfl))
  intro x9 S9 H locs ls hI hG hl ih
  obtain ⟨hj, hA, hfr⟩ := hI
  refine lv_iload_n hx hb dX2_layWished_6 rfl (lv_at hl 1 rfl) ?_
  refine lv_sipush (v := 192) hx hb dX2_layWished_7 (by decide) ?_
  refine lv_icmp_ge (tgt := 31) hx hb dX2_layWished_10 (by decide) (fun c10 => ?_) (fun c10 => ?_)
  · have hjl : 192 ≤ x9 := (nI_leI (a := 192) (by omega) (by omega)).mp c10
    refine lv_iconst (v := 0) hx hb dX2_layWished_31 (by decide) ?_
    refine lv_istore_n (lv' := [(1, .int 0), (0, .ref (hs 0))]) hx hb dX2_layWished_32 rfl hl (by decide) rfl (fun ls hl => ?_)
    have h21 : S9 21 = S 21 := (hfr 21 (by decide)).trans (hft 21 (by decide))
    refine g_rec (τ := Nat) (fun j S8 => j ≤ G 0 4 ∧ (∀ c, c < 192 → S8 26 c = nI (LK G (wpl G j) c)) ∧ LkM G (G 2) S8 ∧ encM G S8 ∧ S8 21 = S 21) (fun j => 100 - j) (fun j => [(0, .ref (hs 0)), (1, .int (nI j))]) 33 4 ?_ 0 _ _ _ _ (⟨Nat.zero_le _, fun c hc => hA c (by omega), fun c hc => by rw [hfr 17 (by decide)]; exact hLt c hc, het.fb (Or.inr (Or.inr rfl)) hfr, h21⟩) hG (lv_sub hl [1, 0] (rfl))
    intro i9 S8 H locs ls hI hG hl ih1
    obtain ⟨hi, hA8, hL8, he8, h218⟩ := hI
    have hnq := hw.1.2.2.2.2.2.2
    refine lv_iload_n hx hb dX2_layWished_33 rfl (lv_at hl 1 rfl) ?_
    refine lv_aload_n hx hb dX2_layWished_34 rfl (lv_at hl 0 rfl) ?_
    refine g_get hx hb hts hown hG inX2 0 rfl rfl 22 (by decide) q414 (v := .int (S8 0 22)) rfl dX2_layWished_35 ?_
    refine g_top (y := nI (G 0 4)) (he8.1.2.2.2.2) ?_
    refine lv_icmp_ge (tgt := 139) hx hb dX2_layWished_38 (by decide) (fun c38 => ?_) (fun c38 => ?_)
    · have hil : G 0 4 ≤ i9 := (nI_leI (by omega) (by omega)).mp c38
      exact g_vret hx hb hr hlk hG (by rw [show G 0 4 = i9 by omega]; exact ⟨hA8, hL8, he8, h218⟩) dX2_layWished_139
    · have hil : i9 < G 0 4 := Nat.lt_of_not_le (fun q => c38 (nI_le q (by omega)))
      have hq9 := hw.2.2.2.2 i9 hil
      refine lv_aload_n hx hb dX2_layWished_41 rfl (lv_at hl 0 rfl) ?_
      refine lv_aload_n hx hb dX2_layWished_42 rfl (lv_at hl 0 rfl) ?_
      refine g_get hx hb hts hown hG inX2 0 rfl rfl 23 (by decide) q415 (v := .ref (hs 23)) rfl dX2_layWished_43 ?_
      refine lv_iload_n hx hb dX2_layWished_46 rfl (lv_at hl 1 rfl) ?_
      refine g_aldN (f := S8 23) hx hb hG 10 rfl (by decide) (i9) (rfl) (by omega) dX2_layWished_47 ?_
      refine g_top (y := nI (G 6 i9 % 16)) ((he8.2.2.2.2.2 _ hil).1) ?_
      refine lv_aload_n hx hb dX2_layWished_48 rfl (lv_at hl 0 rfl) ?_
      refine g_get hx hb hts hown hG inX2 0 rfl rfl 24 (by decide) q416 (v := .ref (hs 24)) rfl dX2_layWished_49 ?_
      refine lv_iload_n hx hb dX2_layWished_52 rfl (lv_at hl 1 rfl) ?_
      refine g_aldN (f := S8 24) hx hb hG 11 rfl (by decide) (i9) (rfl) (by omega) dX2_layWished_53 ?_
      refine g_top (y := nI (G 6 i9 / 16)) ((he8.2.2.2.2.2 _ hil).2.1) ?_
      refine g_calliE wM_adr hG (g_runV (As := [.int (nI (G 6 i9 % 16)), .int (nI (G 6 i9 / 16))]) (rest := []) ⟨hx, hb, hml, hown, hts⟩ wM_adr (kX2_isPlace S8 (nI (G 6 i9 % 16)) (nI (G 6 i9 / 16)) (vp_c hq9.1)) wyX2_isPlace q529 hG 0 rfl rfl ⟨by decide, by decide⟩ rfl rfl hl.1 (Nat.le_of_ble_eq_true rfl) ⟨Nat.le_refl 0, Nat.le_refl 0⟩ dX2_layWished_54) (fun H locs hG => ?_)
      refine g_top (y := if plB G (G 6 i9) then 1 else 0) (placeM hw he8 hq9.1 (idx_c _)) ?_
      refine lv_if_eq (tgt := 133) hx hb dX2_layWished_57 (by decide) (fun c57 => ?_) (fun c57 => ?_)
      · refine lv_iinc (v := nI (i9 + 1)) (lv' := [(1, .int (nI (i9 + 1))), (0, .ref (hs 0))]) hx hb dX2_layWished_133 hl (k := 1) rfl (nI_1 i9) (by decide) rfl (fun ls hl => ?_)
        refine lv_goto (tgt := 33) hx hb dX2_layWished_136 (by decide) ?_
        have e1 : wpl G (i9 + 1) = wpl G i9 := if_neg (ite10.mp c57)
        exact ih1 (i9 + 1) _ _ _ _ (by omega) ⟨hil, fun c hc => by rw [e1]; exact hA8 c hc, hL8, he8, h218⟩ hG (lv_sub hl [1, 0] rfl)
      · have hpl9 : plB G (G 6 i9) = true := Classical.byContradiction (fun q => c57 (ite10.mpr q))
        refine lv_aload_n hx hb dX2_layWished_60 rfl (lv_at hl 0 rfl) ?_
        refine lv_aload_n hx hb dX2_layWished_61 rfl (lv_at hl 0 rfl) ?_
        refine g_get hx hb hts hown hG inX2 0 rfl rfl 23 (by decide) q415 (v := .ref (hs 23)) rfl dX2_layWished_62 ?_
        refine lv_iload_n hx hb dX2_layWished_65 rfl (lv_at hl 1 rfl) ?_
        refine g_aldN (f := S8 23) hx hb hG 10 rfl (by decide) (i9) (rfl) (by omega) dX2_layWished_66 ?_
        refine g_top (y := nI (G 6 i9 % 16)) ((he8.2.2.2.2.2 _ hil).1) ?_
        refine lv_aload_n hx hb dX2_layWished_67 rfl (lv_at hl 0 rfl) ?_
        refine g_get hx hb hts hown hG inX2 0 rfl rfl 24 (by decide) q416 (v := .ref (hs 24)) rfl dX2_layWished_68 ?_
        refine lv_iload_n hx hb dX2_layWished_71 rfl (lv_at hl 1 rfl) ?_
        refine g_aldN (f := S8 24) hx hb hG 11 rfl (by decide) (i9) (rfl) (by omega) dX2_layWished_72 ?_
        refine g_top (y := nI (G 6 i9 / 16)) ((he8.2.2.2.2.2 _ hil).2.1) ?_
        refine lv_aload_n hx hb dX2_layWished_73 rfl (lv_at hl 0 rfl) ?_
        refine g_get hx hb hts hown hG inX2 0 rfl rfl 25 (by decide) q417 (v := .ref (hs 25)) rfl dX2_layWished_74 ?_
        refine lv_iload_n hx hb dX2_layWished_77 rfl (lv_at hl 1 rfl) ?_
        refine g_aldN (f := S8 25) hx hb hG 12 rfl (by decide) (i9) (rfl) (by omega) dX2_layWished_78 ?_
        refine g_top (y := nI (G 7 i9)) ((he8.2.2.2.2.2 _ hil).2.2) ?_
        replace hG := hG.st (S' := sm S8 (sF S8)) (sm_sF S8).symm
        refine g_callvE wM_adr hG (g_runV (As := [.int (nI (G 6 i9 % 16)), .int (nI (G 6 i9 / 16)), .int (nI (G 7 i9))]) (rest := []) ⟨hx, hb, hml, hown, hts⟩ wM_adr (kX2_look S8 (sF S8) ((G 6 i9) % 16) ((G 6 i9) / 16) (G 7 i9) (G 3 (G 7 i9) % 16) (G 3 (G 7 i9) / 16) (by omega) (by have := hq9.1; omega) (by have := hw.1.2.2.2.2.1; have := hq9.2; omega) (he8.2.2.2.1 _ hq9.2).1 (he8.2.2.2.1 _ hq9.2).2.1 (by omega) (by have := (hw.f hq9.2).1; omega)) wyX2_look q537 hG 0 rfl rfl ⟨by decide, by decide⟩ rfl rfl hl.1 (Nat.le_of_ble_eq_true rfl) ⟨Nat.le_refl 0, Nat.le_refl 0⟩ dX2_layWished_79) (fun H locs hG => ?_)
        replace hG := hG.st (S' := sm S8 (lkG G (G 6 i9) (G 7 i9) ((sF S8) 7) ((sF S8) 8))) (congrArg (sm S8) (look_G hw he8 hq9.1 hq9.2))
        generalize (sF S8) 7 = o2 at hG
        generalize (sF S8) 8 = o3 at hG
        refine lv_iconst (v := 0) hx hb dX2_layWished_82 (by decide) ?_
        refine lv_istore_n (lv' := [(2, .int 0), (0, .ref (hs 0)), (1, .int (nI i9))]) hx hb dX2_layWished_83 rfl hl (by decide) rfl (fun ls hl => ?_)
        have e1 : wpl G (i9 + 1) = lowN G (wpl G i9) (G 6 i9) (G 7 i9) := if_pos hpl9
        refine g_rec (τ := Nat) (fun j S7 => j ≤ 192 ∧ ∃ S6 x7 x8, S7 = sm S6 (lkG G (G 6 i9) (G 7 i9) x7 x8) ∧ (∀ c, c < 192 → S6 26 c = nI (if c < j then LK G (wpl G (i9 + 1)) c else LK G (wpl G i9) c)) ∧ frB 26 S8 S6) (fun j => 200 - j) (fun j => [(0, .ref (hs 0)), (1, .int (nI i9)), (2, .int (nI j))]) 84 4 ?_ 0 _ _ _ _ (⟨by decide, _, _, _, rfl, fun c hc => by rw [if_neg (by omega)]; exact hA8 c hc, frB.rf⟩) hG (lv_sub hl [1, 2, 0] (rfl))
        intro j9 S7 H locs ls hI hG hl ih2
        obtain ⟨hj9, S6, x7, x8, rfl, hA6, hfr6⟩ := hI
        have hL6 : LkM G (G 2) S6 := fun c hc => by rw [hfr6 17 (by decide)]; exact hL8 c hc
        refine lv_iload_n hx hb dX2_layWished_84 rfl (lv_at hl 2 rfl) ?_
        refine lv_sipush (v := 192) hx hb dX2_layWished_85 (by decide) ?_
        refine lv_icmp_ge (tgt := 133) hx hb dX2_layWished_88 (by decide) (fun c88 => ?_) (fun c88 => ?_)
        · have hjj : 192 ≤ j9 := (nI_leI (a := 192) (by omega) (by omega)).mp c88
          refine lv_iinc (v := nI (i9 + 1)) (lv' := [(1, .int (nI (i9 + 1))), (0, .ref (hs 0)), (2, .int (nI j9))]) hx hb dX2_layWished_133 hl (k := 1) rfl (nI_1 i9) (by decide) rfl (fun ls hl => ?_)
          refine lv_goto (tgt := 33) hx hb dX2_layWished_136 (by decide) ?_
          exact ih1 (i9 + 1) _ _ _ _ (by omega) ⟨hil, fun c hc => by rw [sm_ne _ _ (by decide), hA6 c hc, if_pos (by omega)], fun c hc => by rw [sm_ne _ _ (by decide), hfr6 17 (by decide)]; exact hL8 c hc, (he8.fb (Or.inr (Or.inr rfl)) hfr6).sm, by rw [sm_ne _ _ (by decide), hfr6 21 (by decide)]; exact h218⟩ hG (lv_sub hl [1, 0] rfl)
        · have hjj : j9 < 192 := Nat.lt_of_not_le (fun q => c88 (nI_le (a := 192) q (by omega)))
          refine lv_aload_n hx hb dX2_layWished_91 rfl (lv_at hl 0 rfl) ?_
          refine lv_iload_n hx hb dX2_layWished_92 rfl (lv_at hl 2 rfl) ?_
          refine g_calliE wM_adr hG (g_runV (As := [.int (nI j9)]) (rest := []) ⟨hx, hb, hml, hown, hts⟩ wM_adr (kX2_loweredTo S6 (lkG G (G 6 i9) (G 7 i9) x7 x8) j9 hjj (lkG_6 hw hq9.1 hq9.2)) wyX2_loweredTo q551 hG 0 rfl rfl ⟨by decide, by decide⟩ rfl rfl hl.1 (Nat.le_of_ble_eq_true rfl) ⟨Nat.le_refl 0, Nat.le_refl 0⟩ dX2_layWished_93) (fun H locs hG => ?_)
          refine g_top (y := loI G (G 2) (G 6 i9) (G 7 i9) j9) (low_I hw hL6 (hG2 hw) hq9.1 hq9.2 hjj) ?_
          obtain ⟨u4, u5, e7⟩ := low_gE S6 G (G 6 i9) (G 7 i9) x7 x8 j9
          replace hG := hG.st (S' := sm S6 (lkG G (G 6 i9) (G 7 i9) u4 u5)) (congrArg (sm S6) e7)
          refine lv_istore_n (lv' := [(3, .int (loI G (G 2) (G 6 i9) (G 7 i9) j9)), (0, .ref (hs 0)), (1, .int (nI i9)), (2, .int (nI j9))]) hx hb dX2_layWished_96 rfl hl (by decide) rfl (fun ls hl => ?_)
          refine lv_aload_n hx hb dX2_layWished_97 rfl (lv_at hl 1 rfl) ?_
          refine g_get hx hb hts hown hG inX2 0 rfl rfl 26 (by decide) q418 (v := .ref (hs 26)) rfl dX2_layWished_98 ?_
          refine lv_iload_n hx hb dX2_layWished_101 rfl (lv_at hl 3 rfl) ?_
          refine lv_iload_n hx hb dX2_layWished_102 rfl (lv_at hl 0 rfl) ?_
          refine lv_if_lt (tgt := 120) hx hb dX2_layWished_103 (by decide) (fun c103 => ?_) (fun c103 => ?_)
          · refine lv_aload_n hx hb dX2_layWished_120 rfl (lv_at hl 1 rfl) ?_
            refine g_get hx hb hts hown hG inX2 0 rfl rfl 26 (by decide) q418 (v := .ref (hs 26)) rfl dX2_layWished_121 ?_
            refine lv_iload_n hx hb dX2_layWished_124 rfl (lv_at hl 3 rfl) ?_
            refine g_aldN (f := S6 26) hx hb hG 13 rfl (by decide) (j9) (rfl) (hjj) dX2_layWished_125 ?_
            refine g_top (y := nI (LK G (wpl G i9) j9)) ((hA6 j9 hjj).trans (by rw [if_neg (by omega)])) ?_
            refine g_top (y := nI (LK G (wpl G (i9 + 1)) j9)) (by rw [e1]; exact spI_m (hG2 hw _ hjj) (wpl_le G j9 i9) c103) ?_
            refine g_astN (f := S6 26) hx hb hG 13 rfl (by decide) (j9) (rfl) (hjj) (sm (up2 S6 26 j9 (nI (LK G (wpl G (i9 + 1)) j9))) (lkG G (G 6 i9) (G 7 i9) u4 u5)) (rfl) dX2_layWished_126 (fun H locs hG => ?_)
            refine lv_iinc (v := nI (j9 + 1)) (lv' := [(2, .int (nI (j9 + 1))), (3, .int (loI G (G 2) (G 6 i9) (G 7 i9) j9)), (0, .ref (hs 0)), (1, .int (nI i9))]) hx hb dX2_layWished_127 hl (k := 3) rfl (nI_1 j9) (by decide) rfl (fun ls hl => ?_)
            refine lv_goto (tgt := 84) hx hb dX2_layWished_130 (by decide) ?_
            refine ih2 (j9 + 1) _ _ _ _ (by omega) ⟨hjj, _, _, _, rfl, fun c hc => ?_, fun j hj => by rw [up2_ne _ _ _ _ hj]; exact hfr6 j hj⟩ hG (lv_sub hl [2, 3, 0] rfl)
            rw [up2_eq]; unfold upd
            by_cases g : c = j9
            · rw [if_pos g, if_pos (by omega), g]
            · rw [if_neg g, hA6 c hc]; simp only [show (c < j9 + 1) = (c < j9) from propext (by omega)]
          · refine lv_iload_n hx hb dX2_layWished_106 rfl (lv_at hl 0 rfl) ?_
            refine lv_aload_n hx hb dX2_layWished_107 rfl (lv_at hl 1 rfl) ?_
            refine g_get hx hb hts hown hG inX2 0 rfl rfl 26 (by decide) q418 (v := .ref (hs 26)) rfl dX2_layWished_108 ?_
            refine lv_iload_n hx hb dX2_layWished_111 rfl (lv_at hl 3 rfl) ?_
            refine g_aldN (f := S6 26) hx hb hG 13 rfl (by decide) (j9) (rfl) (hjj) dX2_layWished_112 ?_
            refine g_top (y := nI (LK G (wpl G i9) j9)) ((hA6 j9 hjj).trans (by rw [if_neg (by omega)])) ?_
            refine g_dia (P := nI (LK G (wpl G i9) j9) ≤ loI G (G 2) (G 6 i9) (G 7 i9) j9) (J := 126) (A9 := nI (LK G (wpl G i9) j9)) (B9 := loI G (G 2) (G 6 i9) (G 7 i9) j9) (ls9 := ls) (rest9 := [.int (nI j9), .ref (hs 26)]) (fun ka7 kb8 => ?_) ?_
            · refine lv_icmp_ge (tgt := 120) hx hb dX2_layWished_113 (by decide) (fun c6 => ?_) (fun c6 => ?_)
              · refine lv_aload_n hx hb dX2_layWished_120 rfl (lv_at hl 1 rfl) ?_
                refine g_get hx hb hts hown hG inX2 0 rfl rfl 26 (by decide) q418 (v := .ref (hs 26)) rfl dX2_layWished_121 ?_
                refine lv_iload_n hx hb dX2_layWished_124 rfl (lv_at hl 3 rfl) ?_
                refine g_aldN (f := S6 26) hx hb hG 13 rfl (by decide) (j9) (rfl) (hjj) dX2_layWished_125 ?_
                refine g_top (y := nI (LK G (wpl G i9) j9)) ((hA6 j9 hjj).trans (by rw [if_neg (by omega)])) ?_
                exact ka7 c6
              · refine lv_iload_n hx hb dX2_layWished_116 rfl (lv_at hl 0 rfl) ?_
                refine lv_goto (tgt := 126) hx hb dX2_layWished_117 (by decide) ?_
                exact kb8 c6
            refine g_top (y := nI (LK G (wpl G (i9 + 1)) j9)) (by rw [e1]; exact spI_p (hG2 hw _ hjj) (wpl_le G j9 i9) c103) ?_
            refine g_astN (f := S6 26) hx hb hG 13 rfl (by decide) (j9) (rfl) (hjj) (sm (up2 S6 26 j9 (nI (LK G (wpl G (i9 + 1)) j9))) (lkG G (G 6 i9) (G 7 i9) u4 u5)) (rfl) dX2_layWished_126 (fun H locs hG => ?_)
            refine lv_iinc (v := nI (j9 + 1)) (lv' := [(2, .int (nI (j9 + 1))), (3, .int (loI G (G 2) (G 6 i9) (G 7 i9) j9)), (0, .ref (hs 0)), (1, .int (nI i9))]) hx hb dX2_layWished_127 hl (k := 3) rfl (nI_1 j9) (by decide) rfl (fun ls hl => ?_)
            refine lv_goto (tgt := 84) hx hb dX2_layWished_130 (by decide) ?_
            refine ih2 (j9 + 1) _ _ _ _ (by omega) ⟨hjj, _, _, _, rfl, fun c hc => ?_, fun j hj => by rw [up2_ne _ _ _ _ hj]; exact hfr6 j hj⟩ hG (lv_sub hl [2, 3, 0] rfl)
            rw [up2_eq]; unfold upd
            by_cases g : c = j9
            · rw [if_pos g, if_pos (by omega), g]
            · rw [if_neg g, hA6 c hc]; simp only [show (c < j9 + 1) = (c < j9) from propext (by omega)]
  · have hjl : x9 < 192 := Nat.lt_of_not_le (fun q => c10 (nI_le (a := 192) q (by omega)))
    refine lv_aload_n hx hb dX2_layWished_13 rfl (lv_at hl 0 rfl) ?_
    refine g_get hx hb hts hown hG inX2 0 rfl rfl 26 (by decide) q418 (v := .ref (hs 26)) rfl dX2_layWished_14 ?_
    refine lv_iload_n hx hb dX2_layWished_17 rfl (lv_at hl 1 rfl) ?_
    refine lv_aload_n hx hb dX2_layWished_18 rfl (lv_at hl 0 rfl) ?_
    refine g_get hx hb hts hown hG inX2 0 rfl rfl 17 (by decide) q409 (v := .ref (hs 17)) rfl dX2_layWished_19 ?_
    refine lv_iload_n hx hb dX2_layWished_22 rfl (lv_at hl 1 rfl) ?_
    refine g_aldN (f := S9 17) hx hb hG 6 rfl (by decide) (x9) (rfl) (hjl) dX2_layWished_23 ?_
    refine g_top (y := nI (LK G (G 2) x9)) ((congrFun (hfr 17 (by decide)) x9).trans (hLt x9 hjl)) ?_
    refine g_astN (f := S9 26) hx hb hG 13 rfl (by decide) (x9) (rfl) (hjl) (up2 S9 26 x9 (nI (LK G (G 2) x9))) (rfl) dX2_layWished_24 (fun H locs hG => ?_)
    refine lv_iinc (v := nI (x9 + 1)) (lv' := [(1, .int (nI (x9 + 1))), (0, .ref (hs 0))]) hx hb dX2_layWished_25 hl (k := 1) rfl (nI_1 x9) (by decide) rfl (fun ls hl => ?_)
    refine lv_goto (tgt := 6) hx hb dX2_layWished_28 (by decide) ?_
    refine ih (x9 + 1) _ _ _ _ (by omega) ⟨by omega, fun c hc => ?_, fun j hj => by rw [up2_ne _ _ _ _ hj]; exact hfr j hj⟩ hG (lv_sub hl [1, 0] rfl)
    rw [up2_eq]
    unfold upd
    by_cases g : c = x9
    · rw [if_pos g, g]
    · rw [if_neg g]; exact hA c (by omega)
set_option maxHeartbeats 4000000 in
set_option maxRecDepth 100000 in
theorem kX2_wishCost {l : Launch} {D : va_G} {cy : ClassId} {hs : Nat → Nat} {X : va_W} (G : GN) (S : GS) (hw : wf G) (he : encM G S) : Ct l D cy (wM cy hs X) yX2_wishCost cX2_wishCost 3 (some .int) 5 115 (S) [.ref (hs 0)] (QI D (wM cy hs X) (fun r S' => r = F_wishCost G ∧ encM G S')) := by
  refine Ct.of wM_adr (plainFor_of_name (by decide)) (Nat.le_of_ble_eq_true rfl) ?_
  intro p e s m below meth c ls C hl hG
  obtain ⟨hx, hb, hml, hown, hts, hr, hlk⟩ := C
  have hl : lv_has ls 3 [(0, .ref (hs 0))] := hl
  refine lv_aload_n hx hb dX2_wishCost_0 rfl (lv_at hl 0 rfl) ?_
  refine g_callv wM_adr hG (g_runV (As := []) (rest := []) ⟨hx, hb, hml, hown, hts⟩ wM_adr (kX2_layWished G S hw he) wyX2_layWished q631 hG 0 rfl rfl ⟨by decide, by decide⟩ rfl rfl hl.1 (Nat.le_of_ble_eq_true rfl) ⟨Nat.le_refl 0, Nat.le_refl 0⟩ dX2_wishCost_1) (fun S1 H locs hp hG => ?_)
  obtain ⟨hW, hLw, hew, h21w⟩ := hp
  refine lv_iconst (v := 0) hx hb dX2_wishCost_4 (by decide) ?_
  refine lv_istore_n (lv' := [(1, .int 0), (0, .ref (hs 0))]) hx hb dX2_wishCost_5 rfl hl (by decide) rfl (fun ls hl => ?_)
  refine lv_iconst (v := 0) hx hb dX2_wishCost_6 (by decide) ?_
  refine lv_istore_n (lv' := [(2, .int 0), (1, .int 0), (0, .ref (hs 0))]) hx hb dX2_wishCost_7 rfl hl (by decide) rfl (fun ls hl => ?_)
  refine g_rec (τ := Nat) (fun j S9 => j ≤ 192 ∧ S9 = S1) (fun j => 200 - j) (fun j => [(0, .ref (hs 0)), (1, .int (nI (sumN (dW G) j))), (2, .int (nI j))]) 8 3 ?_ 0 _ _ _ _ (⟨by decide, rfl⟩) hG (lv_sub hl [2, 1, 0] (rfl))
  intro x9 S9 H locs ls hI hG hl ih
  obtain ⟨hj, hS9⟩ := hI
  replace hG := hG.st hS9
  refine lv_iload_n hx hb dX2_wishCost_8 rfl (lv_at hl 2 rfl) ?_
  refine lv_sipush (v := 192) hx hb dX2_wishCost_9 (by decide) ?_
  refine lv_icmp_ge (tgt := 37) hx hb dX2_wishCost_12 (by decide) (fun c12 => ?_) (fun c12 => ?_)
  · have hjl : 192 ≤ x9 := (nI_leI (a := 192) (by omega) (by omega)).mp c12
    refine lv_iload_n hx hb dX2_wishCost_37 rfl (lv_at hl 1 rfl) ?_
    exact g_iret hx hb hr hlk hG (⟨by unfold F_wishCost; rw [← wcs_sum, show x9 = 192 by omega]; rfl, hew⟩) dX2_wishCost_38
  · have hjl : x9 < 192 := Nat.lt_of_not_le (fun q => c12 (nI_le (a := 192) q (by omega)))
    refine lv_iload_n hx hb dX2_wishCost_15 rfl (lv_at hl 1 rfl) ?_
    refine lv_aload_n hx hb dX2_wishCost_16 rfl (lv_at hl 0 rfl) ?_
    refine g_get hx hb hts hown hG inX2 0 rfl rfl 17 (by decide) q409 (v := .ref (hs 17)) rfl dX2_wishCost_17 ?_
    refine lv_iload_n hx hb dX2_wishCost_20 rfl (lv_at hl 2 rfl) ?_
    refine g_aldN (f := S1 17) hx hb hG 6 rfl (by decide) (x9) (rfl) (hjl) dX2_wishCost_21 ?_
    refine g_top (y := nI (LK G (G 2) x9)) (hLw _ hjl) ?_
    refine lv_aload_n hx hb dX2_wishCost_22 rfl (lv_at hl 0 rfl) ?_
    refine g_get hx hb hts hown hG inX2 0 rfl rfl 26 (by decide) q418 (v := .ref (hs 26)) rfl dX2_wishCost_23 ?_
    refine lv_iload_n hx hb dX2_wishCost_26 rfl (lv_at hl 2 rfl) ?_
    refine g_aldN (f := S1 26) hx hb hG 13 rfl (by decide) (x9) (rfl) (hjl) dX2_wishCost_27 ?_
    refine g_top (y := nI (LK G (wpl G (G 0 4)) x9)) (hW _ hjl) ?_
    refine lv_isub hx hb dX2_wishCost_28 ?_
    refine lv_iadd hx hb dX2_wishCost_29 ?_
    refine g_top (y := nI (sumN (dW G) (x9 + 1))) (dW_step G x9) ?_
    refine lv_istore_n (lv' := [(1, .int (nI (sumN (dW G) (x9 + 1)))), (0, .ref (hs 0)), (2, .int (nI x9))]) hx hb dX2_wishCost_30 rfl hl (by decide) rfl (fun ls hl => ?_)
    refine lv_iinc (v := nI (x9 + 1)) (lv' := [(2, .int (nI (x9 + 1))), (1, .int (nI (sumN (dW G) (x9 + 1)))), (0, .ref (hs 0))]) hx hb dX2_wishCost_31 hl (k := 2) rfl (nI_1 x9) (by decide) rfl (fun ls hl => ?_)
    refine lv_goto (tgt := 8) hx hb dX2_wishCost_34 (by decide) ?_
    exact ih (x9 + 1) _ _ _ _ (by omega) ⟨hjl, rfl⟩ hG (lv_sub hl [2, 1, 0] rfl)
theorem wh_I {G : GN} (hw : wf G) {c n : Nat} (hc : c < 192) : (if nI (G 1 c) = 2 then nI (LK G (wpl G n) c) else -7) = if G 1 c = 2 then nI (wpl G n c) else -7 := by
  have h := (hw.c hc).1
  by_cases g : G 1 c = 2
  · rw [if_pos g, if_pos (by rw [g]; rfl)]; unfold LK; rw [if_pos g]
  · rw [if_neg g, if_neg (show ¬ nI (G 1 c) = 2 from fun q => g ((nI_eq (b := 2) (by omega) (by decide)).mp q))]
set_option maxHeartbeats 4000000 in
set_option maxRecDepth 100000 in
theorem kX2_wishHeight {l : Launch} {D : va_G} {cy : ClassId} {hs : Nat → Nat} {X : va_W} (G : GN) (S : GS) (hw : wf G) (he : encM G S) (x y : Int32) : Ct l D cy (wM cy hs X) yX2_wishHeight cX2_wishHeight 4 (some .int) 5 115 (S) [.ref (hs 0), .int x, .int y] (QI D (wM cy hs X) (fun r S' => r = F_wishHeight G x y ∧ encM G S')) := by
  refine Ct.of wM_adr (plainFor_of_name (by decide)) (Nat.le_of_ble_eq_true rfl) ?_
  intro p e s m below meth c ls C hl hG
  obtain ⟨hx, hb, hml, hown, hts, hr, hlk⟩ := C
  have hl : lv_has ls 4 [(0, .ref (hs 0)), (1, .int x), (2, .int y)] := hl
  refine lv_aload_n hx hb dX2_wishHeight_0 rfl (lv_at hl 0 rfl) ?_
  refine lv_iload_n hx hb dX2_wishHeight_1 rfl (lv_at hl 1 rfl) ?_
  refine lv_iload_n hx hb dX2_wishHeight_2 rfl (lv_at hl 2 rfl) ?_
  refine g_calliE wM_adr hG (g_runV (As := [.int x, .int y]) (rest := []) ⟨hx, hb, hml, hown, hts⟩ wM_adr (kX2_noCell S x y) wyX2_noCell q485 hG 0 rfl rfl ⟨by decide, by decide⟩ rfl rfl hl.1 (Nat.le_of_ble_eq_true rfl) ⟨Nat.le_refl 0, Nat.le_refl 0⟩ dX2_wishHeight_3) (fun H locs hG => ?_)
  refine g_top (y := if hasB G x y then 0 else 1) (noC hw he x y) ?_
  refine lv_if_eq (tgt := 11) hx hb dX2_wishHeight_6 (by decide) (fun c6 => ?_) (fun c6 => ?_)
  · have h1 : hasB G x y = true := no01.mp c6
    have hc := has_c hw h1
    refine lv_aload_n hx hb dX2_wishHeight_11 rfl (lv_at hl 0 rfl) ?_
    refine g_callv wM_adr hG (g_runV (As := []) (rest := []) ⟨hx, hb, hml, hown, hts⟩ wM_adr (kX2_layWished G S hw he) wyX2_layWished q631 hG 0 rfl rfl ⟨by decide, by decide⟩ rfl rfl hl.1 (Nat.le_of_ble_eq_true rfl) ⟨Nat.le_refl 0, Nat.le_refl 0⟩ dX2_wishHeight_12) (fun S1 H locs hp hG => ?_)
    obtain ⟨hW, hLw, hew, h21w⟩ := hp
    refine lv_bipush (v := 16) hx hb dX2_wishHeight_15 (by decide) ?_
    refine lv_iload_n hx hb dX2_wishHeight_17 rfl (lv_at hl 2 rfl) ?_
    refine lv_imul hx hb dX2_wishHeight_18 ?_
    refine lv_iload_n hx hb dX2_wishHeight_19 rfl (lv_at hl 1 rfl) ?_
    refine lv_iadd hx hb dX2_wishHeight_20 ?_
    refine g_top (y := nI (cN x y)) (cellM h1) ?_
    refine lv_istore_n (lv' := [(3, .int (nI (cN x y))), (0, .ref (hs 0)), (1, .int x), (2, .int y)]) hx hb dX2_wishHeight_21 rfl hl (by decide) rfl (fun ls hl => ?_)
    refine lv_aload_n hx hb dX2_wishHeight_22 rfl (lv_at hl 1 rfl) ?_
    refine g_get hx hb hts hown hG inX2 0 rfl rfl 2 (by decide) q394 (v := .ref (hs 2)) rfl dX2_wishHeight_23 ?_
    refine lv_iload_n hx hb dX2_wishHeight_26 rfl (lv_at hl 0 rfl) ?_
    refine g_aldN (f := S1 2) hx hb hG 1 rfl (by decide) (cN x y) (rfl) (hc) dX2_wishHeight_27 ?_
    refine g_top (y := nI (G 1 (cN x y))) (hew.2.1 _ hc) ?_
    refine lv_iconst (v := 2) hx hb dX2_wishHeight_28 (by decide) ?_
    refine g_dia (P := nI (G 1 (cN x y)) = 2) (J := 43) (A9 := nI (LK G (wpl G (G 0 4)) (cN x y))) (B9 := (-7)) (ls9 := ls) (rest9 := []) (fun ka3 kb4 => ?_) ?_
    · refine lv_icmp_ne (tgt := 41) hx hb dX2_wishHeight_29 (by decide) (fun c2 => ?_) (fun c2 => ?_)
      · refine lv_bipush (v := (-7)) hx hb dX2_wishHeight_41 (by decide) ?_
        exact kb4 c2
      · refine lv_aload_n hx hb dX2_wishHeight_32 rfl (lv_at hl 1 rfl) ?_
        refine g_get hx hb hts hown hG inX2 0 rfl rfl 26 (by decide) q418 (v := .ref (hs 26)) rfl dX2_wishHeight_33 ?_
        refine lv_iload_n hx hb dX2_wishHeight_36 rfl (lv_at hl 0 rfl) ?_
        refine g_aldN (f := S1 26) hx hb hG 13 rfl (by decide) (cN x y) (rfl) (hc) dX2_wishHeight_37 ?_
        refine g_top (y := nI (LK G (wpl G (G 0 4)) (cN x y))) (hW _ hc) ?_
        refine lv_goto (tgt := 43) hx hb dX2_wishHeight_38 (by decide) ?_
        exact ka3 c2
    exact g_iret hx hb hr hlk hG ⟨by unfold F_wishHeight; rw [if_pos h1]; exact wh_I hw hc, hew⟩ dX2_wishHeight_43
  · have h1 : ¬ hasB G x y = true := fun q => c6 (no01.mpr q)
    refine lv_iconst (v := (-1)) hx hb dX2_wishHeight_9 (by decide) ?_
    exact g_iret hx hb hr hlk hG ⟨by unfold F_wishHeight; rw [if_neg h1], he⟩ dX2_wishHeight_10
set_option maxHeartbeats 4000000 in
set_option maxRecDepth 100000 in
theorem kX2_spoiled {l : Launch} {D : va_G} {cy : ClassId} {hs : Nat → Nat} {X : va_W} (G : GN) (S : GS) (hw : wf G) (he : encM G S) : Ct l D cy (wM cy hs X) yX2_spoiled cX2_spoiled 3 (some .int) 7 159 (S) [.ref (hs 0)] (QI D (wM cy hs X) (fun r S' => r = F_spoiled G ∧ encM G S')) := by
  refine Ct.of wM_adr (plainFor_of_name (by decide)) (Nat.le_of_ble_eq_true rfl) ?_
  intro p e s m below meth c ls C hl hG
  obtain ⟨hx, hb, hml, hown, hts, hr, hlk⟩ := C
  have hl : lv_has ls 3 [(0, .ref (hs 0))] := hl
  refine lv_aload_n hx hb dX2_spoiled_0 rfl (lv_at hl 0 rfl) ?_
  refine g_callv wM_adr hG (g_runV (As := []) (rest := []) ⟨hx, hb, hml, hown, hts⟩ wM_adr (kX2_takeHeights G S hw he) wyX2_takeHeights q533 hG 0 rfl rfl ⟨by decide, by decide⟩ rfl rfl hl.1 (Nat.le_of_ble_eq_true rfl) ⟨Nat.le_refl 0, Nat.le_refl 0⟩ dX2_spoiled_1) (fun S1 H locs hp hG => ?_)
  obtain ⟨hLt, hft⟩ := hp
  have het := he.fb (Or.inl rfl) hft
  refine lv_iconst (v := 0) hx hb dX2_spoiled_4 (by decide) ?_
  refine lv_istore_n (lv' := [(1, .int 0), (0, .ref (hs 0))]) hx hb dX2_spoiled_5 rfl hl (by decide) rfl (fun ls hl => ?_)
  refine g_rec (τ := Nat) (fun j S9 => j ≤ G 0 2 ∧ (∀ i, i < j → S9 21 i = apI G (G 2) i) ∧ encM G S9 ∧ LkM G (G 2) S9) (fun j => 100 - j) (fun j => [(0, .ref (hs 0)), (1, .int (nI j))]) 6 3 ?_ 0 _ _ _ _ (⟨Nat.zero_le _, fun i hi => absurd hi (by omega), het, hLt⟩) hG (lv_sub hl [1, 0] (rfl))
  intro x9 S9 H locs ls hI hG hl ih
  obtain ⟨hj, hP, he9, hL9⟩ := hI
  have hnf := hw.1.2.2.2.2.1
  refine lv_iload_n hx hb dX2_spoiled_6 rfl (lv_at hl 1 rfl) ?_
  refine lv_aload_n hx hb dX2_spoiled_7 rfl (lv_at hl 0 rfl) ?_
  refine g_get hx hb hts hown hG inX2 0 rfl rfl 4 (by decide) q396 (v := .int (S9 0 4)) rfl dX2_spoiled_8 ?_
  refine g_top (y := nI (G 0 2)) (he9.1.2.2.1) ?_
  refine lv_icmp_ge (tgt := 31) hx hb dX2_spoiled_11 (by decide) (fun c11 => ?_) (fun c11 => ?_)
  · have hjl : G 0 2 ≤ x9 := (nI_leI (by omega) (by omega)).mp c11
    refine lv_aload_n hx hb dX2_spoiled_31 rfl (lv_at hl 0 rfl) ?_
    refine g_callv wM_adr hG (g_runV (As := []) (rest := []) ⟨hx, hb, hml, hown, hts⟩ wM_adr (kX2_layWished G S9 hw he9) wyX2_layWished q631 hG 0 rfl rfl ⟨by decide, by decide⟩ rfl rfl hl.1 (Nat.le_of_ble_eq_true rfl) ⟨Nat.le_refl 0, Nat.le_refl 0⟩ dX2_spoiled_32) (fun S2 H locs hp hG => ?_)
    obtain ⟨hW, hLw, hew, h21w⟩ := hp
    refine lv_iconst (v := 0) hx hb dX2_spoiled_35 (by decide) ?_
    refine lv_istore_n (lv' := [(1, .int 0), (0, .ref (hs 0))]) hx hb dX2_spoiled_36 rfl hl (by decide) rfl (fun ls hl => ?_)
    refine g_rec (τ := Nat) (fun j S8 => j ≤ 192 ∧ (∀ c, c < j → S8 17 c = nI (LK G (wpl G (G 0 4)) c)) ∧ frB 17 S2 S8) (fun j => 200 - j) (fun j => [(0, .ref (hs 0)), (1, .int (nI j))]) 37 3 ?_ 0 _ _ _ _ (⟨by decide, fun c hc => absurd hc (by omega), frB.rf⟩) hG (lv_sub hl [1, 0] (rfl))
    intro i9 S8 H locs ls hI hG hl ih1
    obtain ⟨hi, hA8, hfr8⟩ := hI
    refine lv_iload_n hx hb dX2_spoiled_37 rfl (lv_at hl 1 rfl) ?_
    refine lv_sipush (v := 192) hx hb dX2_spoiled_38 (by decide) ?_
    refine lv_icmp_ge (tgt := 62) hx hb dX2_spoiled_41 (by decide) (fun c41 => ?_) (fun c41 => ?_)
    · have hil : 192 ≤ i9 := (nI_leI (a := 192) (by omega) (by omega)).mp c41
      refine lv_iconst (v := 0) hx hb dX2_spoiled_62 (by decide) ?_
      refine lv_istore_n (lv' := [(1, .int 0), (0, .ref (hs 0))]) hx hb dX2_spoiled_63 rfl hl (by decide) rfl (fun ls hl => ?_)
      refine lv_iconst (v := 0) hx hb dX2_spoiled_64 (by decide) ?_
      refine lv_istore_n (lv' := [(2, .int 0), (1, .int 0), (0, .ref (hs 0))]) hx hb dX2_spoiled_65 rfl hl (by decide) rfl (fun ls hl => ?_)
      have he8 := hew.fb (Or.inl rfl) hfr8
      have hL8 : LkM G (wpl G (G 0 4)) S8 := fun c hc => hA8 c (by omega)
      have hP8 : ∀ i, i < G 0 2 → S8 21 i = apI G (G 2) i := fun i hi => by rw [hfr8 21 (by decide), h21w]; exact hP i (by omega)
      refine g_rec (τ := Nat) (fun j S7 => j ≤ G 0 2 ∧ frV S8 S7) (fun j => 100 - j) (fun j => [(0, .ref (hs 0)), (1, .int (nI (cntB (spF G) j))), (2, .int (nI j))]) 66 3 ?_ 0 _ _ _ _ (⟨Nat.zero_le _, frV.rf⟩) hG (lv_sub hl [2, 1, 0] (rfl))
      intro j9 S7 H locs ls hI hG hl ih2
      obtain ⟨hj9, hfr7⟩ := hI
      have he7 := he8.fv hfr7
      have hL7 := hL8.fv hfr7
      refine lv_iload_n hx hb dX2_spoiled_66 rfl (lv_at hl 2 rfl) ?_
      refine lv_aload_n hx hb dX2_spoiled_67 rfl (lv_at hl 0 rfl) ?_
      refine g_get hx hb hts hown hG inX2 0 rfl rfl 4 (by decide) q396 (v := .int (S7 0 4)) rfl dX2_spoiled_68 ?_
      refine g_top (y := nI (G 0 2)) (he7.1.2.2.1) ?_
      refine lv_icmp_ge (tgt := 102) hx hb dX2_spoiled_71 (by decide) (fun c71 => ?_) (fun c71 => ?_)
      · have hjj : G 0 2 ≤ j9 := (nI_leI (by omega) (by omega)).mp c71
        refine lv_iload_n hx hb dX2_spoiled_102 rfl (lv_at hl 1 rfl) ?_
        exact g_iret hx hb hr hlk hG (⟨by unfold F_spoiled; rw [show G 0 2 = j9 by omega], he7⟩) dX2_spoiled_103
      · have hjj : j9 < G 0 2 := Nat.lt_of_not_le (fun q => c71 (nI_le q (by omega)))
        refine lv_iload_n hx hb dX2_spoiled_74 rfl (lv_at hl 1 rfl) ?_
        refine lv_aload_n hx hb dX2_spoiled_75 rfl (lv_at hl 0 rfl) ?_
        refine lv_iload_n hx hb dX2_spoiled_76 rfl (lv_at hl 2 rfl) ?_
        refine g_calli wM_adr hG (g_runV (As := [.int (nI j9)]) (rest := [.int (nI (cntB (spF G) j9))]) ⟨hx, hb, hml, hown, hts⟩ wM_adr (kX2_appearsAt G S7 hw he7 (wpl G (G 0 4)) hL7 (wpl_60 hw _) j9 hjj) wyX2_appearsAt q607 hG 0 rfl rfl ⟨by decide, by decide⟩ rfl rfl hl.1 (Nat.le_of_ble_eq_true rfl) ⟨Nat.le_refl 0, Nat.le_refl 0⟩ dX2_spoiled_77) (fun r4 S3 H locs hp hG => ?_)
        obtain ⟨rfl, hfv2⟩ := hp
        refine lv_aload_n hx hb dX2_spoiled_80 rfl (lv_at hl 0 rfl) ?_
        refine g_get hx hb hts hown hG inX2 0 rfl rfl 21 (by decide) q413 (v := .ref (hs 21)) rfl dX2_spoiled_81 ?_
        refine lv_iload_n hx hb dX2_spoiled_84 rfl (lv_at hl 2 rfl) ?_
        refine g_aldN (f := S3 21) hx hb hG 9 rfl (by decide) (j9) (rfl) (by omega) dX2_spoiled_85 ?_
        refine g_top (y := apI G (G 2) j9) ((congrFun ((hfr7.tr hfv2).ne (by decide)) j9).trans (hP8 j9 hjj)) ?_
        refine g_dia (P := apI G (G 2) j9 ≤ apI G (wpl G (G 0 4)) j9) (J := 94) (A9 := 0) (B9 := 1) (ls9 := ls) (rest9 := [.int (nI (cntB (spF G) j9))]) (fun ka6 kb7 => ?_) ?_
        · refine lv_icmp_ge (tgt := 93) hx hb dX2_spoiled_86 (by decide) (fun c5 => ?_) (fun c5 => ?_)
          · refine lv_iconst (v := 0) hx hb dX2_spoiled_93 (by decide) ?_
            exact ka6 c5
          · refine lv_iconst (v := 1) hx hb dX2_spoiled_89 (by decide) ?_
            refine lv_goto (tgt := 94) hx hb dX2_spoiled_90 (by decide) ?_
            exact kb7 c5
        refine lv_iadd hx hb dX2_spoiled_94 ?_
        refine g_top (y := nI (cntB (spF G) (j9 + 1))) (sp_stepM hw j9) ?_
        refine lv_istore_n (lv' := [(1, .int (nI (cntB (spF G) (j9 + 1)))), (0, .ref (hs 0)), (2, .int (nI j9))]) hx hb dX2_spoiled_95 rfl hl (by decide) rfl (fun ls hl => ?_)
        refine lv_iinc (v := nI (j9 + 1)) (lv' := [(2, .int (nI (j9 + 1))), (1, .int (nI (cntB (spF G) (j9 + 1)))), (0, .ref (hs 0))]) hx hb dX2_spoiled_96 hl (k := 2) rfl (nI_1 j9) (by decide) rfl (fun ls hl => ?_)
        refine lv_goto (tgt := 66) hx hb dX2_spoiled_99 (by decide) ?_
        exact ih2 (j9 + 1) _ _ _ _ (by omega) ⟨hjj, hfr7.tr hfv2⟩ hG (lv_sub hl [2, 1, 0] rfl)
    · have hil : i9 < 192 := Nat.lt_of_not_le (fun q => c41 (nI_le (a := 192) q (by omega)))
      refine lv_aload_n hx hb dX2_spoiled_44 rfl (lv_at hl 0 rfl) ?_
      refine g_get hx hb hts hown hG inX2 0 rfl rfl 17 (by decide) q409 (v := .ref (hs 17)) rfl dX2_spoiled_45 ?_
      refine lv_iload_n hx hb dX2_spoiled_48 rfl (lv_at hl 1 rfl) ?_
      refine lv_aload_n hx hb dX2_spoiled_49 rfl (lv_at hl 0 rfl) ?_
      refine g_get hx hb hts hown hG inX2 0 rfl rfl 26 (by decide) q418 (v := .ref (hs 26)) rfl dX2_spoiled_50 ?_
      refine lv_iload_n hx hb dX2_spoiled_53 rfl (lv_at hl 1 rfl) ?_
      refine g_aldN (f := S8 26) hx hb hG 13 rfl (by decide) (i9) (rfl) (hil) dX2_spoiled_54 ?_
      refine g_top (y := nI (LK G (wpl G (G 0 4)) i9)) ((congrFun (hfr8 26 (by decide)) i9).trans (hW i9 hil)) ?_
      refine g_astN (f := S8 17) hx hb hG 6 rfl (by decide) (i9) (rfl) (hil) (up2 S8 17 i9 (nI (LK G (wpl G (G 0 4)) i9))) (rfl) dX2_spoiled_55 (fun H locs hG => ?_)
      refine lv_iinc (v := nI (i9 + 1)) (lv' := [(1, .int (nI (i9 + 1))), (0, .ref (hs 0))]) hx hb dX2_spoiled_56 hl (k := 1) rfl (nI_1 i9) (by decide) rfl (fun ls hl => ?_)
      refine lv_goto (tgt := 37) hx hb dX2_spoiled_59 (by decide) ?_
      refine ih1 (i9 + 1) _ _ _ _ (by omega) ⟨by omega, fun c hc => ?_, fun j hj => by rw [up2_ne _ _ _ _ hj]; exact hfr8 j hj⟩ hG (lv_sub hl [1, 0] rfl)
      rw [up2_eq]
      unfold upd
      by_cases g : c = i9
      · rw [if_pos g, g]
      · rw [if_neg g]; exact hA8 c (by omega)
  · have hjl : x9 < G 0 2 := Nat.lt_of_not_le (fun q => c11 (nI_le q (by omega)))
    refine lv_aload_n hx hb dX2_spoiled_14 rfl (lv_at hl 0 rfl) ?_
    refine g_get hx hb hts hown hG inX2 0 rfl rfl 21 (by decide) q413 (v := .ref (hs 21)) rfl dX2_spoiled_15 ?_
    refine lv_iload_n hx hb dX2_spoiled_18 rfl (lv_at hl 1 rfl) ?_
    refine lv_aload_n hx hb dX2_spoiled_19 rfl (lv_at hl 0 rfl) ?_
    refine lv_iload_n hx hb dX2_spoiled_20 rfl (lv_at hl 1 rfl) ?_
    refine g_calli wM_adr hG (g_runV (As := [.int (nI x9)]) (rest := [.int (nI x9), .ref (hs 21)]) ⟨hx, hb, hml, hown, hts⟩ wM_adr (kX2_appearsAt G S9 hw he9 (G 2) hL9 (hG2 hw) x9 hjl) wyX2_appearsAt q607 hG 0 rfl rfl ⟨by decide, by decide⟩ rfl rfl hl.1 (Nat.le_of_ble_eq_true rfl) ⟨Nat.le_refl 0, Nat.le_refl 0⟩ dX2_spoiled_21) (fun r9 S8 H locs hp hG => ?_)
    obtain ⟨rfl, hfv⟩ := hp
    refine g_astN (f := S8 21) hx hb hG 9 rfl (by decide) (x9) (rfl) (by omega) (up2 S8 21 x9 (apI G (G 2) x9)) (rfl) dX2_spoiled_24 (fun H locs hG => ?_)
    refine lv_iinc (v := nI (x9 + 1)) (lv' := [(1, .int (nI (x9 + 1))), (0, .ref (hs 0))]) hx hb dX2_spoiled_25 hl (k := 1) rfl (nI_1 x9) (by decide) rfl (fun ls hl => ?_)
    refine lv_goto (tgt := 6) hx hb dX2_spoiled_28 (by decide) ?_
    refine ih (x9 + 1) _ _ _ _ (by omega) ⟨hjl, fun i hi => ?_, (he9.fv hfv).fb (Or.inr (Or.inl rfl)) (fun j hj => up2_ne _ _ _ _ hj), fun c hc => by rw [up2_ne _ _ _ _ (by decide)]; exact (hL9.fv hfv) c hc⟩ hG (lv_sub hl [1, 0] rfl)
    rw [up2_eq]; unfold upd
    by_cases g : i = x9
    · rw [if_pos g, g]
    · rw [if_neg g, hfv.ne (by decide)]; exact hP i (by omega)
set_option maxHeartbeats 4000000 in
set_option maxRecDepth 100000 in
theorem kX2_prospectOf {l : Launch} {D : va_G} {cy : ClassId} {hs : Nat → Nat} {X : va_W} (G : GN) (S : GS) (hw : wf G) (he : encM G S) (hL : LkM G (G 2) S) (p9 : Nat) (hp : p9 < 192) (hpl : plB G p9 = true) : Ct l D cy (wM cy hs X) yX2_prospectOf cX2_prospectOf 8 (some .double) 6 137 (S) [.ref (hs 0), .int (nI (p9 % 16)), .int (nI (p9 / 16))] (QD D (wM cy hs X) (fun r S' => r = prN G p9 ∧ frV S S')) := by
  refine Ct.of wM_adr (plainFor_of_name (by decide)) (Nat.le_of_ble_eq_true rfl) ?_
  intro p e s m below meth c ls C hl hG
  obtain ⟨hx, hb, hml, hown, hts, hr, hlk⟩ := C
  have hl : lv_has ls 8 [(0, .ref (hs 0)), (1, .int (nI (p9 % 16))), (2, .int (nI (p9 / 16)))] := hl
  refine lv_dconst0 hx hb dX2_prospectOf_0 ?_
  refine lv_dstore_n (lv' := [(3, .double FP.dconst0), (0, .ref (hs 0)), (1, .int (nI (p9 % 16))), (2, .int (nI (p9 / 16)))]) hx hb dX2_prospectOf_1 rfl hl (by decide) rfl (fun ls hl => ?_)
  refine lv_iconst (v := 0) hx hb dX2_prospectOf_2 (by decide) ?_
  refine lv_istore (lv' := [(5, .int 0), (3, .double FP.dconst0), (0, .ref (hs 0)), (1, .int (nI (p9 % 16))), (2, .int (nI (p9 / 16)))]) hx hb dX2_prospectOf_3 hl (by decide) rfl (fun ls hl => ?_)
  refine g_rec (τ := Nat) (fun j S9 => j ≤ G 0 2 ∧ frV S S9) (fun j => 100 - j) (fun j => [(0, .ref (hs 0)), (1, .int (nI (p9 % 16))), (2, .int (nI (p9 / 16))), (3, .double (prL G p9 j)), (5, .int (nI j))]) 5 8 ?_ 0 _ _ _ _ (⟨Nat.zero_le _, frV.rf⟩) hG (lv_sub hl [2, 3, 4, 1, 0] (rfl))
  intro x9 S9 H locs ls hI hG hl ih
  obtain ⟨hj, hfr⟩ := hI
  have he9 := he.fv hfr
  have hL9 := hL.fv hfr
  have hnf := hw.1.2.2.2.2.1
  refine lv_iload hx hb dX2_prospectOf_5 (lv_at hl 4 rfl) ?_
  refine lv_aload_n hx hb dX2_prospectOf_7 rfl (lv_at hl 0 rfl) ?_
  refine g_get hx hb hts hown hG inX2 0 rfl rfl 4 (by decide) q396 (v := .int (S9 0 4)) rfl dX2_prospectOf_8 ?_
  refine g_top (y := nI (G 0 2)) (he9.1.2.2.1) ?_
  refine lv_icmp_ge (tgt := 95) hx hb dX2_prospectOf_11 (by decide) (fun c11 => ?_) (fun c11 => ?_)
  · have hjl : G 0 2 ≤ x9 := (nI_leI (by omega) (by omega)).mp c11
    refine lv_dload_n hx hb dX2_prospectOf_95 rfl (lv_at hl 3 rfl) ?_
    exact g_dret hx hb hr hlk hG ⟨by unfold prN; rw [show x9 = G 0 2 by omega], hfr⟩ dX2_prospectOf_96
  · have hjl : x9 < G 0 2 := Nat.lt_of_not_le (fun q => c11 (nI_le q (by omega)))
    refine lv_aload_n hx hb dX2_prospectOf_14 rfl (lv_at hl 0 rfl) ?_
    refine lv_iload_n hx hb dX2_prospectOf_15 rfl (lv_at hl 1 rfl) ?_
    refine lv_iload_n hx hb dX2_prospectOf_16 rfl (lv_at hl 2 rfl) ?_
    refine lv_iload hx hb dX2_prospectOf_17 (lv_at hl 4 rfl) ?_
    refine g_calli wM_adr hG (g_runV (As := [.int (nI (p9 % 16)), .int (nI (p9 / 16)), .int (nI x9)]) (rest := []) ⟨hx, hb, hml, hown, hts⟩ wM_adr (kX2_isSeen G S9 hw he9 (G 2) hL9 (hG2 hw) p9 x9 hp hjl) wyX2_isSeen q571 hG 0 rfl rfl ⟨by decide, by decide⟩ rfl rfl hl.1 (Nat.le_of_ble_eq_true rfl) ⟨Nat.le_refl 0, Nat.le_refl 0⟩ dX2_prospectOf_19) (fun r2 S1 H locs hp hG => ?_)
    obtain ⟨rfl, v3, v4, rfl⟩ := hp
    refine lv_if_eq (tgt := 89) hx hb dX2_prospectOf_22 (by decide) (fun c22 => ?_) (fun c22 => ?_)
    · have hv : ¬ visB G (G 2) p9 x9 = true := ite10.mp c22
      refine lv_iinc (v := nI (x9 + 1)) (lv' := [(5, .int (nI (x9 + 1))), (0, .ref (hs 0)), (1, .int (nI (p9 % 16))), (2, .int (nI (p9 / 16))), (3, .double (prL G p9 x9))]) hx hb dX2_prospectOf_89 hl (k := 4) rfl (nI_1 x9) (by decide) rfl (fun ls hl => ?_)
      refine lv_goto (tgt := 5) hx hb dX2_prospectOf_92 (by decide) ?_
      exact ih (x9 + 1) _ _ _ _ (by omega) ⟨hjl, hfr.tr ⟨_, rfl⟩⟩ hG (lv_sub hl [1, 2, 3, 4, 0] (by rw [pr_miss hv]; rfl))
    · have hv : visB G (G 2) p9 x9 = true := Classical.byContradiction (fun q => c22 (ite10.mpr q))
      refine lv_aload_n hx hb dX2_prospectOf_25 rfl (lv_at hl 0 rfl) ?_
      refine g_get hx hb hts hown hG inX2 0 rfl rfl 3 (by decide) q395 (v := .ref (hs 3)) rfl dX2_prospectOf_26 ?_
      refine lv_bipush (v := 16) hx hb dX2_prospectOf_29 (by decide) ?_
      refine lv_aload_n hx hb dX2_prospectOf_31 rfl (lv_at hl 0 rfl) ?_
      refine g_get hx hb hts hown hG inX2 0 rfl rfl 6 (by decide) q398 (v := .ref (hs 6)) rfl dX2_prospectOf_32 ?_
      refine lv_iload hx hb dX2_prospectOf_35 (lv_at hl 4 rfl) ?_
      refine g_aldN (f := S9 6) hx hb hG 4 rfl (by decide) (x9) (rfl) (by omega) dX2_prospectOf_37 ?_
      refine g_top (y := nI (G 3 x9 / 16)) ((he9.2.2.2.1 _ hjl).2.1) ?_
      refine lv_imul hx hb dX2_prospectOf_38 ?_
      refine lv_aload_n hx hb dX2_prospectOf_39 rfl (lv_at hl 0 rfl) ?_
      refine g_get hx hb hts hown hG inX2 0 rfl rfl 5 (by decide) q397 (v := .ref (hs 5)) rfl dX2_prospectOf_40 ?_
      refine lv_iload hx hb dX2_prospectOf_43 (lv_at hl 4 rfl) ?_
      refine g_aldN (f := S9 5) hx hb hG 3 rfl (by decide) (x9) (rfl) (by omega) dX2_prospectOf_45 ?_
      refine g_top (y := nI (G 3 x9 % 16)) ((he9.2.2.2.1 _ hjl).1) ?_
      refine lv_iadd hx hb dX2_prospectOf_46 ?_
      refine g_top (y := nI (G 3 x9)) (idx_c _) ?_
      refine g_aldN (f := S9 3) hx hb hG 2 rfl (by decide) (G 3 x9) (rfl) ((hw.f hjl).1) dX2_prospectOf_47 ?_
      refine g_top (y := nI (G 2 (G 3 x9))) (he9.2.2.1 _ (hw.f hjl).1) ?_
      refine lv_istore (lv' := [(6, .int (nI (G 2 (G 3 x9)))), (0, .ref (hs 0)), (1, .int (nI (p9 % 16))), (2, .int (nI (p9 / 16))), (3, .double (prL G p9 x9)), (5, .int (nI x9))]) hx hb dX2_prospectOf_48 hl (by decide) rfl (fun ls hl => ?_)
      refine lv_aload_n hx hb dX2_prospectOf_50 rfl (lv_at hl 1 rfl) ?_
      refine g_get hx hb hts hown hG inX2 0 rfl rfl 10 (by decide) q402 (v := .int ((lkG G p9 x9 v3 v4) 2)) rfl dX2_prospectOf_51 ?_
      refine g_top (y := zI (aXz p9 (G 3 x9))) (rfl) ?_
      refine lv_aload_n hx hb dX2_prospectOf_54 rfl (lv_at hl 1 rfl) ?_
      refine g_get hx hb hts hown hG inX2 0 rfl rfl 10 (by decide) q402 (v := .int ((lkG G p9 x9 v3 v4) 2)) rfl dX2_prospectOf_55 ?_
      refine g_top (y := zI (aXz p9 (G 3 x9))) (rfl) ?_
      refine lv_imul hx hb dX2_prospectOf_58 ?_
      refine lv_aload_n hx hb dX2_prospectOf_59 rfl (lv_at hl 1 rfl) ?_
      refine g_get hx hb hts hown hG inX2 0 rfl rfl 11 (by decide) q403 (v := .int ((lkG G p9 x9 v3 v4) 3)) rfl dX2_prospectOf_60 ?_
      refine g_top (y := zI (aYz p9 (G 3 x9))) (rfl) ?_
      refine lv_aload_n hx hb dX2_prospectOf_63 rfl (lv_at hl 1 rfl) ?_
      refine g_get hx hb hts hown hG inX2 0 rfl rfl 11 (by decide) q403 (v := .int ((lkG G p9 x9 v3 v4) 3)) rfl dX2_prospectOf_64 ?_
      refine g_top (y := zI (aYz p9 (G 3 x9))) (rfl) ?_
      refine lv_imul hx hb dX2_prospectOf_67 ?_
      refine lv_iadd hx hb dX2_prospectOf_68 ?_
      refine g_top (y := nI (farN p9 (G 3 x9))) (far_I _ _) ?_
      refine lv_istore (lv' := [(7, .int (nI (farN p9 (G 3 x9)))), (6, .int (nI (G 2 (G 3 x9)))), (0, .ref (hs 0)), (1, .int (nI (p9 % 16))), (2, .int (nI (p9 / 16))), (3, .double (prL G p9 x9)), (5, .int (nI x9))]) hx hb dX2_prospectOf_69 hl (by decide) rfl (fun ls hl => ?_)
      refine lv_dload_n hx hb dX2_prospectOf_71 rfl (lv_at hl 5 rfl) ?_
      refine lv_aload_n hx hb dX2_prospectOf_72 rfl (lv_at hl 2 rfl) ?_
      refine g_get hx hb hts hown hG inX2 0 rfl rfl 7 (by decide) q399 (v := .ref (hs 7)) rfl dX2_prospectOf_73 ?_
      refine lv_iload hx hb dX2_prospectOf_76 (lv_at hl 6 rfl) ?_
      refine g_aldN (f := S9 7) hx hb hG 5 rfl (by decide) (x9) (rfl) (by omega) dX2_prospectOf_78 ?_
      refine g_top (y := nI (G 4 x9)) ((he9.2.2.2.1 _ hjl).2.2) ?_
      refine lv_iload hx hb dX2_prospectOf_79 (lv_at hl 1 rfl) ?_
      refine lv_imul hx hb dX2_prospectOf_81 ?_
      refine g_top (y := nI (G 4 x9 * G 2 (G 3 x9))) (pk_mul _ _) ?_
      refine lv_i2d hx hb dX2_prospectOf_82 ?_
      refine lv_iload hx hb dX2_prospectOf_83 (lv_at hl 0 rfl) ?_
      refine lv_i2d hx hb dX2_prospectOf_85 ?_
      refine lv_ddiv hx hb dX2_prospectOf_86 (g64_n (prT_g hw hp hjl hpl)) ?_
      refine lv_dadd hx hb dX2_prospectOf_87 (g64_n (g64_add (prL_g hw hp hpl _ (by omega)) (prT_g hw hp hjl hpl))) ?_
      refine lv_dstore_n (lv' := [(3, .double (FP.dadd (prL G p9 x9) (FP.ddiv (FP.i2d (nI (G 4 x9 * G 2 (G 3 x9)))) (FP.i2d (nI (farN p9 (G 3 x9))))))), (7, .int (nI (farN p9 (G 3 x9)))), (6, .int (nI (G 2 (G 3 x9)))), (0, .ref (hs 0)), (1, .int (nI (p9 % 16))), (2, .int (nI (p9 / 16))), (5, .int (nI x9))]) hx hb dX2_prospectOf_88 rfl hl (by decide) rfl (fun ls hl => ?_)
      refine lv_iinc (v := nI (x9 + 1)) (lv' := [(5, .int (nI (x9 + 1))), (3, .double (FP.dadd (prL G p9 x9) (FP.ddiv (FP.i2d (nI (G 4 x9 * G 2 (G 3 x9)))) (FP.i2d (nI (farN p9 (G 3 x9))))))), (7, .int (nI (farN p9 (G 3 x9)))), (6, .int (nI (G 2 (G 3 x9)))), (0, .ref (hs 0)), (1, .int (nI (p9 % 16))), (2, .int (nI (p9 / 16)))]) hx hb dX2_prospectOf_89 hl (k := 6) rfl (nI_1 x9) (by decide) rfl (fun ls hl => ?_)
      refine lv_goto (tgt := 5) hx hb dX2_prospectOf_92 (by decide) ?_
      exact ih (x9 + 1) _ _ _ _ (by omega) ⟨hjl, hfr.tr ⟨_, rfl⟩⟩ hG (lv_sub hl [4, 5, 6, 1, 0] (by rw [pr_hit hv]; rfl))
set_option maxHeartbeats 4000000 in
set_option maxRecDepth 100000 in
theorem kX2_prospect {l : Launch} {D : va_G} {cy : ClassId} {hs : Nat → Nat} {X : va_W} (G : GN) (S : GS) (hw : wf G) (he : encM G S) (x y : Int32) : Ct l D cy (wM cy hs X) yX2_prospect cX2_prospect 3 (some .double) 7 164 (S) [.ref (hs 0), .int x, .int y] (QD D (wM cy hs X) (fun r S' => r = F_prospect G x y ∧ encM G S')) := by
  refine Ct.of wM_adr (plainFor_of_name (by decide)) (Nat.le_of_ble_eq_true rfl) ?_
  intro p e s m below meth c ls C hl hG
  obtain ⟨hx, hb, hml, hown, hts, hr, hlk⟩ := C
  have hl : lv_has ls 3 [(0, .ref (hs 0)), (1, .int x), (2, .int y)] := hl
  refine lv_aload_n hx hb dX2_prospect_0 rfl (lv_at hl 0 rfl) ?_
  refine lv_iload_n hx hb dX2_prospect_1 rfl (lv_at hl 1 rfl) ?_
  refine lv_iload_n hx hb dX2_prospect_2 rfl (lv_at hl 2 rfl) ?_
  refine g_calliE wM_adr hG (g_runV (As := [.int x, .int y]) (rest := []) ⟨hx, hb, hml, hown, hts⟩ wM_adr (kX2_noCell S x y) wyX2_noCell q485 hG 0 rfl rfl ⟨by decide, by decide⟩ rfl rfl hl.1 (Nat.le_of_ble_eq_true rfl) ⟨Nat.le_refl 0, Nat.le_refl 0⟩ dX2_prospect_3) (fun H locs hG => ?_)
  refine g_top (y := if hasB G x y then 0 else 1) (noC hw he x y) ?_
  refine lv_if_ne (tgt := 18) hx hb dX2_prospect_6 (by decide) (fun c6 => ?_) (fun c6 => ?_)
  · have h1 : ¬ hasB G x y = true := fun q => c6 (no01.mpr q)
    refine lv_ldc2d hx hb hown (hts _ q647) dX2_prospect_18 ?_
    exact g_dret hx hb hr hlk hG ⟨by unfold F_prospect pErr; rw [if_neg h1, if_neg (by decide)], he⟩ dX2_prospect_21
  · have h1 : hasB G x y = true := no01.mp c6
    have hc := has_c hw h1
    have exx : nI (cN x y % 16) = x := (xM hw h1).symm
    have eyy : nI (cN x y / 16) = y := (yM hw h1).symm
    have hl : lv_has ls 3 [(0, .ref (hs 0)), (1, .int (nI (cN x y % 16))), (2, .int (nI (cN x y / 16)))] := by rw [exx, eyy]; exact hl
    refine lv_aload_n hx hb dX2_prospect_9 rfl (lv_at hl 0 rfl) ?_
    refine lv_iload_n hx hb dX2_prospect_10 rfl (lv_at hl 1 rfl) ?_
    refine lv_iload_n hx hb dX2_prospect_11 rfl (lv_at hl 2 rfl) ?_
    refine g_calliE wM_adr hG (g_runV (As := [.int (nI (cN x y % 16)), .int (nI (cN x y / 16))]) (rest := []) ⟨hx, hb, hml, hown, hts⟩ wM_adr (kX2_isPlace S (nI (cN x y % 16)) (nI (cN x y / 16)) (vp_c hc)) wyX2_isPlace q529 hG 0 rfl rfl ⟨by decide, by decide⟩ rfl rfl hl.1 (Nat.le_of_ble_eq_true rfl) ⟨Nat.le_refl 0, Nat.le_refl 0⟩ dX2_prospect_12) (fun H locs hG => ?_)
    refine g_top (y := if plB G (cN x y) then 1 else 0) (placeM hw he hc (idx_c _)) ?_
    refine lv_if_ne (tgt := 22) hx hb dX2_prospect_15 (by decide) (fun c15 => ?_) (fun c15 => ?_)
    · have hpl : plB G (cN x y) = true := Classical.byContradiction (fun q => c15 (ite10.mpr q))
      refine lv_aload_n hx hb dX2_prospect_22 rfl (lv_at hl 0 rfl) ?_
      refine g_callv wM_adr hG (g_runV (As := []) (rest := []) ⟨hx, hb, hml, hown, hts⟩ wM_adr (kX2_takeHeights G S hw he) wyX2_takeHeights q533 hG 0 rfl rfl ⟨by decide, by decide⟩ rfl rfl hl.1 (Nat.le_of_ble_eq_true rfl) ⟨Nat.le_refl 0, Nat.le_refl 0⟩ dX2_prospect_23) (fun S1 H locs hp hG => ?_)
      obtain ⟨hLt, hft⟩ := hp
      have het := he.fb (Or.inl rfl) hft
      refine lv_aload_n hx hb dX2_prospect_26 rfl (lv_at hl 0 rfl) ?_
      refine lv_iload_n hx hb dX2_prospect_27 rfl (lv_at hl 1 rfl) ?_
      refine lv_iload_n hx hb dX2_prospect_28 rfl (lv_at hl 2 rfl) ?_
      refine g_calld wM_adr hG (g_runV (As := [.int (nI (cN x y % 16)), .int (nI (cN x y / 16))]) (rest := []) ⟨hx, hb, hml, hown, hts⟩ wM_adr (kX2_prospectOf G S1 hw het hLt (cN x y) hc hpl) wyX2_prospectOf q648 hG 0 rfl rfl ⟨by decide, by decide⟩ rfl rfl hl.1 (Nat.le_of_ble_eq_true rfl) ⟨Nat.le_refl 0, Nat.le_refl 0⟩ dX2_prospect_29) (fun r3 S2 H locs hp hG => ?_)
      obtain ⟨rfl, hfv⟩ := hp
      exact g_dret hx hb hr hlk hG ⟨by unfold F_prospect; rw [if_pos (pErr_1 h1 hpl)], het.fv hfv⟩ dX2_prospect_32
    · have hpl : ¬ plB G (cN x y) = true := ite10.mp c15
      refine lv_ldc2d hx hb hown (hts _ q647) dX2_prospect_18 ?_
      exact g_dret hx hb hr hlk hG ⟨by unfold F_prospect pErr; rw [if_pos h1, if_neg hpl, if_neg (by decide)], he⟩ dX2_prospect_21
set_option maxHeartbeats 4000000 in
set_option maxRecDepth 100000 in
theorem kX2_bestPlace {l : Launch} {D : va_G} {cy : ClassId} {hs : Nat → Nat} {X : va_W} (G : GN) (S : GS) (hw : wf G) (he : encM G S) (k9 : Int32) : Ct l D cy (wM cy hs X) yX2_bestPlace cX2_bestPlace 9 (some .int) 7 164 (S) [.ref (hs 0), .int k9] (QI D (wM cy hs X) (fun r S' => r = F_best G k9 ∧ encM G S')) := by
  refine Ct.of wM_adr (plainFor_of_name (by decide)) (Nat.le_of_ble_eq_true rfl) ?_
  intro p e s m below meth c ls C hl hG
  obtain ⟨hx, hb, hml, hown, hts, hr, hlk⟩ := C
  have hl : lv_has ls 9 [(0, .ref (hs 0)), (1, .int k9)] := hl
  refine lv_iload_n hx hb dX2_bestPlace_0 rfl (lv_at hl 1 rfl) ?_
  refine lv_if_eq (tgt := 17) hx hb dX2_bestPlace_1 (by decide) (fun k0 => ?_) (fun k0 => ?_)
  · have hk : pkB k9 = true := by unfold pkB; simp [k0]
    refine lv_aload_n hx hb dX2_bestPlace_17 rfl (lv_at hl 0 rfl) ?_
    refine g_callv wM_adr hG (g_runV (As := []) (rest := []) ⟨hx, hb, hml, hown, hts⟩ wM_adr (kX2_takeHeights G S hw he) wyX2_takeHeights q533 hG 0 rfl rfl ⟨by decide, by decide⟩ rfl rfl hl.1 (Nat.le_of_ble_eq_true rfl) ⟨Nat.le_refl 0, Nat.le_refl 0⟩ dX2_bestPlace_18) (fun S1 H locs hp hG => ?_)
    obtain ⟨hLt, hft⟩ := hp
    have het := he.fb (Or.inl rfl) hft
    refine lv_bipush (v := (-7)) hx hb dX2_bestPlace_21 (by decide) ?_
    refine lv_istore_n (lv' := [(2, .int (-7)), (0, .ref (hs 0)), (1, .int k9)]) hx hb dX2_bestPlace_23 rfl hl (by decide) rfl (fun ls hl => ?_)
    refine lv_ldc2d hx hb hown (hts _ q647) dX2_bestPlace_24 ?_
    refine lv_dstore_n (lv' := [(3, .double 13830554455654793216), (2, .int (-7)), (0, .ref (hs 0)), (1, .int k9)]) hx hb dX2_bestPlace_27 rfl hl (by decide) rfl (fun ls hl => ?_)
    refine lv_iconst (v := 0) hx hb dX2_bestPlace_28 (by decide) ?_
    refine lv_istore (lv' := [(5, .int 0), (3, .double 13830554455654793216), (2, .int (-7)), (0, .ref (hs 0)), (1, .int k9)]) hx hb dX2_bestPlace_29 hl (by decide) rfl (fun ls hl => ?_)
    have hke := (pkB_n hk).1
    have hk3 := (pkB_n hk).2
    have hw1 := hw.1
    refine g_rec (τ := Nat) (fun j S9 => j ≤ G 0 1 ∧ frV S1 S9) (fun j => 100 - j) (fun j => [(0, .ref (hs 0)), (1, .int k9), (2, .int (bpL G (nN k9) (16 * j)).1), (3, .double (bpL G (nN k9) (16 * j)).2), (5, .int (nI j))]) 31 9 ?_ 0 _ _ _ _ (⟨Nat.zero_le _, frV.rf⟩) hG (lv_sub hl [3, 4, 2, 1, 0] (rfl))
    intro x9 S9 H locs ls hI hG hl ih
    obtain ⟨hj, hfr⟩ := hI
    have he9 := het.fv hfr
    have hL9 := hLt.fv hfr
    refine lv_iload hx hb dX2_bestPlace_31 (lv_at hl 4 rfl) ?_
    refine lv_aload_n hx hb dX2_bestPlace_33 rfl (lv_at hl 0 rfl) ?_
    refine g_get hx hb hts hown hG inX2 0 rfl rfl 1 (by decide) q393 (v := .int (S9 0 1)) rfl dX2_bestPlace_34 ?_
    refine g_top (y := nI (G 0 1)) (he9.1.2.1) ?_
    refine lv_icmp_ge (tgt := 125) hx hb dX2_bestPlace_37 (by decide) (fun c37 => ?_) (fun c37 => ?_)
    · have hjl : G 0 1 ≤ x9 := (nI_leI (by omega) (by omega)).mp c37
      refine lv_iload_n hx hb dX2_bestPlace_125 rfl (lv_at hl 2 rfl) ?_
      exact g_iret hx hb hr hlk hG ⟨by unfold F_best; rw [if_pos hk, show x9 = G 0 1 by omega, bp_all hw], he9⟩ dX2_bestPlace_126
    · have hjl : x9 < G 0 1 := Nat.lt_of_not_le (fun q => c37 (nI_le q (by omega)))
      refine lv_iconst (v := 0) hx hb dX2_bestPlace_40 (by decide) ?_
      refine lv_istore (lv' := [(6, .int 0), (0, .ref (hs 0)), (1, .int k9), (2, .int ((bpL G (nN k9) (16 * x9)).1)), (3, .double ((bpL G (nN k9) (16 * x9)).2)), (5, .int (nI x9))]) hx hb dX2_bestPlace_41 hl (by decide) rfl (fun ls hl => ?_)
      refine g_rec (τ := Nat) (fun j S8 => j ≤ G 0 0 ∧ frV S9 S8) (fun j => 100 - j) (fun j => [(0, .ref (hs 0)), (1, .int k9), (2, .int (bpL G (nN k9) (16 * x9 + j)).1), (3, .double (bpL G (nN k9) (16 * x9 + j)).2), (5, .int (nI x9)), (6, .int (nI j))]) 43 9 ?_ 0 _ _ _ _ (⟨Nat.zero_le _, frV.rf⟩) hG (lv_sub hl [1, 2, 3, 4, 5, 0] (rfl))
      intro i9 S8 H locs ls hI hG hl ih1
      obtain ⟨hi, hfr8⟩ := hI
      have he8 := he9.fv hfr8
      have hL8 := hL9.fv hfr8
      refine lv_iload hx hb dX2_bestPlace_43 (lv_at hl 5 rfl) ?_
      refine lv_aload_n hx hb dX2_bestPlace_45 rfl (lv_at hl 0 rfl) ?_
      refine g_get hx hb hts hown hG inX2 0 rfl rfl 0 (by decide) q392 (v := .int (S8 0 0)) rfl dX2_bestPlace_46 ?_
      refine g_top (y := nI (G 0 0)) (he8.1.1) ?_
      refine lv_icmp_ge (tgt := 119) hx hb dX2_bestPlace_49 (by decide) (fun c49 => ?_) (fun c49 => ?_)
      · have hil : G 0 0 ≤ i9 := (nI_leI (by omega) (by omega)).mp c49
        refine lv_iinc (v := nI (x9 + 1)) (lv' := [(5, .int (nI (x9 + 1))), (0, .ref (hs 0)), (1, .int k9), (2, .int ((bpL G (nN k9) (16 * x9 + i9)).1)), (3, .double ((bpL G (nN k9) (16 * x9 + i9)).2)), (6, .int (nI i9))]) hx hb dX2_bestPlace_119 hl (k := 4) rfl (nI_1 x9) (by decide) rfl (fun ls hl => ?_)
        refine lv_goto (tgt := 31) hx hb dX2_bestPlace_122 (by decide) ?_
        exact ih (x9 + 1) _ _ _ _ (by omega) ⟨hjl, hfr.tr hfr8⟩ hG (lv_sub hl [1, 2, 3, 4, 0] (by rw [← bp_row hw, show G 0 0 = i9 by omega]; rfl))
      · have hil : i9 < G 0 0 := Nat.lt_of_not_le (fun q => c49 (nI_le q (by omega)))
        refine lv_aload_n hx hb dX2_bestPlace_52 rfl (lv_at hl 0 rfl) ?_
        refine g_get hx hb hts hown hG inX2 0 rfl rfl 2 (by decide) q394 (v := .ref (hs 2)) rfl dX2_bestPlace_53 ?_
        refine lv_bipush (v := 16) hx hb dX2_bestPlace_56 (by decide) ?_
        refine lv_iload hx hb dX2_bestPlace_58 (lv_at hl 4 rfl) ?_
        refine lv_imul hx hb dX2_bestPlace_60 ?_
        refine lv_iload hx hb dX2_bestPlace_61 (lv_at hl 5 rfl) ?_
        refine lv_iadd hx hb dX2_bestPlace_63 ?_
        refine g_aldN (f := S8 2) hx hb hG 1 rfl (by decide) ((16 * x9 + i9)) (idx_nI i9 x9) (by omega) dX2_bestPlace_64 ?_
        refine g_top (y := nI (G 1 (16 * x9 + i9))) (he8.2.1 _ (by omega)) ?_
        refine lv_iload_n hx hb dX2_bestPlace_65 rfl (lv_at hl 1 rfl) ?_
        refine lv_icmp_ne (tgt := 113) hx hb dX2_bestPlace_66 (by decide) (fun c66 => ?_) (fun c66 => ?_)
        · have hbi : ¬ bpI G (nN k9) (16 * x9 + i9) = true := fun q => c66 (by unfold bpI at q; simp only [Bool.and_eq_true, decide_eq_true_eq] at q; rw [hke, q.1.1])
          refine lv_iinc (v := nI (i9 + 1)) (lv' := [(6, .int (nI (i9 + 1))), (0, .ref (hs 0)), (1, .int k9), (2, .int ((bpL G (nN k9) (16 * x9 + i9)).1)), (3, .double ((bpL G (nN k9) (16 * x9 + i9)).2)), (5, .int (nI x9))]) hx hb dX2_bestPlace_113 hl (k := 5) rfl (nI_1 i9) (by decide) rfl (fun ls hl => ?_)
          refine lv_goto (tgt := 43) hx hb dX2_bestPlace_116 (by decide) ?_
          exact ih1 (i9 + 1) _ _ _ _ (by omega) ⟨hil, hfr8⟩ hG (lv_sub hl [1, 2, 3, 4, 5, 0] (by rw [show 16 * x9 + (i9 + 1) = 16 * x9 + i9 + 1 by omega, bp_no hbi]; rfl))
        · have hc9 : 16 * x9 + i9 < 192 := by omega
          have hkd : G 1 (16 * x9 + i9) = nN k9 := (nI_eq (by have := (hw.c hc9).1; omega) (by omega)).mp (c66.trans hke)
          have hbi : bpI G (nN k9) (16 * x9 + i9) = true := by unfold bpI; rw [decide_eq_true hkd, decide_eq_true (show (16 * x9 + i9) % 16 < G 0 0 by omega), decide_eq_true (show (16 * x9 + i9) / 16 < G 0 1 by omega)]; rfl
          refine lv_aload_n hx hb dX2_bestPlace_69 rfl (lv_at hl 0 rfl) ?_
          refine lv_iload hx hb dX2_bestPlace_70 (lv_at hl 5 rfl) ?_
          refine g_top (y := nI ((16 * x9 + i9) % 16)) (congrArg nI (by omega)) ?_
          refine lv_iload hx hb dX2_bestPlace_72 (lv_at hl 4 rfl) ?_
          refine g_top (y := nI ((16 * x9 + i9) / 16)) (congrArg nI (by omega)) ?_
          refine g_calld wM_adr hG (g_runV (As := [.int (nI ((16 * x9 + i9) % 16)), .int (nI ((16 * x9 + i9) / 16))]) (rest := []) ⟨hx, hb, hml, hown, hts⟩ wM_adr (kX2_prospectOf G S8 hw he8 hL8 (16 * x9 + i9) hc9 (pk_pl hk hkd)) wyX2_prospectOf q648 hG 0 rfl rfl ⟨by decide, by decide⟩ rfl rfl hl.1 (Nat.le_of_ble_eq_true rfl) ⟨Nat.le_refl 0, Nat.le_refl 0⟩ dX2_bestPlace_74) (fun r3 S2 H locs hp hG => ?_)
          obtain ⟨rfl, hfv⟩ := hp
          refine lv_dstore (lv' := [(7, .double (prN G (16 * x9 + i9))), (0, .ref (hs 0)), (1, .int k9), (2, .int ((bpL G (nN k9) (16 * x9 + i9)).1)), (3, .double ((bpL G (nN k9) (16 * x9 + i9)).2)), (5, .int (nI x9)), (6, .int (nI i9))]) hx hb dX2_bestPlace_77 hl (by decide) rfl (fun ls hl => ?_)
          refine lv_dload hx hb dX2_bestPlace_79 (lv_at hl 0 rfl) ?_
          refine lv_dload_n hx hb dX2_bestPlace_81 rfl (lv_at hl 4 rfl) ?_
          refine lv_dcmp hx hb dX2_bestPlace_82 ?_
          refine g_dia (P := Op.cmpValue (FP.dcmp (prN G (16 * x9 + i9)) ((bpL G (nN k9) (16 * x9 + i9)).2)) CmpOp.l ≤ 0) (J := 98) (A9 := (bpL G (nN k9) (16 * x9 + i9)).1) (B9 := (16 * (nI x9)) + (nI i9)) (ls9 := ls) (rest9 := []) (fun ka5 kb6 => ?_) ?_
          · refine lv_if_le (tgt := 97) hx hb dX2_bestPlace_83 (by decide) (fun c4 => ?_) (fun c4 => ?_)
            · refine lv_iload_n hx hb dX2_bestPlace_97 rfl (lv_at hl 3 rfl) ?_
              exact ka5 c4
            · refine lv_bipush (v := 16) hx hb dX2_bestPlace_86 (by decide) ?_
              refine lv_iload hx hb dX2_bestPlace_88 (lv_at hl 5 rfl) ?_
              refine lv_imul hx hb dX2_bestPlace_90 ?_
              refine lv_iload hx hb dX2_bestPlace_91 (lv_at hl 6 rfl) ?_
              refine lv_iadd hx hb dX2_bestPlace_93 ?_
              refine lv_goto (tgt := 98) hx hb dX2_bestPlace_94 (by decide) ?_
              exact kb6 c4
          refine g_top (y := if Op.cmpValue (FP.dcmp (prN G (16 * x9 + i9)) (bpL G (nN k9) (16 * x9 + i9)).2) CmpOp.l ≤ 0 then (bpL G (nN k9) (16 * x9 + i9)).1 else nI (16 * x9 + i9)) (by rw [idx_nI]) ?_
          refine lv_istore_n (lv' := [(2, .int (if Op.cmpValue (FP.dcmp (prN G (16 * x9 + i9)) (bpL G (nN k9) (16 * x9 + i9)).2) CmpOp.l ≤ 0 then (bpL G (nN k9) (16 * x9 + i9)).1 else nI (16 * x9 + i9))), (7, .double (prN G (16 * x9 + i9))), (0, .ref (hs 0)), (1, .int k9), (3, .double ((bpL G (nN k9) (16 * x9 + i9)).2)), (5, .int (nI x9)), (6, .int (nI i9))]) hx hb dX2_bestPlace_98 rfl hl (by decide) rfl (fun ls hl => ?_)
          refine lv_dload hx hb dX2_bestPlace_99 (lv_at hl 1 rfl) ?_
          refine lv_dload_n hx hb dX2_bestPlace_101 rfl (lv_at hl 4 rfl) ?_
          refine lv_dcmp hx hb dX2_bestPlace_102 ?_
          refine lv_if_le (tgt := 111) hx hb dX2_bestPlace_103 (by decide) (fun c103 => ?_) (fun c103 => ?_)
          · have hl : lv_has ls 9 [(2, .int ((bpL G (nN k9) (16 * x9 + i9)).1)), (7, .double (prN G (16 * x9 + i9))), (0, .ref (hs 0)), (1, .int k9), (3, .double ((bpL G (nN k9) (16 * x9 + i9)).2)), (5, .int (nI x9)), (6, .int (nI i9))] := by have hl9 := hl; simp only [if_pos c103] at hl9; exact hl9
            have hgt : ¬ gtB (prN G (16 * x9 + i9)) (bpL G (nN k9) (16 * x9 + i9)).2 = true := fun q => absurd (of_decide_eq_true q) (by rw [Int32.le_iff_toInt_le] at c103; rw [Int32.lt_iff_toInt_lt]; omega)
            refine lv_dload_n hx hb dX2_bestPlace_111 rfl (lv_at hl 4 rfl) ?_
            refine lv_dstore_n (lv' := [(3, .double ((bpL G (nN k9) (16 * x9 + i9)).2)), (2, .int ((bpL G (nN k9) (16 * x9 + i9)).1)), (7, .double (prN G (16 * x9 + i9))), (0, .ref (hs 0)), (1, .int k9), (5, .int (nI x9)), (6, .int (nI i9))]) hx hb dX2_bestPlace_112 rfl hl (by decide) rfl (fun ls hl => ?_)
            refine lv_iinc (v := nI (i9 + 1)) (lv' := [(6, .int (nI (i9 + 1))), (3, .double ((bpL G (nN k9) (16 * x9 + i9)).2)), (2, .int ((bpL G (nN k9) (16 * x9 + i9)).1)), (7, .double (prN G (16 * x9 + i9))), (0, .ref (hs 0)), (1, .int k9), (5, .int (nI x9))]) hx hb dX2_bestPlace_113 hl (k := 6) rfl (nI_1 i9) (by decide) rfl (fun ls hl => ?_)
            refine lv_goto (tgt := 43) hx hb dX2_bestPlace_116 (by decide) ?_
            exact ih1 (i9 + 1) _ _ _ _ (by omega) ⟨hil, hfr8.tr hfv⟩ hG (lv_sub hl [4, 5, 2, 1, 6, 0] (by rw [show 16 * x9 + (i9 + 1) = 16 * x9 + i9 + 1 by omega, bp_less hgt]; rfl))
          · have hl : lv_has ls 9 [(2, .int (nI (16 * x9 + i9))), (7, .double (prN G (16 * x9 + i9))), (0, .ref (hs 0)), (1, .int k9), (3, .double ((bpL G (nN k9) (16 * x9 + i9)).2)), (5, .int (nI x9)), (6, .int (nI i9))] := by have hl9 := hl; simp only [if_neg c103] at hl9; exact hl9
            have hgt : gtB (prN G (16 * x9 + i9)) (bpL G (nN k9) (16 * x9 + i9)).2 = true := decide_eq_true (by rw [Int32.le_iff_toInt_le] at c103; rw [Int32.lt_iff_toInt_lt]; omega)
            refine lv_dload hx hb dX2_bestPlace_106 (lv_at hl 1 rfl) ?_
            refine lv_goto (tgt := 112) hx hb dX2_bestPlace_108 (by decide) ?_
            refine lv_dstore_n (lv' := [(3, .double (prN G (16 * x9 + i9))), (2, .int (nI (16 * x9 + i9))), (7, .double (prN G (16 * x9 + i9))), (0, .ref (hs 0)), (1, .int k9), (5, .int (nI x9)), (6, .int (nI i9))]) hx hb dX2_bestPlace_112 rfl hl (by decide) rfl (fun ls hl => ?_)
            refine lv_iinc (v := nI (i9 + 1)) (lv' := [(6, .int (nI (i9 + 1))), (3, .double (prN G (16 * x9 + i9))), (2, .int (nI (16 * x9 + i9))), (7, .double (prN G (16 * x9 + i9))), (0, .ref (hs 0)), (1, .int k9), (5, .int (nI x9))]) hx hb dX2_bestPlace_113 hl (k := 6) rfl (nI_1 i9) (by decide) rfl (fun ls hl => ?_)
            refine lv_goto (tgt := 43) hx hb dX2_bestPlace_116 (by decide) ?_
            exact ih1 (i9 + 1) _ _ _ _ (by omega) ⟨hil, hfr8.tr hfv⟩ hG (lv_sub hl [4, 5, 2, 1, 6, 0] (by rw [show 16 * x9 + (i9 + 1) = 16 * x9 + i9 + 1 by omega, bp_hit hbi hgt]; rfl))
  · refine lv_iload_n hx hb dX2_bestPlace_4 rfl (lv_at hl 1 rfl) ?_
    refine lv_iconst (v := 1) hx hb dX2_bestPlace_5 (by decide) ?_
    refine lv_icmp_eq (tgt := 17) hx hb dX2_bestPlace_6 (by decide) (fun k1 => ?_) (fun k1 => ?_)
    · have hk : pkB k9 = true := by unfold pkB; simp [k1]
      refine lv_aload_n hx hb dX2_bestPlace_17 rfl (lv_at hl 0 rfl) ?_
      refine g_callv wM_adr hG (g_runV (As := []) (rest := []) ⟨hx, hb, hml, hown, hts⟩ wM_adr (kX2_takeHeights G S hw he) wyX2_takeHeights q533 hG 0 rfl rfl ⟨by decide, by decide⟩ rfl rfl hl.1 (Nat.le_of_ble_eq_true rfl) ⟨Nat.le_refl 0, Nat.le_refl 0⟩ dX2_bestPlace_18) (fun S7 H locs hp hG => ?_)
      obtain ⟨hLt, hft⟩ := hp
      have het := he.fb (Or.inl rfl) hft
      refine lv_bipush (v := (-7)) hx hb dX2_bestPlace_21 (by decide) ?_
      refine lv_istore_n (lv' := [(2, .int (-7)), (0, .ref (hs 0)), (1, .int k9)]) hx hb dX2_bestPlace_23 rfl hl (by decide) rfl (fun ls hl => ?_)
      refine lv_ldc2d hx hb hown (hts _ q647) dX2_bestPlace_24 ?_
      refine lv_dstore_n (lv' := [(3, .double 13830554455654793216), (2, .int (-7)), (0, .ref (hs 0)), (1, .int k9)]) hx hb dX2_bestPlace_27 rfl hl (by decide) rfl (fun ls hl => ?_)
      refine lv_iconst (v := 0) hx hb dX2_bestPlace_28 (by decide) ?_
      refine lv_istore (lv' := [(5, .int 0), (3, .double 13830554455654793216), (2, .int (-7)), (0, .ref (hs 0)), (1, .int k9)]) hx hb dX2_bestPlace_29 hl (by decide) rfl (fun ls hl => ?_)
      have hke := (pkB_n hk).1
      have hk3 := (pkB_n hk).2
      have hw1 := hw.1
      refine g_rec (τ := Nat) (fun j S9 => j ≤ G 0 1 ∧ frV S7 S9) (fun j => 100 - j) (fun j => [(0, .ref (hs 0)), (1, .int k9), (2, .int (bpL G (nN k9) (16 * j)).1), (3, .double (bpL G (nN k9) (16 * j)).2), (5, .int (nI j))]) 31 9 ?_ 0 _ _ _ _ (⟨Nat.zero_le _, frV.rf⟩) hG (lv_sub hl [3, 4, 2, 1, 0] (rfl))
      intro x9 S9 H locs ls hI hG hl ih
      obtain ⟨hj, hfr⟩ := hI
      have he9 := het.fv hfr
      have hL9 := hLt.fv hfr
      refine lv_iload hx hb dX2_bestPlace_31 (lv_at hl 4 rfl) ?_
      refine lv_aload_n hx hb dX2_bestPlace_33 rfl (lv_at hl 0 rfl) ?_
      refine g_get hx hb hts hown hG inX2 0 rfl rfl 1 (by decide) q393 (v := .int (S9 0 1)) rfl dX2_bestPlace_34 ?_
      refine g_top (y := nI (G 0 1)) (he9.1.2.1) ?_
      refine lv_icmp_ge (tgt := 125) hx hb dX2_bestPlace_37 (by decide) (fun c37 => ?_) (fun c37 => ?_)
      · have hjl : G 0 1 ≤ x9 := (nI_leI (by omega) (by omega)).mp c37
        refine lv_iload_n hx hb dX2_bestPlace_125 rfl (lv_at hl 2 rfl) ?_
        exact g_iret hx hb hr hlk hG ⟨by unfold F_best; rw [if_pos hk, show x9 = G 0 1 by omega, bp_all hw], he9⟩ dX2_bestPlace_126
      · have hjl : x9 < G 0 1 := Nat.lt_of_not_le (fun q => c37 (nI_le q (by omega)))
        refine lv_iconst (v := 0) hx hb dX2_bestPlace_40 (by decide) ?_
        refine lv_istore (lv' := [(6, .int 0), (0, .ref (hs 0)), (1, .int k9), (2, .int ((bpL G (nN k9) (16 * x9)).1)), (3, .double ((bpL G (nN k9) (16 * x9)).2)), (5, .int (nI x9))]) hx hb dX2_bestPlace_41 hl (by decide) rfl (fun ls hl => ?_)
        refine g_rec (τ := Nat) (fun j S8 => j ≤ G 0 0 ∧ frV S9 S8) (fun j => 100 - j) (fun j => [(0, .ref (hs 0)), (1, .int k9), (2, .int (bpL G (nN k9) (16 * x9 + j)).1), (3, .double (bpL G (nN k9) (16 * x9 + j)).2), (5, .int (nI x9)), (6, .int (nI j))]) 43 9 ?_ 0 _ _ _ _ (⟨Nat.zero_le _, frV.rf⟩) hG (lv_sub hl [1, 2, 3, 4, 5, 0] (rfl))
        intro i9 S8 H locs ls hI hG hl ih1
        obtain ⟨hi, hfr8⟩ := hI
        have he8 := he9.fv hfr8
        have hL8 := hL9.fv hfr8
        refine lv_iload hx hb dX2_bestPlace_43 (lv_at hl 5 rfl) ?_
        refine lv_aload_n hx hb dX2_bestPlace_45 rfl (lv_at hl 0 rfl) ?_
        refine g_get hx hb hts hown hG inX2 0 rfl rfl 0 (by decide) q392 (v := .int (S8 0 0)) rfl dX2_bestPlace_46 ?_
        refine g_top (y := nI (G 0 0)) (he8.1.1) ?_
        refine lv_icmp_ge (tgt := 119) hx hb dX2_bestPlace_49 (by decide) (fun c49 => ?_) (fun c49 => ?_)
        · have hil : G 0 0 ≤ i9 := (nI_leI (by omega) (by omega)).mp c49
          refine lv_iinc (v := nI (x9 + 1)) (lv' := [(5, .int (nI (x9 + 1))), (0, .ref (hs 0)), (1, .int k9), (2, .int ((bpL G (nN k9) (16 * x9 + i9)).1)), (3, .double ((bpL G (nN k9) (16 * x9 + i9)).2)), (6, .int (nI i9))]) hx hb dX2_bestPlace_119 hl (k := 4) rfl (nI_1 x9) (by decide) rfl (fun ls hl => ?_)
          refine lv_goto (tgt := 31) hx hb dX2_bestPlace_122 (by decide) ?_
          exact ih (x9 + 1) _ _ _ _ (by omega) ⟨hjl, hfr.tr hfr8⟩ hG (lv_sub hl [1, 2, 3, 4, 0] (by rw [← bp_row hw, show G 0 0 = i9 by omega]; rfl))
        · have hil : i9 < G 0 0 := Nat.lt_of_not_le (fun q => c49 (nI_le q (by omega)))
          refine lv_aload_n hx hb dX2_bestPlace_52 rfl (lv_at hl 0 rfl) ?_
          refine g_get hx hb hts hown hG inX2 0 rfl rfl 2 (by decide) q394 (v := .ref (hs 2)) rfl dX2_bestPlace_53 ?_
          refine lv_bipush (v := 16) hx hb dX2_bestPlace_56 (by decide) ?_
          refine lv_iload hx hb dX2_bestPlace_58 (lv_at hl 4 rfl) ?_
          refine lv_imul hx hb dX2_bestPlace_60 ?_
          refine lv_iload hx hb dX2_bestPlace_61 (lv_at hl 5 rfl) ?_
          refine lv_iadd hx hb dX2_bestPlace_63 ?_
          refine g_aldN (f := S8 2) hx hb hG 1 rfl (by decide) ((16 * x9 + i9)) (idx_nI i9 x9) (by omega) dX2_bestPlace_64 ?_
          refine g_top (y := nI (G 1 (16 * x9 + i9))) (he8.2.1 _ (by omega)) ?_
          refine lv_iload_n hx hb dX2_bestPlace_65 rfl (lv_at hl 1 rfl) ?_
          refine lv_icmp_ne (tgt := 113) hx hb dX2_bestPlace_66 (by decide) (fun c66 => ?_) (fun c66 => ?_)
          · have hbi : ¬ bpI G (nN k9) (16 * x9 + i9) = true := fun q => c66 (by unfold bpI at q; simp only [Bool.and_eq_true, decide_eq_true_eq] at q; rw [hke, q.1.1])
            refine lv_iinc (v := nI (i9 + 1)) (lv' := [(6, .int (nI (i9 + 1))), (0, .ref (hs 0)), (1, .int k9), (2, .int ((bpL G (nN k9) (16 * x9 + i9)).1)), (3, .double ((bpL G (nN k9) (16 * x9 + i9)).2)), (5, .int (nI x9))]) hx hb dX2_bestPlace_113 hl (k := 5) rfl (nI_1 i9) (by decide) rfl (fun ls hl => ?_)
            refine lv_goto (tgt := 43) hx hb dX2_bestPlace_116 (by decide) ?_
            exact ih1 (i9 + 1) _ _ _ _ (by omega) ⟨hil, hfr8⟩ hG (lv_sub hl [1, 2, 3, 4, 5, 0] (by rw [show 16 * x9 + (i9 + 1) = 16 * x9 + i9 + 1 by omega, bp_no hbi]; rfl))
          · have hc9 : 16 * x9 + i9 < 192 := by omega
            have hkd : G 1 (16 * x9 + i9) = nN k9 := (nI_eq (by have := (hw.c hc9).1; omega) (by omega)).mp (c66.trans hke)
            have hbi : bpI G (nN k9) (16 * x9 + i9) = true := by unfold bpI; rw [decide_eq_true hkd, decide_eq_true (show (16 * x9 + i9) % 16 < G 0 0 by omega), decide_eq_true (show (16 * x9 + i9) / 16 < G 0 1 by omega)]; rfl
            refine lv_aload_n hx hb dX2_bestPlace_69 rfl (lv_at hl 0 rfl) ?_
            refine lv_iload hx hb dX2_bestPlace_70 (lv_at hl 5 rfl) ?_
            refine g_top (y := nI ((16 * x9 + i9) % 16)) (congrArg nI (by omega)) ?_
            refine lv_iload hx hb dX2_bestPlace_72 (lv_at hl 4 rfl) ?_
            refine g_top (y := nI ((16 * x9 + i9) / 16)) (congrArg nI (by omega)) ?_
            refine g_calld wM_adr hG (g_runV (As := [.int (nI ((16 * x9 + i9) % 16)), .int (nI ((16 * x9 + i9) / 16))]) (rest := []) ⟨hx, hb, hml, hown, hts⟩ wM_adr (kX2_prospectOf G S8 hw he8 hL8 (16 * x9 + i9) hc9 (pk_pl hk hkd)) wyX2_prospectOf q648 hG 0 rfl rfl ⟨by decide, by decide⟩ rfl rfl hl.1 (Nat.le_of_ble_eq_true rfl) ⟨Nat.le_refl 0, Nat.le_refl 0⟩ dX2_bestPlace_74) (fun r9 S8 H locs hp hG => ?_)
            obtain ⟨rfl, hfv⟩ := hp
            refine lv_dstore (lv' := [(7, .double (prN G (16 * x9 + i9))), (0, .ref (hs 0)), (1, .int k9), (2, .int ((bpL G (nN k9) (16 * x9 + i9)).1)), (3, .double ((bpL G (nN k9) (16 * x9 + i9)).2)), (5, .int (nI x9)), (6, .int (nI i9))]) hx hb dX2_bestPlace_77 hl (by decide) rfl (fun ls hl => ?_)
            refine lv_dload hx hb dX2_bestPlace_79 (lv_at hl 0 rfl) ?_
            refine lv_dload_n hx hb dX2_bestPlace_81 rfl (lv_at hl 4 rfl) ?_
            refine lv_dcmp hx hb dX2_bestPlace_82 ?_
            refine g_dia (P := Op.cmpValue (FP.dcmp (prN G (16 * x9 + i9)) ((bpL G (nN k9) (16 * x9 + i9)).2)) CmpOp.l ≤ 0) (J := 98) (A9 := (bpL G (nN k9) (16 * x9 + i9)).1) (B9 := (16 * (nI x9)) + (nI i9)) (ls9 := ls) (rest9 := []) (fun ka11 kb12 => ?_) ?_
            · refine lv_if_le (tgt := 97) hx hb dX2_bestPlace_83 (by decide) (fun c10 => ?_) (fun c10 => ?_)
              · refine lv_iload_n hx hb dX2_bestPlace_97 rfl (lv_at hl 3 rfl) ?_
                exact ka11 c10
              · refine lv_bipush (v := 16) hx hb dX2_bestPlace_86 (by decide) ?_
                refine lv_iload hx hb dX2_bestPlace_88 (lv_at hl 5 rfl) ?_
                refine lv_imul hx hb dX2_bestPlace_90 ?_
                refine lv_iload hx hb dX2_bestPlace_91 (lv_at hl 6 rfl) ?_
                refine lv_iadd hx hb dX2_bestPlace_93 ?_
                refine lv_goto (tgt := 98) hx hb dX2_bestPlace_94 (by decide) ?_
                exact kb12 c10
            refine g_top (y := if Op.cmpValue (FP.dcmp (prN G (16 * x9 + i9)) (bpL G (nN k9) (16 * x9 + i9)).2) CmpOp.l ≤ 0 then (bpL G (nN k9) (16 * x9 + i9)).1 else nI (16 * x9 + i9)) (by rw [idx_nI]) ?_
            refine lv_istore_n (lv' := [(2, .int (if Op.cmpValue (FP.dcmp (prN G (16 * x9 + i9)) (bpL G (nN k9) (16 * x9 + i9)).2) CmpOp.l ≤ 0 then (bpL G (nN k9) (16 * x9 + i9)).1 else nI (16 * x9 + i9))), (7, .double (prN G (16 * x9 + i9))), (0, .ref (hs 0)), (1, .int k9), (3, .double ((bpL G (nN k9) (16 * x9 + i9)).2)), (5, .int (nI x9)), (6, .int (nI i9))]) hx hb dX2_bestPlace_98 rfl hl (by decide) rfl (fun ls hl => ?_)
            refine lv_dload hx hb dX2_bestPlace_99 (lv_at hl 1 rfl) ?_
            refine lv_dload_n hx hb dX2_bestPlace_101 rfl (lv_at hl 4 rfl) ?_
            refine lv_dcmp hx hb dX2_bestPlace_102 ?_
            refine lv_if_le (tgt := 111) hx hb dX2_bestPlace_103 (by decide) (fun c103 => ?_) (fun c103 => ?_)
            · have hl : lv_has ls 9 [(2, .int ((bpL G (nN k9) (16 * x9 + i9)).1)), (7, .double (prN G (16 * x9 + i9))), (0, .ref (hs 0)), (1, .int k9), (3, .double ((bpL G (nN k9) (16 * x9 + i9)).2)), (5, .int (nI x9)), (6, .int (nI i9))] := by have hl9 := hl; simp only [if_pos c103] at hl9; exact hl9
              have hgt : ¬ gtB (prN G (16 * x9 + i9)) (bpL G (nN k9) (16 * x9 + i9)).2 = true := fun q => absurd (of_decide_eq_true q) (by rw [Int32.le_iff_toInt_le] at c103; rw [Int32.lt_iff_toInt_lt]; omega)
              refine lv_dload_n hx hb dX2_bestPlace_111 rfl (lv_at hl 4 rfl) ?_
              refine lv_dstore_n (lv' := [(3, .double ((bpL G (nN k9) (16 * x9 + i9)).2)), (2, .int ((bpL G (nN k9) (16 * x9 + i9)).1)), (7, .double (prN G (16 * x9 + i9))), (0, .ref (hs 0)), (1, .int k9), (5, .int (nI x9)), (6, .int (nI i9))]) hx hb dX2_bestPlace_112 rfl hl (by decide) rfl (fun ls hl => ?_)
              refine lv_iinc (v := nI (i9 + 1)) (lv' := [(6, .int (nI (i9 + 1))), (3, .double ((bpL G (nN k9) (16 * x9 + i9)).2)), (2, .int ((bpL G (nN k9) (16 * x9 + i9)).1)), (7, .double (prN G (16 * x9 + i9))), (0, .ref (hs 0)), (1, .int k9), (5, .int (nI x9))]) hx hb dX2_bestPlace_113 hl (k := 6) rfl (nI_1 i9) (by decide) rfl (fun ls hl => ?_)
              refine lv_goto (tgt := 43) hx hb dX2_bestPlace_116 (by decide) ?_
              exact ih1 (i9 + 1) _ _ _ _ (by omega) ⟨hil, hfr8.tr hfv⟩ hG (lv_sub hl [4, 5, 2, 1, 6, 0] (by rw [show 16 * x9 + (i9 + 1) = 16 * x9 + i9 + 1 by omega, bp_less hgt]; rfl))
            · have hl : lv_has ls 9 [(2, .int (nI (16 * x9 + i9))), (7, .double (prN G (16 * x9 + i9))), (0, .ref (hs 0)), (1, .int k9), (3, .double ((bpL G (nN k9) (16 * x9 + i9)).2)), (5, .int (nI x9)), (6, .int (nI i9))] := by have hl9 := hl; simp only [if_neg c103] at hl9; exact hl9
              have hgt : gtB (prN G (16 * x9 + i9)) (bpL G (nN k9) (16 * x9 + i9)).2 = true := decide_eq_true (by rw [Int32.le_iff_toInt_le] at c103; rw [Int32.lt_iff_toInt_lt]; omega)
              refine lv_dload hx hb dX2_bestPlace_106 (lv_at hl 1 rfl) ?_
              refine lv_goto (tgt := 112) hx hb dX2_bestPlace_108 (by decide) ?_
              refine lv_dstore_n (lv' := [(3, .double (prN G (16 * x9 + i9))), (2, .int (nI (16 * x9 + i9))), (7, .double (prN G (16 * x9 + i9))), (0, .ref (hs 0)), (1, .int k9), (5, .int (nI x9)), (6, .int (nI i9))]) hx hb dX2_bestPlace_112 rfl hl (by decide) rfl (fun ls hl => ?_)
              refine lv_iinc (v := nI (i9 + 1)) (lv' := [(6, .int (nI (i9 + 1))), (3, .double (prN G (16 * x9 + i9))), (2, .int (nI (16 * x9 + i9))), (7, .double (prN G (16 * x9 + i9))), (0, .ref (hs 0)), (1, .int k9), (5, .int (nI x9))]) hx hb dX2_bestPlace_113 hl (k := 6) rfl (nI_1 i9) (by decide) rfl (fun ls hl => ?_)
              refine lv_goto (tgt := 43) hx hb dX2_bestPlace_116 (by decide) ?_
              exact ih1 (i9 + 1) _ _ _ _ (by omega) ⟨hil, hfr8.tr hfv⟩ hG (lv_sub hl [4, 5, 2, 1, 6, 0] (by rw [show 16 * x9 + (i9 + 1) = 16 * x9 + i9 + 1 by omega, bp_hit hbi hgt]; rfl))
    · refine lv_iload_n hx hb dX2_bestPlace_9 rfl (lv_at hl 1 rfl) ?_
      refine lv_iconst (v := 3) hx hb dX2_bestPlace_10 (by decide) ?_
      refine lv_icmp_eq (tgt := 17) hx hb dX2_bestPlace_11 (by decide) (fun k3 => ?_) (fun k3 => ?_)
      · have hk : pkB k9 = true := by unfold pkB; simp [k3]
        refine lv_aload_n hx hb dX2_bestPlace_17 rfl (lv_at hl 0 rfl) ?_
        refine g_callv wM_adr hG (g_runV (As := []) (rest := []) ⟨hx, hb, hml, hown, hts⟩ wM_adr (kX2_takeHeights G S hw he) wyX2_takeHeights q533 hG 0 rfl rfl ⟨by decide, by decide⟩ rfl rfl hl.1 (Nat.le_of_ble_eq_true rfl) ⟨Nat.le_refl 0, Nat.le_refl 0⟩ dX2_bestPlace_18) (fun S13 H locs hp hG => ?_)
        obtain ⟨hLt, hft⟩ := hp
        have het := he.fb (Or.inl rfl) hft
        refine lv_bipush (v := (-7)) hx hb dX2_bestPlace_21 (by decide) ?_
        refine lv_istore_n (lv' := [(2, .int (-7)), (0, .ref (hs 0)), (1, .int k9)]) hx hb dX2_bestPlace_23 rfl hl (by decide) rfl (fun ls hl => ?_)
        refine lv_ldc2d hx hb hown (hts _ q647) dX2_bestPlace_24 ?_
        refine lv_dstore_n (lv' := [(3, .double 13830554455654793216), (2, .int (-7)), (0, .ref (hs 0)), (1, .int k9)]) hx hb dX2_bestPlace_27 rfl hl (by decide) rfl (fun ls hl => ?_)
        refine lv_iconst (v := 0) hx hb dX2_bestPlace_28 (by decide) ?_
        refine lv_istore (lv' := [(5, .int 0), (3, .double 13830554455654793216), (2, .int (-7)), (0, .ref (hs 0)), (1, .int k9)]) hx hb dX2_bestPlace_29 hl (by decide) rfl (fun ls hl => ?_)
        have hke := (pkB_n hk).1
        have hk3 := (pkB_n hk).2
        have hw1 := hw.1
        refine g_rec (τ := Nat) (fun j S9 => j ≤ G 0 1 ∧ frV S13 S9) (fun j => 100 - j) (fun j => [(0, .ref (hs 0)), (1, .int k9), (2, .int (bpL G (nN k9) (16 * j)).1), (3, .double (bpL G (nN k9) (16 * j)).2), (5, .int (nI j))]) 31 9 ?_ 0 _ _ _ _ (⟨Nat.zero_le _, frV.rf⟩) hG (lv_sub hl [3, 4, 2, 1, 0] (rfl))
        intro x9 S9 H locs ls hI hG hl ih
        obtain ⟨hj, hfr⟩ := hI
        have he9 := het.fv hfr
        have hL9 := hLt.fv hfr
        refine lv_iload hx hb dX2_bestPlace_31 (lv_at hl 4 rfl) ?_
        refine lv_aload_n hx hb dX2_bestPlace_33 rfl (lv_at hl 0 rfl) ?_
        refine g_get hx hb hts hown hG inX2 0 rfl rfl 1 (by decide) q393 (v := .int (S9 0 1)) rfl dX2_bestPlace_34 ?_
        refine g_top (y := nI (G 0 1)) (he9.1.2.1) ?_
        refine lv_icmp_ge (tgt := 125) hx hb dX2_bestPlace_37 (by decide) (fun c37 => ?_) (fun c37 => ?_)
        · have hjl : G 0 1 ≤ x9 := (nI_leI (by omega) (by omega)).mp c37
          refine lv_iload_n hx hb dX2_bestPlace_125 rfl (lv_at hl 2 rfl) ?_
          exact g_iret hx hb hr hlk hG ⟨by unfold F_best; rw [if_pos hk, show x9 = G 0 1 by omega, bp_all hw], he9⟩ dX2_bestPlace_126
        · have hjl : x9 < G 0 1 := Nat.lt_of_not_le (fun q => c37 (nI_le q (by omega)))
          refine lv_iconst (v := 0) hx hb dX2_bestPlace_40 (by decide) ?_
          refine lv_istore (lv' := [(6, .int 0), (0, .ref (hs 0)), (1, .int k9), (2, .int ((bpL G (nN k9) (16 * x9)).1)), (3, .double ((bpL G (nN k9) (16 * x9)).2)), (5, .int (nI x9))]) hx hb dX2_bestPlace_41 hl (by decide) rfl (fun ls hl => ?_)
          refine g_rec (τ := Nat) (fun j S8 => j ≤ G 0 0 ∧ frV S9 S8) (fun j => 100 - j) (fun j => [(0, .ref (hs 0)), (1, .int k9), (2, .int (bpL G (nN k9) (16 * x9 + j)).1), (3, .double (bpL G (nN k9) (16 * x9 + j)).2), (5, .int (nI x9)), (6, .int (nI j))]) 43 9 ?_ 0 _ _ _ _ (⟨Nat.zero_le _, frV.rf⟩) hG (lv_sub hl [1, 2, 3, 4, 5, 0] (rfl))
          intro i9 S8 H locs ls hI hG hl ih1
          obtain ⟨hi, hfr8⟩ := hI
          have he8 := he9.fv hfr8
          have hL8 := hL9.fv hfr8
          refine lv_iload hx hb dX2_bestPlace_43 (lv_at hl 5 rfl) ?_
          refine lv_aload_n hx hb dX2_bestPlace_45 rfl (lv_at hl 0 rfl) ?_
          refine g_get hx hb hts hown hG inX2 0 rfl rfl 0 (by decide) q392 (v := .int (S8 0 0)) rfl dX2_bestPlace_46 ?_
          refine g_top (y := nI (G 0 0)) (he8.1.1) ?_
          refine lv_icmp_ge (tgt := 119) hx hb dX2_bestPlace_49 (by decide) (fun c49 => ?_) (fun c49 => ?_)
          · have hil : G 0 0 ≤ i9 := (nI_leI (by omega) (by omega)).mp c49
            refine lv_iinc (v := nI (x9 + 1)) (lv' := [(5, .int (nI (x9 + 1))), (0, .ref (hs 0)), (1, .int k9), (2, .int ((bpL G (nN k9) (16 * x9 + i9)).1)), (3, .double ((bpL G (nN k9) (16 * x9 + i9)).2)), (6, .int (nI i9))]) hx hb dX2_bestPlace_119 hl (k := 4) rfl (nI_1 x9) (by decide) rfl (fun ls hl => ?_)
            refine lv_goto (tgt := 31) hx hb dX2_bestPlace_122 (by decide) ?_
            exact ih (x9 + 1) _ _ _ _ (by omega) ⟨hjl, hfr.tr hfr8⟩ hG (lv_sub hl [1, 2, 3, 4, 0] (by rw [← bp_row hw, show G 0 0 = i9 by omega]; rfl))
          · have hil : i9 < G 0 0 := Nat.lt_of_not_le (fun q => c49 (nI_le q (by omega)))
            refine lv_aload_n hx hb dX2_bestPlace_52 rfl (lv_at hl 0 rfl) ?_
            refine g_get hx hb hts hown hG inX2 0 rfl rfl 2 (by decide) q394 (v := .ref (hs 2)) rfl dX2_bestPlace_53 ?_
            refine lv_bipush (v := 16) hx hb dX2_bestPlace_56 (by decide) ?_
            refine lv_iload hx hb dX2_bestPlace_58 (lv_at hl 4 rfl) ?_
            refine lv_imul hx hb dX2_bestPlace_60 ?_
            refine lv_iload hx hb dX2_bestPlace_61 (lv_at hl 5 rfl) ?_
            refine lv_iadd hx hb dX2_bestPlace_63 ?_
            refine g_aldN (f := S8 2) hx hb hG 1 rfl (by decide) ((16 * x9 + i9)) (idx_nI i9 x9) (by omega) dX2_bestPlace_64 ?_
            refine g_top (y := nI (G 1 (16 * x9 + i9))) (he8.2.1 _ (by omega)) ?_
            refine lv_iload_n hx hb dX2_bestPlace_65 rfl (lv_at hl 1 rfl) ?_
            refine lv_icmp_ne (tgt := 113) hx hb dX2_bestPlace_66 (by decide) (fun c66 => ?_) (fun c66 => ?_)
            · have hbi : ¬ bpI G (nN k9) (16 * x9 + i9) = true := fun q => c66 (by unfold bpI at q; simp only [Bool.and_eq_true, decide_eq_true_eq] at q; rw [hke, q.1.1])
              refine lv_iinc (v := nI (i9 + 1)) (lv' := [(6, .int (nI (i9 + 1))), (0, .ref (hs 0)), (1, .int k9), (2, .int ((bpL G (nN k9) (16 * x9 + i9)).1)), (3, .double ((bpL G (nN k9) (16 * x9 + i9)).2)), (5, .int (nI x9))]) hx hb dX2_bestPlace_113 hl (k := 5) rfl (nI_1 i9) (by decide) rfl (fun ls hl => ?_)
              refine lv_goto (tgt := 43) hx hb dX2_bestPlace_116 (by decide) ?_
              exact ih1 (i9 + 1) _ _ _ _ (by omega) ⟨hil, hfr8⟩ hG (lv_sub hl [1, 2, 3, 4, 5, 0] (by rw [show 16 * x9 + (i9 + 1) = 16 * x9 + i9 + 1 by omega, bp_no hbi]; rfl))
            · have hc9 : 16 * x9 + i9 < 192 := by omega
              have hkd : G 1 (16 * x9 + i9) = nN k9 := (nI_eq (by have := (hw.c hc9).1; omega) (by omega)).mp (c66.trans hke)
              have hbi : bpI G (nN k9) (16 * x9 + i9) = true := by unfold bpI; rw [decide_eq_true hkd, decide_eq_true (show (16 * x9 + i9) % 16 < G 0 0 by omega), decide_eq_true (show (16 * x9 + i9) / 16 < G 0 1 by omega)]; rfl
              refine lv_aload_n hx hb dX2_bestPlace_69 rfl (lv_at hl 0 rfl) ?_
              refine lv_iload hx hb dX2_bestPlace_70 (lv_at hl 5 rfl) ?_
              refine g_top (y := nI ((16 * x9 + i9) % 16)) (congrArg nI (by omega)) ?_
              refine lv_iload hx hb dX2_bestPlace_72 (lv_at hl 4 rfl) ?_
              refine g_top (y := nI ((16 * x9 + i9) / 16)) (congrArg nI (by omega)) ?_
              refine g_calld wM_adr hG (g_runV (As := [.int (nI ((16 * x9 + i9) % 16)), .int (nI ((16 * x9 + i9) / 16))]) (rest := []) ⟨hx, hb, hml, hown, hts⟩ wM_adr (kX2_prospectOf G S8 hw he8 hL8 (16 * x9 + i9) hc9 (pk_pl hk hkd)) wyX2_prospectOf q648 hG 0 rfl rfl ⟨by decide, by decide⟩ rfl rfl hl.1 (Nat.le_of_ble_eq_true rfl) ⟨Nat.le_refl 0, Nat.le_refl 0⟩ dX2_bestPlace_74) (fun r15 S14 H locs hp hG => ?_)
              obtain ⟨rfl, hfv⟩ := hp
              refine lv_dstore (lv' := [(7, .double (prN G (16 * x9 + i9))), (0, .ref (hs 0)), (1, .int k9), (2, .int ((bpL G (nN k9) (16 * x9 + i9)).1)), (3, .double ((bpL G (nN k9) (16 * x9 + i9)).2)), (5, .int (nI x9)), (6, .int (nI i9))]) hx hb dX2_bestPlace_77 hl (by decide) rfl (fun ls hl => ?_)
              refine lv_dload hx hb dX2_bestPlace_79 (lv_at hl 0 rfl) ?_
              refine lv_dload_n hx hb dX2_bestPlace_81 rfl (lv_at hl 4 rfl) ?_
              refine lv_dcmp hx hb dX2_bestPlace_82 ?_
              refine g_dia (P := Op.cmpValue (FP.dcmp (prN G (16 * x9 + i9)) ((bpL G (nN k9) (16 * x9 + i9)).2)) CmpOp.l ≤ 0) (J := 98) (A9 := (bpL G (nN k9) (16 * x9 + i9)).1) (B9 := (16 * (nI x9)) + (nI i9)) (ls9 := ls) (rest9 := []) (fun ka17 kb18 => ?_) ?_
              · refine lv_if_le (tgt := 97) hx hb dX2_bestPlace_83 (by decide) (fun c16 => ?_) (fun c16 => ?_)
                · refine lv_iload_n hx hb dX2_bestPlace_97 rfl (lv_at hl 3 rfl) ?_
                  exact ka17 c16
                · refine lv_bipush (v := 16) hx hb dX2_bestPlace_86 (by decide) ?_
                  refine lv_iload hx hb dX2_bestPlace_88 (lv_at hl 5 rfl) ?_
                  refine lv_imul hx hb dX2_bestPlace_90 ?_
                  refine lv_iload hx hb dX2_bestPlace_91 (lv_at hl 6 rfl) ?_
                  refine lv_iadd hx hb dX2_bestPlace_93 ?_
                  refine lv_goto (tgt := 98) hx hb dX2_bestPlace_94 (by decide) ?_
                  exact kb18 c16
              refine g_top (y := if Op.cmpValue (FP.dcmp (prN G (16 * x9 + i9)) (bpL G (nN k9) (16 * x9 + i9)).2) CmpOp.l ≤ 0 then (bpL G (nN k9) (16 * x9 + i9)).1 else nI (16 * x9 + i9)) (by rw [idx_nI]) ?_
              refine lv_istore_n (lv' := [(2, .int (if Op.cmpValue (FP.dcmp (prN G (16 * x9 + i9)) (bpL G (nN k9) (16 * x9 + i9)).2) CmpOp.l ≤ 0 then (bpL G (nN k9) (16 * x9 + i9)).1 else nI (16 * x9 + i9))), (7, .double (prN G (16 * x9 + i9))), (0, .ref (hs 0)), (1, .int k9), (3, .double ((bpL G (nN k9) (16 * x9 + i9)).2)), (5, .int (nI x9)), (6, .int (nI i9))]) hx hb dX2_bestPlace_98 rfl hl (by decide) rfl (fun ls hl => ?_)
              refine lv_dload hx hb dX2_bestPlace_99 (lv_at hl 1 rfl) ?_
              refine lv_dload_n hx hb dX2_bestPlace_101 rfl (lv_at hl 4 rfl) ?_
              refine lv_dcmp hx hb dX2_bestPlace_102 ?_
              refine lv_if_le (tgt := 111) hx hb dX2_bestPlace_103 (by decide) (fun c103 => ?_) (fun c103 => ?_)
              · have hl : lv_has ls 9 [(2, .int ((bpL G (nN k9) (16 * x9 + i9)).1)), (7, .double (prN G (16 * x9 + i9))), (0, .ref (hs 0)), (1, .int k9), (3, .double ((bpL G (nN k9) (16 * x9 + i9)).2)), (5, .int (nI x9)), (6, .int (nI i9))] := by have hl9 := hl; simp only [if_pos c103] at hl9; exact hl9
                have hgt : ¬ gtB (prN G (16 * x9 + i9)) (bpL G (nN k9) (16 * x9 + i9)).2 = true := fun q => absurd (of_decide_eq_true q) (by rw [Int32.le_iff_toInt_le] at c103; rw [Int32.lt_iff_toInt_lt]; omega)
                refine lv_dload_n hx hb dX2_bestPlace_111 rfl (lv_at hl 4 rfl) ?_
                refine lv_dstore_n (lv' := [(3, .double ((bpL G (nN k9) (16 * x9 + i9)).2)), (2, .int ((bpL G (nN k9) (16 * x9 + i9)).1)), (7, .double (prN G (16 * x9 + i9))), (0, .ref (hs 0)), (1, .int k9), (5, .int (nI x9)), (6, .int (nI i9))]) hx hb dX2_bestPlace_112 rfl hl (by decide) rfl (fun ls hl => ?_)
                refine lv_iinc (v := nI (i9 + 1)) (lv' := [(6, .int (nI (i9 + 1))), (3, .double ((bpL G (nN k9) (16 * x9 + i9)).2)), (2, .int ((bpL G (nN k9) (16 * x9 + i9)).1)), (7, .double (prN G (16 * x9 + i9))), (0, .ref (hs 0)), (1, .int k9), (5, .int (nI x9))]) hx hb dX2_bestPlace_113 hl (k := 6) rfl (nI_1 i9) (by decide) rfl (fun ls hl => ?_)
                refine lv_goto (tgt := 43) hx hb dX2_bestPlace_116 (by decide) ?_
                exact ih1 (i9 + 1) _ _ _ _ (by omega) ⟨hil, hfr8.tr hfv⟩ hG (lv_sub hl [4, 5, 2, 1, 6, 0] (by rw [show 16 * x9 + (i9 + 1) = 16 * x9 + i9 + 1 by omega, bp_less hgt]; rfl))
              · have hl : lv_has ls 9 [(2, .int (nI (16 * x9 + i9))), (7, .double (prN G (16 * x9 + i9))), (0, .ref (hs 0)), (1, .int k9), (3, .double ((bpL G (nN k9) (16 * x9 + i9)).2)), (5, .int (nI x9)), (6, .int (nI i9))] := by have hl9 := hl; simp only [if_neg c103] at hl9; exact hl9
                have hgt : gtB (prN G (16 * x9 + i9)) (bpL G (nN k9) (16 * x9 + i9)).2 = true := decide_eq_true (by rw [Int32.le_iff_toInt_le] at c103; rw [Int32.lt_iff_toInt_lt]; omega)
                refine lv_dload hx hb dX2_bestPlace_106 (lv_at hl 1 rfl) ?_
                refine lv_goto (tgt := 112) hx hb dX2_bestPlace_108 (by decide) ?_
                refine lv_dstore_n (lv' := [(3, .double (prN G (16 * x9 + i9))), (2, .int (nI (16 * x9 + i9))), (7, .double (prN G (16 * x9 + i9))), (0, .ref (hs 0)), (1, .int k9), (5, .int (nI x9)), (6, .int (nI i9))]) hx hb dX2_bestPlace_112 rfl hl (by decide) rfl (fun ls hl => ?_)
                refine lv_iinc (v := nI (i9 + 1)) (lv' := [(6, .int (nI (i9 + 1))), (3, .double (prN G (16 * x9 + i9))), (2, .int (nI (16 * x9 + i9))), (7, .double (prN G (16 * x9 + i9))), (0, .ref (hs 0)), (1, .int k9), (5, .int (nI x9))]) hx hb dX2_bestPlace_113 hl (k := 6) rfl (nI_1 i9) (by decide) rfl (fun ls hl => ?_)
                refine lv_goto (tgt := 43) hx hb dX2_bestPlace_116 (by decide) ?_
                exact ih1 (i9 + 1) _ _ _ _ (by omega) ⟨hil, hfr8.tr hfv⟩ hG (lv_sub hl [4, 5, 2, 1, 6, 0] (by rw [show 16 * x9 + (i9 + 1) = 16 * x9 + i9 + 1 by omega, bp_hit hbi hgt]; rfl))
      · refine lv_bipush (v := (-4)) hx hb dX2_bestPlace_14 (by decide) ?_
        exact g_iret hx hb hr hlk hG ⟨by unfold F_best; rw [if_neg (by unfold pkB; simp [k0, k1, k3])], he⟩ dX2_bestPlace_16
set_option maxHeartbeats 4000000 in
set_option maxRecDepth 100000 in
theorem kX2_meanProspect {l : Launch} {D : va_G} {cy : ClassId} {hs : Nat → Nat} {X : va_W} (G : GN) (S : GS) (hw : wf G) (he : encM G S) : Ct l D cy (wM cy hs X) yX2_meanProspect cX2_meanProspect 4 (some .float) 7 164 (S) [.ref (hs 0)] (QF D (wM cy hs X) (fun r S' => r = F_mean G ∧ encM G S')) := by
  refine Ct.of wM_adr (plainFor_of_name (by decide)) (Nat.le_of_ble_eq_true rfl) ?_
  intro p e s m below meth c ls C hl hG
  obtain ⟨hx, hb, hml, hown, hts, hr, hlk⟩ := C
  have hl : lv_has ls 4 [(0, .ref (hs 0))] := hl
  have hnw := hw.1.2.2.2.2.2.1
  refine lv_aload_n hx hb dX2_meanProspect_0 rfl (lv_at hl 0 rfl) ?_
  refine g_get hx hb hts hown hG inX2 0 rfl rfl 18 (by decide) q410 (v := .int (S 0 18)) rfl dX2_meanProspect_1 ?_
  refine g_top (y := nI (G 0 3)) (he.1.2.2.2.1) ?_
  refine lv_if_ne (tgt := 10) hx hb dX2_meanProspect_4 (by decide) (fun c4 => ?_) (fun c4 => ?_)
  · have hn0 : ¬ G 0 3 = 0 := fun q => c4 (by rw [q]; rfl)
    refine lv_aload_n hx hb dX2_meanProspect_10 rfl (lv_at hl 0 rfl) ?_
    refine g_callv wM_adr hG (g_runV (As := []) (rest := []) ⟨hx, hb, hml, hown, hts⟩ wM_adr (kX2_takeHeights G S hw he) wyX2_takeHeights q533 hG 0 rfl rfl ⟨by decide, by decide⟩ rfl rfl hl.1 (Nat.le_of_ble_eq_true rfl) ⟨Nat.le_refl 0, Nat.le_refl 0⟩ dX2_meanProspect_11) (fun S1 H locs hp hG => ?_)
    obtain ⟨hLt, hft⟩ := hp
    have het := he.fb (Or.inl rfl) hft
    refine lv_dconst0 hx hb dX2_meanProspect_14 ?_
    refine lv_dstore_n (lv' := [(1, .double FP.dconst0), (0, .ref (hs 0))]) hx hb dX2_meanProspect_15 rfl hl (by decide) rfl (fun ls hl => ?_)
    refine lv_iconst (v := 0) hx hb dX2_meanProspect_16 (by decide) ?_
    refine lv_istore_n (lv' := [(3, .int 0), (1, .double FP.dconst0), (0, .ref (hs 0))]) hx hb dX2_meanProspect_17 rfl hl (by decide) rfl (fun ls hl => ?_)
    refine g_rec (τ := Nat) (fun j S9 => j ≤ G 0 3 ∧ frV S1 S9) (fun j => 100 - j) (fun j => [(0, .ref (hs 0)), (1, .double (wsL G j)), (3, .int (nI j))]) 18 4 ?_ 0 _ _ _ _ (⟨Nat.zero_le _, frV.rf⟩) hG (lv_sub hl [2, 1, 0] (rfl))
    intro x9 S9 H locs ls hI hG hl ih
    obtain ⟨hj, hfr0⟩ := hI
    have he9 := het.fv hfr0
    have hL9 := hLt.fv hfr0
    refine lv_iload_n hx hb dX2_meanProspect_18 rfl (lv_at hl 2 rfl) ?_
    refine lv_aload_n hx hb dX2_meanProspect_19 rfl (lv_at hl 0 rfl) ?_
    refine g_get hx hb hts hown hG inX2 0 rfl rfl 18 (by decide) q410 (v := .int (S9 0 18)) rfl dX2_meanProspect_20 ?_
    refine g_top (y := nI (G 0 3)) (he9.1.2.2.2.1) ?_
    refine lv_icmp_ge (tgt := 74) hx hb dX2_meanProspect_23 (by decide) (fun c23 => ?_) (fun c23 => ?_)
    · have hjl : G 0 3 ≤ x9 := (nI_leI (by omega) (by omega)).mp c23
      refine lv_dload_n hx hb dX2_meanProspect_74 rfl (lv_at hl 1 rfl) ?_
      refine lv_aload_n hx hb dX2_meanProspect_75 rfl (lv_at hl 0 rfl) ?_
      refine g_get hx hb hts hown hG inX2 0 rfl rfl 18 (by decide) q410 (v := .int (S9 0 18)) rfl dX2_meanProspect_76 ?_
      refine g_top (y := nI (G 0 3)) (he9.1.2.2.2.1) ?_
      refine lv_i2d hx hb dX2_meanProspect_79 ?_
      refine lv_ddiv hx hb dX2_meanProspect_80 (g64_n (g64_div (wsL_g hw _ (by omega)) (by omega) (by omega))) ?_
      refine lv_d2f hx hb dX2_meanProspect_81 (d2f_n (g64_div (wsL_g hw _ (by omega)) (by omega) (by omega))) ?_
      exact g_fret hx hb hr hlk hG ⟨by unfold F_mean; rw [if_neg (by omega), show x9 = G 0 3 by omega], he9⟩ dX2_meanProspect_82
    · have hjl : x9 < G 0 3 := Nat.lt_of_not_le (fun q => c23 (nI_le q (by omega)))
      refine lv_dload_n hx hb dX2_meanProspect_26 rfl (lv_at hl 1 rfl) ?_
      refine lv_aload_n hx hb dX2_meanProspect_27 rfl (lv_at hl 0 rfl) ?_
      refine lv_aload_n hx hb dX2_meanProspect_28 rfl (lv_at hl 0 rfl) ?_
      refine g_get hx hb hts hown hG inX2 0 rfl rfl 19 (by decide) q411 (v := .ref (hs 19)) rfl dX2_meanProspect_29 ?_
      refine lv_iload_n hx hb dX2_meanProspect_32 rfl (lv_at hl 2 rfl) ?_
      refine g_aldN (f := S9 19) hx hb hG 7 rfl (by decide) (x9) (rfl) (by omega) dX2_meanProspect_33 ?_
      refine g_top (y := nI (G 5 x9 % 16)) ((he9.2.2.2.2.1 _ hjl).1) ?_
      refine lv_aload_n hx hb dX2_meanProspect_34 rfl (lv_at hl 0 rfl) ?_
      refine g_get hx hb hts hown hG inX2 0 rfl rfl 20 (by decide) q412 (v := .ref (hs 20)) rfl dX2_meanProspect_35 ?_
      refine lv_iload_n hx hb dX2_meanProspect_38 rfl (lv_at hl 2 rfl) ?_
      refine g_aldN (f := S9 20) hx hb hG 8 rfl (by decide) (x9) (rfl) (by omega) dX2_meanProspect_39 ?_
      refine g_top (y := nI (G 5 x9 / 16)) ((he9.2.2.2.2.1 _ hjl).2) ?_
      refine g_calliE wM_adr hG (g_runV (As := [.int (nI (G 5 x9 % 16)), .int (nI (G 5 x9 / 16))]) (rest := [.double (wsL G x9)]) ⟨hx, hb, hml, hown, hts⟩ wM_adr (kX2_isPlace S9 (nI (G 5 x9 % 16)) (nI (G 5 x9 / 16)) (vp_c (hw.2.2.2.1 _ hjl))) wyX2_isPlace q529 hG 0 rfl rfl ⟨by decide, by decide⟩ rfl rfl hl.1 (Nat.le_of_ble_eq_true rfl) ⟨Nat.le_refl 0, Nat.le_refl 0⟩ dX2_meanProspect_40) (fun H locs hG => ?_)
      refine g_top (y := if plB G (G 5 x9) then 1 else 0) (placeM hw he9 (hw.2.2.2.1 _ hjl) (idx_c _)) ?_
      refine lv_if_eq (tgt := 65) hx hb dX2_meanProspect_43 (by decide) (fun c43 => ?_) (fun c43 => ?_)
      · have hpl : ¬ plB G (G 5 x9) = true := ite10.mp c43
        refine lv_dconst0 hx hb dX2_meanProspect_65 ?_
        refine lv_dadd hx hb dX2_meanProspect_66 (by first | exact g64_n (g64_add (wsL_g hw _ (by omega)) (prL_g hw (hw.2.2.2.1 _ hjl) hpl _ (Nat.le_refl _))) | exact g64_n (g64_add (wsL_g hw _ (by omega)) g64_0)) ?_
        refine lv_dstore_n (lv' := [(1, .double (FP.dadd (wsL G x9) FP.dconst0)), (0, .ref (hs 0)), (3, .int (nI x9))]) hx hb dX2_meanProspect_67 rfl hl (by decide) rfl (fun ls hl => ?_)
        refine lv_iinc (v := nI (x9 + 1)) (lv' := [(3, .int (nI (x9 + 1))), (1, .double (FP.dadd (wsL G x9) FP.dconst0)), (0, .ref (hs 0))]) hx hb dX2_meanProspect_68 hl (k := 2) rfl (nI_1 x9) (by decide) rfl (fun ls hl => ?_)
        refine lv_goto (tgt := 18) hx hb dX2_meanProspect_71 (by decide) ?_
        exact ih (x9 + 1) _ _ _ _ (by omega) ⟨hjl, hfr0⟩ hG (lv_sub hl [2, 1, 0] (by rw [ws_miss hpl, add_0 (wsL_g hw x9 (by omega))]; rfl))
      · have hpl : plB G (G 5 x9) = true := Classical.byContradiction (fun q => c43 (ite10.mpr q))
        refine lv_aload_n hx hb dX2_meanProspect_46 rfl (lv_at hl 0 rfl) ?_
        refine lv_aload_n hx hb dX2_meanProspect_47 rfl (lv_at hl 0 rfl) ?_
        refine g_get hx hb hts hown hG inX2 0 rfl rfl 19 (by decide) q411 (v := .ref (hs 19)) rfl dX2_meanProspect_48 ?_
        refine lv_iload_n hx hb dX2_meanProspect_51 rfl (lv_at hl 2 rfl) ?_
        refine g_aldN (f := S9 19) hx hb hG 7 rfl (by decide) (x9) (rfl) (by omega) dX2_meanProspect_52 ?_
        refine g_top (y := nI (G 5 x9 % 16)) ((he9.2.2.2.2.1 _ hjl).1) ?_
        refine lv_aload_n hx hb dX2_meanProspect_53 rfl (lv_at hl 0 rfl) ?_
        refine g_get hx hb hts hown hG inX2 0 rfl rfl 20 (by decide) q412 (v := .ref (hs 20)) rfl dX2_meanProspect_54 ?_
        refine lv_iload_n hx hb dX2_meanProspect_57 rfl (lv_at hl 2 rfl) ?_
        refine g_aldN (f := S9 20) hx hb hG 8 rfl (by decide) (x9) (rfl) (by omega) dX2_meanProspect_58 ?_
        refine g_top (y := nI (G 5 x9 / 16)) ((he9.2.2.2.2.1 _ hjl).2) ?_
        refine g_calld wM_adr hG (g_runV (As := [.int (nI (G 5 x9 % 16)), .int (nI (G 5 x9 / 16))]) (rest := [.double (wsL G x9)]) ⟨hx, hb, hml, hown, hts⟩ wM_adr (kX2_prospectOf G S9 hw he9 hL9 (G 5 x9) (hw.2.2.2.1 _ hjl) hpl) wyX2_prospectOf q648 hG 0 rfl rfl ⟨by decide, by decide⟩ rfl rfl hl.1 (Nat.le_of_ble_eq_true rfl) ⟨Nat.le_refl 0, Nat.le_refl 0⟩ dX2_meanProspect_59) (fun r3 S2 H locs hp hG => ?_)
        obtain ⟨rfl, hfv⟩ := hp
        refine lv_goto (tgt := 66) hx hb dX2_meanProspect_62 (by decide) ?_
        refine lv_dadd hx hb dX2_meanProspect_66 (by first | exact g64_n (g64_add (wsL_g hw _ (by omega)) (prL_g hw (hw.2.2.2.1 _ hjl) hpl _ (Nat.le_refl _))) | exact g64_n (g64_add (wsL_g hw _ (by omega)) g64_0)) ?_
        refine lv_dstore_n (lv' := [(1, .double (FP.dadd (wsL G x9) (prN G (G 5 x9)))), (0, .ref (hs 0)), (3, .int (nI x9))]) hx hb dX2_meanProspect_67 rfl hl (by decide) rfl (fun ls hl => ?_)
        refine lv_iinc (v := nI (x9 + 1)) (lv' := [(3, .int (nI (x9 + 1))), (1, .double (FP.dadd (wsL G x9) (prN G (G 5 x9)))), (0, .ref (hs 0))]) hx hb dX2_meanProspect_68 hl (k := 2) rfl (nI_1 x9) (by decide) rfl (fun ls hl => ?_)
        refine lv_goto (tgt := 18) hx hb dX2_meanProspect_71 (by decide) ?_
        exact ih (x9 + 1) _ _ _ _ (by omega) ⟨hjl, hfr0.tr hfv⟩ hG (lv_sub hl [2, 1, 0] (by rw [ws_hit hpl]; rfl))
  · have hn0 : G 0 3 = 0 := (nI_eq (b := 0) (by omega) (by decide)).mp c4
    refine lv_ldcf hx hb hown (hts _ q660) dX2_meanProspect_7 ?_
    exact g_fret hx hb hr hlk hG ⟨by unfold F_mean; rw [if_pos hn0], he⟩ dX2_meanProspect_9
