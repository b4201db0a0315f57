/-! ===== the class: features, the walk, wishes are added ===== -/
theorem encC_add {G : GN} {S : GS} (he : encC G S) {c h w : Nat} {ht wt : Int32} (hh : ht = nI h) (hwt : wt = nI w) : encC (T_add G c h w) (up2 (up2 (up2 (gX1_setCell S c 4 ht) 5 (G 0 2) (nI c)) 6 (G 0 2) wt) 0 4 (nI (G 0 2) + 1)) := by
  have hs := encC_set he (c := c) (K := 4) (H := h) (kd := 4) rfl hh
  unfold encC
  rw [T_add_12 (a := 1) _ _ _ _ (by decide) (by decide) (by decide), T_add_12 (a := 2) _ _ _ _ (by decide) (by decide) (by decide), T_add_12 (a := 5) _ _ _ _ (by decide) (by decide) (by decide), T_add_12 (a := 6) _ _ _ _ (by decide) (by decide) (by decide), T_add_12 (a := 7) _ _ _ _ (by decide) (by decide) (by decide)]
  simp only [T_add_0, T_add_3, T_add_4]
  refine ⟨⟨he.1.1, he.1.2.1, nI_1 _, he.1.2.2.2.1, he.1.2.2.2.2⟩, hs.2.1, hs.2.2.1, fun k hk => ?_, fun i hi => he.2.2.2.2.1 i (by simpa using hi), fun i hi => he.2.2.2.2.2 i (by simpa using hi)⟩
  simp only [if_true] at hk
  show upd (S 5) (G 0 2) (nI c) k = _ ∧ upd (S 6) (G 0 2) wt k = _
  unfold upd
  by_cases g : k = G 0 2
  · rw [if_pos g, if_pos g, if_pos g, if_pos g]; exact ⟨rfl, hwt⟩
  · rw [if_neg g, if_neg g, if_neg g, if_neg g]; exact he.2.2.2.1 k (by omega)
theorem encC_walk {G : GN} {S : GS} (he : encC G S) {c : Nat} : encC (T_walk G c) (up2 (up2 S 8 (G 0 3) (nI c)) 0 7 (nI (G 0 3) + 1)) := by
  unfold encC
  rw [T_walk_o (a := 1) _ _ (by decide) (by decide), T_walk_o (a := 2) _ _ (by decide) (by decide), T_walk_o (a := 3) _ _ (by decide) (by decide), T_walk_o (a := 4) _ _ (by decide) (by decide), T_walk_o (a := 6) _ _ (by decide) (by decide), T_walk_o (a := 7) _ _ (by decide) (by decide)]
  simp only [T_walk_0, T_walk_5]
  refine ⟨⟨he.1.1, he.1.2.1, he.1.2.2.1, nI_1 _, he.1.2.2.2.2⟩, he.2.1, he.2.2.1, fun k hk => he.2.2.2.1 k (by simpa using hk), fun i hi => ?_, fun i hi => he.2.2.2.2.2 i (by simpa using hi)⟩
  simp only [if_true] at hi
  show upd (S 8) (G 0 3) (nI c) i = _
  unfold upd
  by_cases g : i = G 0 3
  · rw [if_pos g, if_pos g]
  · rw [if_neg g, if_neg g]; exact he.2.2.2.2.1 i (by omega)
theorem encC_cnt3 {G : GN} {S : GS} (he : encC G S) {n : Nat} {v : Int32} (hn : n ≤ G 0 3) (hv : v = nI n) : encC (upN G 0 3 n) (up2 S 0 7 v) := by
  have e : ∀ i, upN G 0 3 n 0 i = if i = 3 then n else G 0 i := fun i => by
    by_cases g : i = 3
    · rw [if_pos g, g, upN_eq]
    · rw [if_neg g, upN_ne _ _ _ _ (Or.inr g)]
  unfold encC
  rw [upN_o (b := 1) _ _ _ _ (by decide), upN_o (b := 2) _ _ _ _ (by decide), upN_o (b := 3) _ _ _ _ (by decide), upN_o (b := 4) _ _ _ _ (by decide), upN_o (b := 5) _ _ _ _ (by decide), upN_o (b := 6) _ _ _ _ (by decide), upN_o (b := 7) _ _ _ _ (by decide)]
  simp only [e]
  refine ⟨⟨he.1.1, he.1.2.1, he.1.2.2.1, hv, he.1.2.2.2.2⟩, he.2.1, he.2.2.1, fun k hk => he.2.2.2.1 k (by simpa using hk), fun i hi => he.2.2.2.2.1 i ?_, fun i hi => he.2.2.2.2.2 i (by simpa using hi)⟩
  simp only [if_true] at hi; omega
theorem encC_wish {G : GN} {S : GS} (he : encC G S) {c k : Nat} : encC (T_wish G c k) (up2 (up2 (up2 S 10 (G 0 4) (nI c)) 11 (G 0 4) (nI k)) 0 9 (nI (G 0 4) + 1)) := by
  unfold encC
  rw [T_wish_o (a := 1) _ _ _ (by decide) (by decide) (by decide), T_wish_o (a := 2) _ _ _ (by decide) (by decide) (by decide), T_wish_o (a := 3) _ _ _ (by decide) (by decide) (by decide), T_wish_o (a := 4) _ _ _ (by decide) (by decide) (by decide), T_wish_o (a := 5) _ _ _ (by decide) (by decide) (by decide)]
  simp only [T_wish_0, T_wish_6, T_wish_7]
  refine ⟨⟨he.1.1, he.1.2.1, he.1.2.2.1, he.1.2.2.2.1, nI_1 _⟩, he.2.1, he.2.2.1, fun k hk => he.2.2.2.1 k (by simpa using hk), fun i hi => he.2.2.2.2.1 i (by simpa using hi), fun i hi => ?_⟩
  simp only [if_true] at hi
  show upd (S 10) (G 0 4) (nI c) i = _ ∧ upd (S 11) (G 0 4) (nI k) i = _
  unfold upd
  by_cases g : i = G 0 4
  · rw [if_pos g, if_pos g, if_pos g, if_pos g]; exact ⟨rfl, rfl⟩
  · rw [if_neg g, if_neg g, if_neg g, if_neg g]; exact he.2.2.2.2.2 i (by omega)
theorem encC_clear {G : GN} {S : GS} (he : encC G S) : encC (T_clear G) (up2 S 0 9 0) := by
  unfold encC
  rw [T_clear_o (a := 1) _ (by decide), T_clear_o (a := 2) _ (by decide), T_clear_o (a := 3) _ (by decide), T_clear_o (a := 4) _ (by decide), T_clear_o (a := 5) _ (by decide), T_clear_o (a := 6) _ (by decide), T_clear_o (a := 7) _ (by decide)]
  simp only [T_clear_0]
  exact ⟨⟨he.1.1, he.1.2.1, he.1.2.2.1, he.1.2.2.2.1, rfl⟩, he.2.1, he.2.2.1, fun k hk => he.2.2.2.1 k (by simpa using hk), fun i hi => he.2.2.2.2.1 i (by simpa using hi), fun i hi => absurd hi (by simp)⟩

set_option maxHeartbeats 4000000 in
set_option maxRecDepth 100000 in
theorem kX1_addFeature {l : Launch} {D : va_G} {cy : ClassId} {hs : Nat → Nat} {X : va_W} (G : GN) (S : GS) (hw : wf G) (he : encC G S) (x y h w9 : Int32) : Ct l D cy (wC cy hs X) yX1_addFeature cX1_addFeature 8 (some .int) 2 45 (S) [.ref (hs 0), .int x, .int y, .int h, .int w9] (QI D (wC cy hs X) (fun r S' => r = F_add G x y h w9 ∧ encC (Tf_add G x y h w9) S')) := by
  refine Ct.of wC_adr (plainFor_of_name (by decide)) (Nat.le_of_ble_eq_true rfl) ?_
  intro p e s m below meth c ls C hl hG
  obtain ⟨hx, hb, hml, hown, hts, hr, hlk⟩ := C
  have hl : lv_has ls 8 [(0, .ref (hs 0)), (1, .int x), (2, .int y), (3, .int h), (4, .int w9)] := hl
  refine lv_iload_n hx hb dX1_addFeature_0 rfl (lv_at hl 3 rfl) ?_
  refine lv_iconst (v := 0) hx hb dX1_addFeature_1 (by decide) ?_
  refine lv_bipush (v := 60) hx hb dX1_addFeature_2 (by decide) ?_
  refine g_stat (As := [.int h, .int 0, .int 60]) (rest := []) ⟨hx, hb, hml, hown, hts⟩ (kX1_inRange h 0 60) wyX1_inRange q152 hG ⟨by decide, by decide⟩ rfl rfl hl.1 (Nat.le_of_ble_eq_true rfl) ⟨Nat.le_refl 0, Nat.le_refl 0⟩ dX1_addFeature_4 (fun H locs hG => ?_)
  refine g_top (y := if inB h 0 60 then 1 else 0) (inR (a := 0) (b := 60) (by decide) (by decide)) ?_
  refine lv_if_eq (tgt := 25) hx hb dX1_addFeature_7 (by decide) (fun c7 => ?_) (fun c7 => ?_)
  · have hgd : gdB h w9 = false := by unfold gdB; rw [show inB h 0 60 = false from by simpa using ite10.mp c7, Bool.false_and]
    refine lv_iconst (v := 0) hx hb dX1_addFeature_25 (by decide) ?_
    refine lv_istore (lv' := [(5, .int 0), (0, .ref (hs 0)), (1, .int x), (2, .int y), (3, .int h), (4, .int w9)]) hx hb dX1_addFeature_26 hl (by decide) rfl (fun ls hl => ?_)
    refine lv_aload_n hx hb dX1_addFeature_28 rfl (lv_at hl 1 rfl) ?_
    refine lv_iload_n hx hb dX1_addFeature_29 rfl (lv_at hl 2 rfl) ?_
    refine lv_iload_n hx hb dX1_addFeature_30 rfl (lv_at hl 3 rfl) ?_
    refine lv_iload hx hb dX1_addFeature_31 (lv_at hl 0 rfl) ?_
    refine g_calliE wC_adr hG (g_runV (As := [.int x, .int y, .int 0]) (rest := []) ⟨hx, hb, hml, hown, hts⟩ wC_adr (kX1_changeError S x y 0 (he.ok hw)) wyX1_changeError q162 hG 0 rfl rfl ⟨by decide, by decide⟩ rfl rfl hl.1 (Nat.le_of_ble_eq_true rfl) ⟨Nat.le_refl 0, Nat.le_refl 0⟩ dX1_addFeature_33) (fun H locs hG => ?_)
    refine g_top (y := cErr G x y false) (chErr hw he x y false) ?_
    refine lv_istore (lv' := [(6, .int (cErr G x y false)), (5, .int 0), (0, .ref (hs 0)), (1, .int x), (2, .int y), (3, .int h), (4, .int w9)]) hx hb dX1_addFeature_36 hl (by decide) rfl (fun ls hl => ?_)
    refine lv_iload hx hb dX1_addFeature_38 (lv_at hl 0 rfl) ?_
    refine lv_if_eq (tgt := 46) hx hb dX1_addFeature_40 (by decide) (fun c_e => absurd c_e (fun q => by have := (cErr_0 q).2.1; exact absurd this (by decide))) (fun c_e => ?_)
    refine lv_iload hx hb dX1_addFeature_43 (lv_at hl 0 rfl) ?_
    exact g_iret hx hb hr hlk hG ⟨by unfold F_add; rw [hgd, if_neg c_e], by unfold Tf_add; rw [hgd, if_neg c_e]; exact he⟩ dX1_addFeature_45
  · refine lv_iload hx hb dX1_addFeature_10 (lv_at hl 4 rfl) ?_
    refine lv_iconst (v := 1) hx hb dX1_addFeature_12 (by decide) ?_
    refine lv_bipush (v := 9) hx hb dX1_addFeature_13 (by decide) ?_
    refine g_stat (As := [.int w9, .int 1, .int 9]) (rest := []) ⟨hx, hb, hml, hown, hts⟩ (kX1_inRange w9 1 9) wyX1_inRange q152 hG ⟨by decide, by decide⟩ rfl rfl hl.1 (Nat.le_of_ble_eq_true rfl) ⟨Nat.le_refl 0, Nat.le_refl 0⟩ dX1_addFeature_15 (fun H locs hG => ?_)
    refine g_top (y := if inB w9 1 9 then 1 else 0) (inR (a := 1) (b := 9) (by decide) (by decide)) ?_
    refine lv_if_eq (tgt := 25) hx hb dX1_addFeature_18 (by decide) (fun c18 => ?_) (fun c18 => ?_)
    · have hgd : gdB h w9 = false := by unfold gdB; rw [show inB w9 1 9 = false from by simpa using ite10.mp c18, Bool.and_false]
      refine lv_iconst (v := 0) hx hb dX1_addFeature_25 (by decide) ?_
      refine lv_istore (lv' := [(5, .int 0), (0, .ref (hs 0)), (1, .int x), (2, .int y), (3, .int h), (4, .int w9)]) hx hb dX1_addFeature_26 hl (by decide) rfl (fun ls hl => ?_)
      refine lv_aload_n hx hb dX1_addFeature_28 rfl (lv_at hl 1 rfl) ?_
      refine lv_iload_n hx hb dX1_addFeature_29 rfl (lv_at hl 2 rfl) ?_
      refine lv_iload_n hx hb dX1_addFeature_30 rfl (lv_at hl 3 rfl) ?_
      refine lv_iload hx hb dX1_addFeature_31 (lv_at hl 0 rfl) ?_
      refine g_calliE wC_adr hG (g_runV (As := [.int x, .int y, .int 0]) (rest := []) ⟨hx, hb, hml, hown, hts⟩ wC_adr (kX1_changeError S x y 0 (he.ok hw)) wyX1_changeError q162 hG 0 rfl rfl ⟨by decide, by decide⟩ rfl rfl hl.1 (Nat.le_of_ble_eq_true rfl) ⟨Nat.le_refl 0, Nat.le_refl 0⟩ dX1_addFeature_33) (fun H locs hG => ?_)
      refine g_top (y := cErr G x y false) (chErr hw he x y false) ?_
      refine lv_istore (lv' := [(6, .int (cErr G x y false)), (5, .int 0), (0, .ref (hs 0)), (1, .int x), (2, .int y), (3, .int h), (4, .int w9)]) hx hb dX1_addFeature_36 hl (by decide) rfl (fun ls hl => ?_)
      refine lv_iload hx hb dX1_addFeature_38 (lv_at hl 0 rfl) ?_
      refine lv_if_eq (tgt := 46) hx hb dX1_addFeature_40 (by decide) (fun c_e => absurd c_e (fun q => by have := (cErr_0 q).2.1; exact absurd this (by decide))) (fun c_e => ?_)
      refine lv_iload hx hb dX1_addFeature_43 (lv_at hl 0 rfl) ?_
      exact g_iret hx hb hr hlk hG ⟨by unfold F_add; rw [hgd, if_neg c_e], by unfold Tf_add; rw [hgd, if_neg c_e]; exact he⟩ dX1_addFeature_45
    · have hin1 : inB h 0 60 = true := Classical.byContradiction (fun q => c7 (ite10.mpr q))
      have hin2 : inB w9 1 9 = true := Classical.byContradiction (fun q => c18 (ite10.mpr q))
      have hgd : gdB h w9 = true := by unfold gdB; rw [hin1, hin2]; rfl
      have hnf := hw.1.2.2.2.2.1
      refine lv_iconst (v := 1) hx hb dX1_addFeature_21 (by decide) ?_
      refine lv_goto (tgt := 26) hx hb dX1_addFeature_22 (by decide) ?_
      refine lv_istore (lv' := [(5, .int 1), (0, .ref (hs 0)), (1, .int x), (2, .int y), (3, .int h), (4, .int w9)]) hx hb dX1_addFeature_26 hl (by decide) rfl (fun ls hl => ?_)
      refine lv_aload_n hx hb dX1_addFeature_28 rfl (lv_at hl 1 rfl) ?_
      refine lv_iload_n hx hb dX1_addFeature_29 rfl (lv_at hl 2 rfl) ?_
      refine lv_iload_n hx hb dX1_addFeature_30 rfl (lv_at hl 3 rfl) ?_
      refine lv_iload hx hb dX1_addFeature_31 (lv_at hl 0 rfl) ?_
      refine g_calliE wC_adr hG (g_runV (As := [.int x, .int y, .int 1]) (rest := []) ⟨hx, hb, hml, hown, hts⟩ wC_adr (kX1_changeError S x y 1 (he.ok hw)) wyX1_changeError q162 hG 0 rfl rfl ⟨by decide, by decide⟩ rfl rfl hl.1 (Nat.le_of_ble_eq_true rfl) ⟨Nat.le_refl 0, Nat.le_refl 0⟩ dX1_addFeature_33) (fun H locs hG => ?_)
      refine g_top (y := cErr G x y true) (chErr hw he x y true) ?_
      refine lv_istore (lv' := [(6, .int (cErr G x y true)), (5, .int 1), (0, .ref (hs 0)), (1, .int x), (2, .int y), (3, .int h), (4, .int w9)]) hx hb dX1_addFeature_36 hl (by decide) rfl (fun ls hl => ?_)
      refine lv_iload hx hb dX1_addFeature_38 (lv_at hl 0 rfl) ?_
      refine lv_if_eq (tgt := 46) hx hb dX1_addFeature_40 (by decide) (fun c_e => ?_) (fun c_e => ?_)
      · obtain ⟨h1, h2, h3⟩ := cErr_0 c_e
        have hc := has_c hw h1
        refine lv_aload_n hx hb dX1_addFeature_46 rfl (lv_at hl 2 rfl) ?_
        refine g_get hx hb hts hown hG inX1 0 rfl rfl 4 (by decide) q109 (v := .int (S 0 4)) rfl dX1_addFeature_47 ?_
        refine g_top (y := nI (G 0 2)) (he.1.2.2.1) ?_
        refine lv_bipush (v := 10) hx hb dX1_addFeature_50 (by decide) ?_
        refine lv_icmp_lt (tgt := 58) hx hb dX1_addFeature_52 (by decide) (fun c52 => ?_) (fun c52 => ?_)
        · have hfull : G 0 2 < 10 := (nI_ltI (b := 10) (by omega) (by decide)).mp c52
          refine lv_iload_n hx hb dX1_addFeature_58 rfl (lv_at hl 3 rfl) ?_
          refine lv_iload_n hx hb dX1_addFeature_59 rfl (lv_at hl 4 rfl) ?_
          refine g_stat (As := [.int x, .int y]) (rest := []) ⟨hx, hb, hml, hown, hts⟩ (kX1_cellAt x y) wyX1_cellAt q170 hG ⟨by decide, by decide⟩ rfl rfl hl.1 (Nat.le_of_ble_eq_true rfl) ⟨Nat.le_refl 0, Nat.le_refl 0⟩ dX1_addFeature_60 (fun H locs hG => ?_)
          refine g_top (y := nI (cN x y)) (cellC h1) ?_
          refine lv_istore (lv' := [(7, .int (nI (cN x y))), (6, .int (cErr G x y true)), (5, .int 1), (0, .ref (hs 0)), (1, .int x), (2, .int y), (3, .int h), (4, .int w9)]) hx hb dX1_addFeature_63 hl (by decide) rfl (fun ls hl => ?_)
          refine lv_aload_n hx hb dX1_addFeature_65 rfl (lv_at hl 3 rfl) ?_
          refine lv_iload hx hb dX1_addFeature_66 (lv_at hl 0 rfl) ?_
          refine lv_iconst (v := 4) hx hb dX1_addFeature_68 (by decide) ?_
          refine lv_iload_n hx hb dX1_addFeature_69 rfl (lv_at hl 6 rfl) ?_
          refine g_callvE wC_adr hG (g_runV (As := [.int (nI (cN x y)), .int 4, .int h]) (rest := []) ⟨hx, hb, hml, hown, hts⟩ wC_adr (kX1_setCell S (cN x y) 4 h hc) wyX1_setCell q173 hG 0 rfl rfl ⟨by decide, by decide⟩ rfl rfl hl.1 (Nat.le_of_ble_eq_true rfl) ⟨Nat.le_refl 0, Nat.le_refl 0⟩ dX1_addFeature_70) (fun H locs hG => ?_)
          refine lv_aload_n hx hb dX1_addFeature_73 rfl (lv_at hl 3 rfl) ?_
          refine g_get hx hb hts hown hG inX1 0 rfl rfl 5 (by decide) q110 (v := .ref (hs 5)) rfl dX1_addFeature_74 ?_
          refine lv_aload_n hx hb dX1_addFeature_77 rfl (lv_at hl 3 rfl) ?_
          refine g_get hx hb hts hown hG inX1 0 rfl rfl 4 (by decide) q109 (v := .int ((gX1_setCell S (cN x y) 4 h) 0 4)) rfl dX1_addFeature_78 ?_
          refine g_top (y := nI (G 0 2)) (he.1.2.2.1) ?_
          refine lv_iload hx hb dX1_addFeature_81 (lv_at hl 0 rfl) ?_
          refine g_astN (f := (gX1_setCell S (cN x y) 4 h) 5) hx hb hG 3 rfl (by decide) (G 0 2) (rfl) (by omega) (up2 (gX1_setCell S (cN x y) 4 h) 5 (G 0 2) (nI (cN x y))) (rfl) dX1_addFeature_83 (fun H locs hG => ?_)
          refine lv_aload_n hx hb dX1_addFeature_84 rfl (lv_at hl 3 rfl) ?_
          refine g_get hx hb hts hown hG inX1 0 rfl rfl 6 (by decide) q111 (v := .ref (hs 6)) rfl dX1_addFeature_85 ?_
          refine lv_aload_n hx hb dX1_addFeature_88 rfl (lv_at hl 3 rfl) ?_
          refine g_get hx hb hts hown hG inX1 0 rfl rfl 4 (by decide) q109 (v := .int ((up2 (gX1_setCell S (cN x y) 4 h) 5 (G 0 2) (nI (cN x y))) 0 4)) rfl dX1_addFeature_89 ?_
          refine g_top (y := nI (G 0 2)) (he.1.2.2.1) ?_
          refine lv_iload hx hb dX1_addFeature_92 (lv_at hl 7 rfl) ?_
          refine g_astN (f := (up2 (gX1_setCell S (cN x y) 4 h) 5 (G 0 2) (nI (cN x y))) 6) hx hb hG 4 rfl (by decide) (G 0 2) (rfl) (by omega) (up2 (up2 (gX1_setCell S (cN x y) 4 h) 5 (G 0 2) (nI (cN x y))) 6 (G 0 2) w9) (rfl) dX1_addFeature_94 (fun H locs hG => ?_)
          refine lv_aload_n hx hb dX1_addFeature_95 rfl (lv_at hl 3 rfl) ?_
          refine lv_dup hx hb dX1_addFeature_96 rfl ?_
          refine g_get hx hb hts hown hG inX1 0 rfl rfl 4 (by decide) q109 (v := .int ((up2 (up2 (gX1_setCell S (cN x y) 4 h) 5 (G 0 2) (nI (cN x y))) 6 (G 0 2) w9) 0 4)) rfl dX1_addFeature_97 ?_
          refine g_top (y := nI (G 0 2)) (he.1.2.2.1) ?_
          refine lv_iconst (v := 1) hx hb dX1_addFeature_100 (by decide) ?_
          refine lv_iadd hx hb dX1_addFeature_101 ?_
          refine g_put hx hb hts hown hG inX1 tyX1 tyX1_ok nmX1 0 rfl rfl 4 (by decide) q109 rfl (by decide +kernel) (Nat.le_of_ble_eq_true rfl) (up2 (up2 (up2 (gX1_setCell S (cN x y) 4 h) 5 (G 0 2) (nI (cN x y))) 6 (G 0 2) w9) 0 4 ((nI (G 0 2)) + 1)) rfl dX1_addFeature_102 (fun H locs hG => ?_)
          refine lv_aload_n hx hb dX1_addFeature_105 rfl (lv_at hl 3 rfl) ?_
          refine g_get hx hb hts hown hG inX1 0 rfl rfl 4 (by decide) q109 (v := .int ((up2 (up2 (up2 (gX1_setCell S (cN x y) 4 h) 5 (G 0 2) (nI (cN x y))) 6 (G 0 2) w9) 0 4 ((nI (G 0 2)) + 1)) 0 4)) rfl dX1_addFeature_106 ?_
          refine g_top (y := nI (G 0 2 + 1)) (nI_1 _) ?_
          refine lv_iconst (v := 1) hx hb dX1_addFeature_109 (by decide) ?_
          refine lv_isub hx hb dX1_addFeature_110 ?_
          refine g_top (y := nI (G 0 2)) (nI_pred _) ?_
          exact g_iret hx hb hr hlk hG ⟨by unfold F_add; rw [hgd, if_pos c_e, if_pos hfull], by unfold Tf_add; rw [hgd, if_pos c_e, if_pos hfull]; exact encC_add he (inB_n hin1).1 (inB_n hin2).1⟩ dX1_addFeature_111
        · have hfull : ¬ G 0 2 < 10 := fun q => c52 (nI_lt (b := 10) q (by decide))
          refine lv_bipush (v := (-5)) hx hb dX1_addFeature_55 (by decide) ?_
          exact g_iret hx hb hr hlk hG ⟨by unfold F_add; rw [hgd, if_pos c_e, if_neg hfull], by unfold Tf_add; rw [hgd, if_pos c_e, if_neg hfull]; exact he⟩ dX1_addFeature_57
      · refine lv_iload hx hb dX1_addFeature_43 (lv_at hl 0 rfl) ?_
        exact g_iret hx hb hr hlk hG ⟨by unfold F_add; rw [hgd, if_neg c_e], by unfold Tf_add; rw [hgd, if_neg c_e]; exact he⟩ dX1_addFeature_45
def fX1_areNeighbours (S : GS) (x : Int32) (y : Int32) : Int32 := if (if 0 ≤ ((fX1_columnOf x) - (fX1_columnOf y)) then (fX1_columnOf x) - (fX1_columnOf y) else 0 - ((fX1_columnOf x) - (fX1_columnOf y))) + (if 0 ≤ ((fX1_rowOf x) - (fX1_rowOf y)) then (fX1_rowOf x) - (fX1_rowOf y) else 0 - ((fX1_rowOf x) - (fX1_rowOf y))) = 1 then 1 else 0
set_option maxHeartbeats 4000000 in
set_option maxRecDepth 100000 in
theorem kX1_areNeighbours {l : Launch} {D : va_G} {cy : ClassId} {hs : Nat → Nat} {X : va_W} (S : GS) (x : Int32) (y : Int32) : Ct l D cy (wC cy hs X) yX1_areNeighbours cX1_areNeighbours 4 (some .boolean) 1 20 S [.int x, .int y] (QI D (wC cy hs X) (exI (fX1_areNeighbours S x y) (S))) := by
  refine Ct.of wC_adr (plainFor_of_name (by decide)) (Nat.le_of_ble_eq_true rfl) ?_
  intro p e s m below meth c ls C hl hG
  obtain ⟨hx, hb, hml, hown, hts, hr, hlk⟩ := C
  have hl : lv_has ls 4 [(0, .int x), (1, .int y)] := hl
  refine lv_iload_n hx hb dX1_areNeighbours_0 rfl (lv_at hl 0 rfl) ?_
  refine g_stat (As := [.int x]) (rest := []) ⟨hx, hb, hml, hown, hts⟩ (kX1_columnOf x) wyX1_columnOf q321 hG ⟨by decide, by decide⟩ rfl rfl hl.1 (Nat.le_of_ble_eq_true rfl) ⟨Nat.le_refl 0, Nat.le_refl 0⟩ dX1_areNeighbours_1 (fun H locs hG => ?_)
  refine lv_iload_n hx hb dX1_areNeighbours_4 rfl (lv_at hl 1 rfl) ?_
  refine g_stat (As := [.int y]) (rest := [.int (fX1_columnOf x)]) ⟨hx, hb, hml, hown, hts⟩ (kX1_columnOf y) wyX1_columnOf q321 hG ⟨by decide, by decide⟩ rfl rfl hl.1 (Nat.le_of_ble_eq_true rfl) ⟨Nat.le_refl 0, Nat.le_refl 0⟩ dX1_areNeighbours_5 (fun H locs hG => ?_)
  refine lv_isub hx hb dX1_areNeighbours_8 ?_
  refine va_mabs hx hb (hml.trans hl.1.symm) hown (hts _ q322) (hts _ q243) (hts _ q44) (hts _ q244) (Nat.le_of_ble_eq_true rfl) (Nat.le_of_ble_eq_true rfl) (Nat.le_refl _) (Nat.le_refl _) dX1_areNeighbours_9 ?_
  refine lv_istore_n (lv' := [(2, .int (if 0 ≤ ((fX1_columnOf x) - (fX1_columnOf y)) then (fX1_columnOf x) - (fX1_columnOf y) else 0 - ((fX1_columnOf x) - (fX1_columnOf y)))), (0, .int x), (1, .int y)]) hx hb dX1_areNeighbours_12 rfl hl (by decide) rfl (fun ls hl => ?_)
  refine lv_iload_n hx hb dX1_areNeighbours_13 rfl (lv_at hl 1 rfl) ?_
  refine g_stat (As := [.int x]) (rest := []) ⟨hx, hb, hml, hown, hts⟩ (kX1_rowOf x) wyX1_rowOf q323 hG ⟨by decide, by decide⟩ rfl rfl hl.1 (Nat.le_of_ble_eq_true rfl) ⟨Nat.le_refl 0, Nat.le_refl 0⟩ dX1_areNeighbours_14 (fun H locs hG => ?_)
  refine lv_iload_n hx hb dX1_areNeighbours_17 rfl (lv_at hl 2 rfl) ?_
  refine g_stat (As := [.int y]) (rest := [.int (fX1_rowOf x)]) ⟨hx, hb, hml, hown, hts⟩ (kX1_rowOf y) wyX1_rowOf q323 hG ⟨by decide, by decide⟩ rfl rfl hl.1 (Nat.le_of_ble_eq_true rfl) ⟨Nat.le_refl 0, Nat.le_refl 0⟩ dX1_areNeighbours_18 (fun H locs hG => ?_)
  refine lv_isub hx hb dX1_areNeighbours_21 ?_
  refine va_mabs hx hb (hml.trans hl.1.symm) hown (hts _ q322) (hts _ q243) (hts _ q44) (hts _ q244) (Nat.le_of_ble_eq_true rfl) (Nat.le_of_ble_eq_true rfl) (Nat.le_refl _) (Nat.le_refl _) dX1_areNeighbours_22 ?_
  refine lv_istore_n (lv' := [(3, .int (if 0 ≤ ((fX1_rowOf x) - (fX1_rowOf y)) then (fX1_rowOf x) - (fX1_rowOf y) else 0 - ((fX1_rowOf x) - (fX1_rowOf y)))), (2, .int (if 0 ≤ ((fX1_columnOf x) - (fX1_columnOf y)) then (fX1_columnOf x) - (fX1_columnOf y) else 0 - ((fX1_columnOf x) - (fX1_columnOf y)))), (0, .int x), (1, .int y)]) hx hb dX1_areNeighbours_25 rfl hl (by decide) rfl (fun ls hl => ?_)
  refine lv_iload_n hx hb dX1_areNeighbours_26 rfl (lv_at hl 1 rfl) ?_
  refine lv_iload_n hx hb dX1_areNeighbours_27 rfl (lv_at hl 0 rfl) ?_
  refine lv_iadd hx hb dX1_areNeighbours_28 ?_
  refine lv_iconst (v := 1) hx hb dX1_areNeighbours_29 (by decide) ?_
  refine lv_icmp_ne (tgt := 37) hx hb dX1_areNeighbours_30 (by decide) (fun c1 => ?_) (fun c1 => ?_)
  · refine lv_iconst (v := 0) hx hb dX1_areNeighbours_37 (by decide) ?_
    exact g_zret hx hb hr hlk hG rfl ⟨by unfold fX1_areNeighbours; rw [if_neg c1], rfl⟩ dX1_areNeighbours_38
  · refine lv_iconst (v := 1) hx hb dX1_areNeighbours_33 (by decide) ?_
    refine lv_goto (tgt := 38) hx hb dX1_areNeighbours_34 (by decide) ?_
    exact g_zret hx hb hr hlk hG rfl ⟨by unfold fX1_areNeighbours; rw [if_pos c1], rfl⟩ dX1_areNeighbours_38
theorem nbC (S : GS) {a b : Nat} (ha : a < 192) (hb : b < 192) : fX1_areNeighbours S (nI a) (nI b) = if nbB a b then 1 else 0 := by
  unfold fX1_areNeighbours
  rw [col_nI ha, col_nI hb, row_nI ha, row_nI hb, abs_nI (by omega) (by omega), abs_nI (by omega) (by omega), nI_add]
  have h1 := dXn_lt b a
  have h2 := dYn_lt hb ha
  have e : (nI (dXn b a + dYn b a) = 1) ↔ dXn b a + dYn b a = 1 := nI_eq (b := 1) (by omega) (by decide)
  show (if nI (dXn b a + dYn b a) = 1 then (1 : Int32) else 0) = _
  unfold nbB
  by_cases g : dXn b a + dYn b a = 1
  · rw [if_pos (e.mpr g), decide_eq_true g]; rfl
  · rw [if_neg (fun q => g (e.mp q)), decide_eq_false g]; rfl
set_option maxHeartbeats 4000000 in
set_option maxRecDepth 100000 in
theorem kX1_walkTo {l : Launch} {D : va_G} {cy : ClassId} {hs : Nat → Nat} {X : va_W} (G : GN) (S : GS) (hw : wf G) (he : encC G S) (x y : Int32) : Ct l D cy (wC cy hs X) yX1_walkTo cX1_walkTo 5 (some .int) 3 63 (S) [.ref (hs 0), .int x, .int y] (QI D (wC cy hs X) (fun r S' => r = F_walkTo G x y ∧ encC (Tf_walkTo G x y) S')) := by
  refine Ct.of wC_adr (plainFor_of_name (by decide)) (Nat.le_of_ble_eq_true rfl) ?_
  intro p e s m below meth c ls C hl hG
  obtain ⟨hx, hb, hml, hown, hts, hr, hlk⟩ := C
  have hl : lv_has ls 5 [(0, .ref (hs 0)), (1, .int x), (2, .int y)] := hl
  refine lv_aload_n hx hb dX1_walkTo_0 rfl (lv_at hl 0 rfl) ?_
  refine lv_iload_n hx hb dX1_walkTo_1 rfl (lv_at hl 1 rfl) ?_
  refine lv_iload_n hx hb dX1_walkTo_2 rfl (lv_at hl 2 rfl) ?_
  refine g_calliE wC_adr hG (g_runV (As := [.int x, .int y]) (rest := []) ⟨hx, hb, hml, hown, hts⟩ wC_adr (kX1_placeError S x y) wyX1_placeError q213 hG 0 rfl rfl ⟨by decide, by decide⟩ rfl rfl hl.1 (Nat.le_of_ble_eq_true rfl) ⟨Nat.le_refl 0, Nat.le_refl 0⟩ dX1_walkTo_3) (fun H locs hG => ?_)
  refine g_top (y := pErr G x y) (pErrC hw he x y) ?_
  refine lv_istore_n (lv' := [(3, .int (pErr G x y)), (0, .ref (hs 0)), (1, .int x), (2, .int y)]) hx hb dX1_walkTo_6 rfl hl (by decide) rfl (fun ls hl => ?_)
  refine lv_iload_n hx hb dX1_walkTo_7 rfl (lv_at hl 0 rfl) ?_
  refine lv_if_eq (tgt := 13) hx hb dX1_walkTo_8 (by decide) (fun c_e => ?_) (fun c_e => ?_)
  · obtain ⟨h1, h3⟩ := pErr_0 c_e
    have hc := has_c hw h1
    have hnw := hw.1.2.2.2.2.2.1
    refine lv_iload_n hx hb dX1_walkTo_13 rfl (lv_at hl 2 rfl) ?_
    refine lv_iload_n hx hb dX1_walkTo_14 rfl (lv_at hl 3 rfl) ?_
    refine g_stat (As := [.int x, .int y]) (rest := []) ⟨hx, hb, hml, hown, hts⟩ (kX1_cellAt x y) wyX1_cellAt q170 hG ⟨by decide, by decide⟩ rfl rfl hl.1 (Nat.le_of_ble_eq_true rfl) ⟨Nat.le_refl 0, Nat.le_refl 0⟩ dX1_walkTo_15 (fun H locs hG => ?_)
    refine g_top (y := nI (cN x y)) (cellC h1) ?_
    refine lv_istore (lv' := [(4, .int (nI (cN x y))), (3, .int (pErr G x y)), (0, .ref (hs 0)), (1, .int x), (2, .int y)]) hx hb dX1_walkTo_18 hl (by decide) rfl (fun ls hl => ?_)
    refine lv_aload_n hx hb dX1_walkTo_20 rfl (lv_at hl 2 rfl) ?_
    refine g_get hx hb hts hown hG inX1 0 rfl rfl 7 (by decide) q112 (v := .int (S 0 7)) rfl dX1_walkTo_21 ?_
    refine g_top (y := nI (G 0 3)) (he.1.2.2.2.1) ?_
    refine lv_if_le (tgt := 49) hx hb dX1_walkTo_24 (by decide) (fun c24 => ?_) (fun c24 => ?_)
    · have hfar : ¬ farB G (cN x y) = true := by unfold farB; rw [decide_eq_false (fun q => nI_nle q (by omega) c24), Bool.false_and]; decide
      refine lv_aload_n hx hb dX1_walkTo_49 rfl (lv_at hl 2 rfl) ?_
      refine g_get hx hb hts hown hG inX1 0 rfl rfl 7 (by decide) q112 (v := .int (S 0 7)) rfl dX1_walkTo_50 ?_
      refine g_top (y := nI (G 0 3)) (he.1.2.2.2.1) ?_
      refine lv_bipush (v := 40) hx hb dX1_walkTo_53 (by decide) ?_
      refine lv_icmp_lt (tgt := 61) hx hb dX1_walkTo_55 (by decide) (fun c55 => ?_) (fun c55 => ?_)
      · have hfull : G 0 3 < 40 := (nI_ltI (b := 40) (by omega) (by decide)).mp c55
        refine lv_aload_n hx hb dX1_walkTo_61 rfl (lv_at hl 2 rfl) ?_
        refine g_get hx hb hts hown hG inX1 0 rfl rfl 8 (by decide) q113 (v := .ref (hs 8)) rfl dX1_walkTo_62 ?_
        refine lv_aload_n hx hb dX1_walkTo_65 rfl (lv_at hl 2 rfl) ?_
        refine g_get hx hb hts hown hG inX1 0 rfl rfl 7 (by decide) q112 (v := .int (S 0 7)) rfl dX1_walkTo_66 ?_
        refine g_top (y := nI (G 0 3)) (he.1.2.2.2.1) ?_
        refine lv_iload hx hb dX1_walkTo_69 (lv_at hl 0 rfl) ?_
        refine g_astN (f := S 8) hx hb hG 5 rfl (by decide) (G 0 3) (rfl) (by omega) (up2 S 8 (G 0 3) (nI (cN x y))) (rfl) dX1_walkTo_71 (fun H locs hG => ?_)
        refine lv_aload_n hx hb dX1_walkTo_72 rfl (lv_at hl 2 rfl) ?_
        refine lv_dup hx hb dX1_walkTo_73 rfl ?_
        refine g_get hx hb hts hown hG inX1 0 rfl rfl 7 (by decide) q112 (v := .int ((up2 S 8 (G 0 3) (nI (cN x y))) 0 7)) rfl dX1_walkTo_74 ?_
        refine g_top (y := nI (G 0 3)) (he.1.2.2.2.1) ?_
        refine lv_iconst (v := 1) hx hb dX1_walkTo_77 (by decide) ?_
        refine lv_iadd hx hb dX1_walkTo_78 ?_
        refine g_put hx hb hts hown hG inX1 tyX1 tyX1_ok nmX1 0 rfl rfl 7 (by decide) q112 rfl (by decide +kernel) (Nat.le_of_ble_eq_true rfl) (up2 (up2 S 8 (G 0 3) (nI (cN x y))) 0 7 ((nI (G 0 3)) + 1)) rfl dX1_walkTo_79 (fun H locs hG => ?_)
        refine lv_aload_n hx hb dX1_walkTo_82 rfl (lv_at hl 2 rfl) ?_
        refine g_get hx hb hts hown hG inX1 0 rfl rfl 7 (by decide) q112 (v := .int ((up2 (up2 S 8 (G 0 3) (nI (cN x y))) 0 7 ((nI (G 0 3)) + 1)) 0 7)) rfl dX1_walkTo_83 ?_
        refine g_top (y := nI (G 0 3 + 1)) (nI_1 _) ?_
        exact g_iret hx hb hr hlk hG ⟨by unfold F_walkTo; rw [if_pos c_e, if_neg hfar, if_pos hfull], by unfold Tf_walkTo; rw [if_pos c_e, if_neg hfar, if_pos hfull]; exact encC_walk he⟩ dX1_walkTo_86
      · have hfull : ¬ G 0 3 < 40 := fun q => c55 (nI_lt (b := 40) q (by decide))
        refine lv_bipush (v := (-5)) hx hb dX1_walkTo_58 (by decide) ?_
        exact g_iret hx hb hr hlk hG ⟨by unfold F_walkTo; rw [if_pos c_e, if_neg hfar, if_neg hfull], by unfold Tf_walkTo; rw [if_pos c_e, if_neg hfar, if_neg hfull]; exact he⟩ dX1_walkTo_60
    · have hpos : 0 < G 0 3 := Nat.pos_of_ne_zero (fun q => c24 (by rw [q]; decide))
      refine lv_aload_n hx hb dX1_walkTo_27 rfl (lv_at hl 2 rfl) ?_
      refine g_get hx hb hts hown hG inX1 0 rfl rfl 8 (by decide) q113 (v := .ref (hs 8)) rfl dX1_walkTo_28 ?_
      refine lv_aload_n hx hb dX1_walkTo_31 rfl (lv_at hl 2 rfl) ?_
      refine g_get hx hb hts hown hG inX1 0 rfl rfl 7 (by decide) q112 (v := .int (S 0 7)) rfl dX1_walkTo_32 ?_
      refine g_top (y := nI (G 0 3)) (he.1.2.2.2.1) ?_
      refine lv_iconst (v := 1) hx hb dX1_walkTo_35 (by decide) ?_
      refine lv_isub hx hb dX1_walkTo_36 ?_
      refine g_aldN (f := S 8) hx hb hG 5 rfl (by decide) (G 0 3 - 1) (nI_m1 hpos) (by omega) dX1_walkTo_37 ?_
      refine g_top (y := nI (G 5 (G 0 3 - 1))) (he.2.2.2.2.1 _ (by omega)) ?_
      refine lv_iload hx hb dX1_walkTo_38 (lv_at hl 0 rfl) ?_
      refine g_calliE wC_adr hG (g_runS (As := [.int (nI (G 5 (G 0 3 - 1))), .int (nI (cN x y))]) (rest := []) ⟨hx, hb, hml, hown, hts⟩ wC_adr (kX1_areNeighbours S (nI (G 5 (G 0 3 - 1))) (nI (cN x y))) wyX1_areNeighbours q318 hG ⟨by decide, by decide⟩ rfl rfl hl.1 (Nat.le_of_ble_eq_true rfl) ⟨Nat.le_refl 0, Nat.le_refl 0⟩ dX1_walkTo_40) (fun H locs hG => ?_)
      refine g_top (y := if nbB (G 5 (G 0 3 - 1)) (cN x y) then 1 else 0) (nbC S (hw.2.2.2.1 _ (by omega)) hc) ?_
      refine lv_if_ne (tgt := 49) hx hb dX1_walkTo_43 (by decide) (fun c43 => ?_) (fun c43 => ?_)
      · have hfar : ¬ farB G (cN x y) = true := by unfold farB; rw [show nbB (G 5 (G 0 3 - 1)) (cN x y) = true from Classical.byContradiction (fun q => c43 (ite10.mpr q))]; simp
        refine lv_aload_n hx hb dX1_walkTo_49 rfl (lv_at hl 2 rfl) ?_
        refine g_get hx hb hts hown hG inX1 0 rfl rfl 7 (by decide) q112 (v := .int (S 0 7)) rfl dX1_walkTo_50 ?_
        refine g_top (y := nI (G 0 3)) (he.1.2.2.2.1) ?_
        refine lv_bipush (v := 40) hx hb dX1_walkTo_53 (by decide) ?_
        refine lv_icmp_lt (tgt := 61) hx hb dX1_walkTo_55 (by decide) (fun c55 => ?_) (fun c55 => ?_)
        · have hfull : G 0 3 < 40 := (nI_ltI (b := 40) (by omega) (by decide)).mp c55
          refine lv_aload_n hx hb dX1_walkTo_61 rfl (lv_at hl 2 rfl) ?_
          refine g_get hx hb hts hown hG inX1 0 rfl rfl 8 (by decide) q113 (v := .ref (hs 8)) rfl dX1_walkTo_62 ?_
          refine lv_aload_n hx hb dX1_walkTo_65 rfl (lv_at hl 2 rfl) ?_
          refine g_get hx hb hts hown hG inX1 0 rfl rfl 7 (by decide) q112 (v := .int (S 0 7)) rfl dX1_walkTo_66 ?_
          refine g_top (y := nI (G 0 3)) (he.1.2.2.2.1) ?_
          refine lv_iload hx hb dX1_walkTo_69 (lv_at hl 0 rfl) ?_
          refine g_astN (f := S 8) hx hb hG 5 rfl (by decide) (G 0 3) (rfl) (by omega) (up2 S 8 (G 0 3) (nI (cN x y))) (rfl) dX1_walkTo_71 (fun H locs hG => ?_)
          refine lv_aload_n hx hb dX1_walkTo_72 rfl (lv_at hl 2 rfl) ?_
          refine lv_dup hx hb dX1_walkTo_73 rfl ?_
          refine g_get hx hb hts hown hG inX1 0 rfl rfl 7 (by decide) q112 (v := .int ((up2 S 8 (G 0 3) (nI (cN x y))) 0 7)) rfl dX1_walkTo_74 ?_
          refine g_top (y := nI (G 0 3)) (he.1.2.2.2.1) ?_
          refine lv_iconst (v := 1) hx hb dX1_walkTo_77 (by decide) ?_
          refine lv_iadd hx hb dX1_walkTo_78 ?_
          refine g_put hx hb hts hown hG inX1 tyX1 tyX1_ok nmX1 0 rfl rfl 7 (by decide) q112 rfl (by decide +kernel) (Nat.le_of_ble_eq_true rfl) (up2 (up2 S 8 (G 0 3) (nI (cN x y))) 0 7 ((nI (G 0 3)) + 1)) rfl dX1_walkTo_79 (fun H locs hG => ?_)
          refine lv_aload_n hx hb dX1_walkTo_82 rfl (lv_at hl 2 rfl) ?_
          refine g_get hx hb hts hown hG inX1 0 rfl rfl 7 (by decide) q112 (v := .int ((up2 (up2 S 8 (G 0 3) (nI (cN x y))) 0 7 ((nI (G 0 3)) + 1)) 0 7)) rfl dX1_walkTo_83 ?_
          refine g_top (y := nI (G 0 3 + 1)) (nI_1 _) ?_
          exact g_iret hx hb hr hlk hG ⟨by unfold F_walkTo; rw [if_pos c_e, if_neg hfar, if_pos hfull], by unfold Tf_walkTo; rw [if_pos c_e, if_neg hfar, if_pos hfull]; exact encC_walk he⟩ dX1_walkTo_86
        · have hfull : ¬ G 0 3 < 40 := fun q => c55 (nI_lt (b := 40) q (by decide))
          refine lv_bipush (v := (-5)) hx hb dX1_walkTo_58 (by decide) ?_
          exact g_iret hx hb hr hlk hG ⟨by unfold F_walkTo; rw [if_pos c_e, if_neg hfar, if_neg hfull], by unfold Tf_walkTo; rw [if_pos c_e, if_neg hfar, if_neg hfull]; exact he⟩ dX1_walkTo_60
      · have hfar : farB G (cN x y) = true := by unfold farB; rw [show nbB (G 5 (G 0 3 - 1)) (cN x y) = false from by simpa using ite10.mp c43, decide_eq_true hpos]; rfl
        refine lv_bipush (v := (-6)) hx hb dX1_walkTo_46 (by decide) ?_
        exact g_iret hx hb hr hlk hG ⟨by unfold F_walkTo; rw [if_pos c_e, if_pos hfar], by unfold Tf_walkTo; rw [if_pos c_e, if_pos hfar]; exact he⟩ dX1_walkTo_48
  · refine lv_iload_n hx hb dX1_walkTo_11 rfl (lv_at hl 0 rfl) ?_
    exact g_iret hx hb hr hlk hG ⟨by unfold F_walkTo; rw [if_neg c_e], by unfold Tf_walkTo; rw [if_neg c_e]; exact he⟩ dX1_walkTo_12
set_option maxHeartbeats 4000000 in
set_option maxRecDepth 100000 in
theorem kX1_walkBack {l : Launch} {D : va_G} {cy : ClassId} {hs : Nat → Nat} {X : va_W} (G : GN) (S : GS) (hw : wf G) (he : encC G S) (n9 : Int32) : Ct l D cy (wC cy hs X) yX1_walkBack cX1_walkBack 2 (some .int) 1 22 (S) [.ref (hs 0), .int n9] (QI D (wC cy hs X) (fun r S' => r = F_walkBack G n9 ∧ encC (Tf_walkBack G n9) S')) := by
  refine Ct.of wC_adr (plainFor_of_name (by decide)) (Nat.le_of_ble_eq_true rfl) ?_
  intro p e s m below meth c ls C hl hG
  obtain ⟨hx, hb, hml, hown, hts, hr, hlk⟩ := C
  have hl : lv_has ls 2 [(0, .ref (hs 0)), (1, .int n9)] := hl
  refine lv_iload_n hx hb dX1_walkBack_0 rfl (lv_at hl 1 rfl) ?_
  refine lv_iconst (v := 0) hx hb dX1_walkBack_1 (by decide) ?_
  refine lv_aload_n hx hb dX1_walkBack_2 rfl (lv_at hl 0 rfl) ?_
  refine g_get hx hb hts hown hG inX1 0 rfl rfl 7 (by decide) q112 (v := .int (S 0 7)) rfl dX1_walkBack_3 ?_
  refine g_top (y := nI (G 0 3)) (he.1.2.2.2.1) ?_
  refine g_stat (As := [.int n9, .int 0, .int (nI (G 0 3))]) (rest := []) ⟨hx, hb, hml, hown, hts⟩ (kX1_inRange n9 0 (nI (G 0 3))) wyX1_inRange q152 hG ⟨by decide, by decide⟩ rfl rfl hl.1 (Nat.le_of_ble_eq_true rfl) ⟨Nat.le_refl 0, Nat.le_refl 0⟩ dX1_walkBack_6 (fun H locs hG => ?_)
  refine g_top (y := if wbB G n9 then 1 else 0) (inR (a := 0) (by decide) (by have := hw.1.2.2.2.2.2.1; omega)) ?_
  refine lv_if_ne (tgt := 15) hx hb dX1_walkBack_9 (by decide) (fun c9 => ?_) (fun c9 => ?_)
  · have hwb : wbB G n9 = true := Classical.byContradiction (fun q => c9 (ite10.mpr q))
    have hin := inB_n (a := 0) (b := G 0 3) hwb
    have hsub : nI (G 0 3) - n9 = nI (G 0 3 - nN n9) := by rw [← pk_sub hin.2.2, ← hin.1]
    refine lv_aload_n hx hb dX1_walkBack_15 rfl (lv_at hl 0 rfl) ?_
    refine lv_dup hx hb dX1_walkBack_16 rfl ?_
    refine g_get hx hb hts hown hG inX1 0 rfl rfl 7 (by decide) q112 (v := .int (S 0 7)) rfl dX1_walkBack_17 ?_
    refine g_top (y := nI (G 0 3)) (he.1.2.2.2.1) ?_
    refine lv_iload_n hx hb dX1_walkBack_20 rfl (lv_at hl 1 rfl) ?_
    refine lv_isub hx hb dX1_walkBack_21 ?_
    refine g_put hx hb hts hown hG inX1 tyX1 tyX1_ok nmX1 0 rfl rfl 7 (by decide) q112 rfl (by decide +kernel) (Nat.le_of_ble_eq_true rfl) (up2 S 0 7 ((nI (G 0 3)) - n9)) rfl dX1_walkBack_22 (fun H locs hG => ?_)
    refine lv_aload_n hx hb dX1_walkBack_25 rfl (lv_at hl 0 rfl) ?_
    refine g_get hx hb hts hown hG inX1 0 rfl rfl 7 (by decide) q112 (v := .int ((up2 S 0 7 ((nI (G 0 3)) - n9)) 0 7)) rfl dX1_walkBack_26 ?_
    refine g_top (y := nI (G 0 3) - n9) (rfl) ?_
    exact g_iret hx hb hr hlk hG ⟨by unfold F_walkBack; rw [if_pos hwb]; exact hsub, by unfold Tf_walkBack; rw [if_pos hwb]; exact encC_cnt3 he (by omega) hsub⟩ dX1_walkBack_29
  · refine lv_bipush (v := (-4)) hx hb dX1_walkBack_12 (by decide) ?_
    exact g_iret hx hb hr hlk hG ⟨by unfold F_walkBack; rw [if_neg (ite10.mp c9)], by unfold Tf_walkBack; rw [if_neg (ite10.mp c9)]; exact he⟩ dX1_walkBack_14
set_option maxHeartbeats 4000000 in
set_option maxRecDepth 100000 in
theorem kX1_wish {l : Launch} {D : va_G} {cy : ClassId} {hs : Nat → Nat} {X : va_W} (G : GN) (S : GS) (hw : wf G) (he : encC G S) (x y f : Int32) : Ct l D cy (wC cy hs X) yX1_wish cX1_wish 5 (some .int) 4 86 (S) [.ref (hs 0), .int x, .int y, .int f] (QI D (wC cy hs X) (fun r S' => r = F_wish G x y f ∧ encC (Tf_wish G x y f) S')) := by
  refine Ct.of wC_adr (plainFor_of_name (by decide)) (Nat.le_of_ble_eq_true rfl) ?_
  intro p e s m below meth c ls C hl hG
  obtain ⟨hx, hb, hml, hown, hts, hr, hlk⟩ := C
  have hl : lv_has ls 5 [(0, .ref (hs 0)), (1, .int x), (2, .int y), (3, .int f)] := hl
  refine lv_aload_n hx hb dX1_wish_0 rfl (lv_at hl 0 rfl) ?_
  refine lv_iload_n hx hb dX1_wish_1 rfl (lv_at hl 1 rfl) ?_
  refine lv_iload_n hx hb dX1_wish_2 rfl (lv_at hl 2 rfl) ?_
  refine lv_iload_n hx hb dX1_wish_3 rfl (lv_at hl 3 rfl) ?_
  refine g_calliE wC_adr hG (g_runV (As := [.int x, .int y, .int f]) (rest := []) ⟨hx, hb, hml, hown, hts⟩ wC_adr (kX1_viewError S x y f) wyX1_viewError q205 hG 0 rfl rfl ⟨by decide, by decide⟩ rfl rfl hl.1 (Nat.le_of_ble_eq_true rfl) ⟨Nat.le_refl 0, Nat.le_refl 0⟩ dX1_wish_4) (fun H locs hG => ?_)
  refine g_top (y := vErr G x y f) (vErrC hw he x y f) ?_
  refine lv_istore (lv' := [(4, .int (vErr G x y f)), (0, .ref (hs 0)), (1, .int x), (2, .int y), (3, .int f)]) hx hb dX1_wish_7 hl (by decide) rfl (fun ls hl => ?_)
  refine lv_iload hx hb dX1_wish_9 (lv_at hl 0 rfl) ?_
  refine lv_if_eq (tgt := 17) hx hb dX1_wish_11 (by decide) (fun c_e => ?_) (fun c_e => ?_)
  · obtain ⟨h1, h2, h3⟩ := vErr_0 c_e
    have hc := has_c hw h1
    have hfe := (ft_k h2).1
    have hk := (ft_k h2).2
    have hl : lv_has ls 5 [(4, .int (vErr G x y f)), (0, .ref (hs 0)), (1, .int x), (2, .int y), (3, .int (nI (nN f)))] := by rw [← hfe]; exact hl
    refine lv_aload_n hx hb dX1_wish_17 rfl (lv_at hl 1 rfl) ?_
    refine g_get hx hb hts hown hG inX1 0 rfl rfl 9 (by decide) q114 (v := .int (S 0 9)) rfl dX1_wish_18 ?_
    refine g_top (y := nI (G 0 4)) (he.1.2.2.2.2) ?_
    refine lv_bipush (v := 10) hx hb dX1_wish_21 (by decide) ?_
    refine lv_icmp_lt (tgt := 29) hx hb dX1_wish_23 (by decide) (fun c55 => ?_) (fun c55 => ?_)
    · have hnq := hw.1.2.2.2.2.2.2
      have hfull : G 0 4 < 10 := (nI_ltI (b := 10) (by omega) (by decide)).mp c55
      refine lv_aload_n hx hb dX1_wish_29 rfl (lv_at hl 1 rfl) ?_
      refine g_get hx hb hts hown hG inX1 0 rfl rfl 10 (by decide) q115 (v := .ref (hs 10)) rfl dX1_wish_30 ?_
      refine lv_aload_n hx hb dX1_wish_33 rfl (lv_at hl 1 rfl) ?_
      refine g_get hx hb hts hown hG inX1 0 rfl rfl 9 (by decide) q114 (v := .int (S 0 9)) rfl dX1_wish_34 ?_
      refine g_top (y := nI (G 0 4)) (he.1.2.2.2.2) ?_
      refine lv_iload_n hx hb dX1_wish_37 rfl (lv_at hl 2 rfl) ?_
      refine lv_iload_n hx hb dX1_wish_38 rfl (lv_at hl 3 rfl) ?_
      refine g_stat (As := [.int x, .int y]) (rest := [.int (nI (G 0 4)), .ref (hs 10)]) ⟨hx, hb, hml, hown, hts⟩ (kX1_cellAt x y) wyX1_cellAt q170 hG ⟨by decide, by decide⟩ rfl rfl hl.1 (Nat.le_of_ble_eq_true rfl) ⟨Nat.le_refl 0, Nat.le_refl 0⟩ dX1_wish_39 (fun H locs hG => ?_)
      refine g_top (y := nI (cN x y)) (cellC h1) ?_
      refine g_astN (f := S 10) hx hb hG 6 rfl (by decide) (G 0 4) (rfl) (by omega) (up2 S 10 (G 0 4) (nI (cN x y))) (rfl) dX1_wish_42 (fun H locs hG => ?_)
      refine lv_aload_n hx hb dX1_wish_43 rfl (lv_at hl 1 rfl) ?_
      refine g_get hx hb hts hown hG inX1 0 rfl rfl 11 (by decide) q116 (v := .ref (hs 11)) rfl dX1_wish_44 ?_
      refine lv_aload_n hx hb dX1_wish_47 rfl (lv_at hl 1 rfl) ?_
      refine g_get hx hb hts hown hG inX1 0 rfl rfl 9 (by decide) q114 (v := .int ((up2 S 10 (G 0 4) (nI (cN x y))) 0 9)) rfl dX1_wish_48 ?_
      refine g_top (y := nI (G 0 4)) (he.1.2.2.2.2) ?_
      refine lv_iload_n hx hb dX1_wish_51 rfl (lv_at hl 4 rfl) ?_
      refine g_astN (f := (up2 S 10 (G 0 4) (nI (cN x y))) 11) hx hb hG 7 rfl (by decide) (G 0 4) (rfl) (by omega) (up2 (up2 S 10 (G 0 4) (nI (cN x y))) 11 (G 0 4) (nI (nN f))) (rfl) dX1_wish_52 (fun H locs hG => ?_)
      refine lv_aload_n hx hb dX1_wish_53 rfl (lv_at hl 1 rfl) ?_
      refine lv_dup hx hb dX1_wish_54 rfl ?_
      refine g_get hx hb hts hown hG inX1 0 rfl rfl 9 (by decide) q114 (v := .int ((up2 (up2 S 10 (G 0 4) (nI (cN x y))) 11 (G 0 4) (nI (nN f))) 0 9)) rfl dX1_wish_55 ?_
      refine g_top (y := nI (G 0 4)) (he.1.2.2.2.2) ?_
      refine lv_iconst (v := 1) hx hb dX1_wish_58 (by decide) ?_
      refine lv_iadd hx hb dX1_wish_59 ?_
      refine g_put hx hb hts hown hG inX1 tyX1 tyX1_ok nmX1 0 rfl rfl 9 (by decide) q114 rfl (by decide +kernel) (Nat.le_of_ble_eq_true rfl) (up2 (up2 (up2 S 10 (G 0 4) (nI (cN x y))) 11 (G 0 4) (nI (nN f))) 0 9 ((nI (G 0 4)) + 1)) rfl dX1_wish_60 (fun H locs hG => ?_)
      refine lv_aload_n hx hb dX1_wish_63 rfl (lv_at hl 1 rfl) ?_
      refine g_get hx hb hts hown hG inX1 0 rfl rfl 9 (by decide) q114 (v := .int ((up2 (up2 (up2 S 10 (G 0 4) (nI (cN x y))) 11 (G 0 4) (nI (nN f))) 0 9 ((nI (G 0 4)) + 1)) 0 9)) rfl dX1_wish_64 ?_
      refine g_top (y := nI (G 0 4 + 1)) (nI_1 _) ?_
      refine lv_iconst (v := 1) hx hb dX1_wish_67 (by decide) ?_
      refine lv_isub hx hb dX1_wish_68 ?_
      refine g_top (y := nI (G 0 4)) (nI_pred _) ?_
      exact g_iret hx hb hr hlk hG ⟨by unfold F_wish; rw [if_pos c_e, if_pos hfull], by unfold Tf_wish; rw [if_pos c_e, if_pos hfull]; exact encC_wish he⟩ dX1_wish_69
    · have hfull : ¬ G 0 4 < 10 := fun q => c55 (nI_lt (b := 10) q (by decide))
      refine lv_bipush (v := (-5)) hx hb dX1_wish_26 (by decide) ?_
      exact g_iret hx hb hr hlk hG ⟨by unfold F_wish; rw [if_pos c_e, if_neg hfull], by unfold Tf_wish; rw [if_pos c_e, if_neg hfull]; exact he⟩ dX1_wish_28
  · refine lv_iload hx hb dX1_wish_14 (lv_at hl 0 rfl) ?_
    exact g_iret hx hb hr hlk hG ⟨by unfold F_wish; rw [if_neg c_e], by unfold Tf_wish; rw [if_neg c_e]; exact he⟩ dX1_wish_16
set_option maxHeartbeats 4000000 in
set_option maxRecDepth 100000 in
theorem kX1_clearWishes {l : Launch} {D : va_G} {cy : ClassId} {hs : Nat → Nat} {X : va_W} (G : GN) (S : GS) (hw : wf G) (he : encC G S) : Ct l D cy (wC cy hs X) yX1_clearWishes cX1_clearWishes 2 (some .int) 0 0 (S) [.ref (hs 0)] (QI D (wC cy hs X) (fun r S' => r = nI (G 0 4) ∧ encC (T_clear G) S')) := by
  refine Ct.of wC_adr (plainFor_of_name (by decide)) (Nat.le_of_ble_eq_true rfl) ?_
  intro p e s m below meth c ls C hl hG
  obtain ⟨hx, hb, hml, hown, hts, hr, hlk⟩ := C
  have hl : lv_has ls 2 [(0, .ref (hs 0))] := hl
  refine lv_aload_n hx hb dX1_clearWishes_0 rfl (lv_at hl 0 rfl) ?_
  refine g_get hx hb hts hown hG inX1 0 rfl rfl 9 (by decide) q114 (v := .int (S 0 9)) rfl dX1_clearWishes_1 ?_
  refine lv_istore_n (lv' := [(1, .int (S 0 9)), (0, .ref (hs 0))]) hx hb dX1_clearWishes_4 rfl hl (by decide) rfl (fun ls hl => ?_)
  refine lv_aload_n hx hb dX1_clearWishes_5 rfl (lv_at hl 1 rfl) ?_
  refine lv_iconst (v := 0) hx hb dX1_clearWishes_6 (by decide) ?_
  refine g_put hx hb hts hown hG inX1 tyX1 tyX1_ok nmX1 0 rfl rfl 9 (by decide) q114 rfl (by decide +kernel) (Nat.le_of_ble_eq_true rfl) (up2 S 0 9 0) rfl dX1_clearWishes_7 (fun H locs hG => ?_)
  refine lv_iload_n hx hb dX1_clearWishes_10 rfl (lv_at hl 0 rfl) ?_
  exact g_iret hx hb hr hlk hG (⟨he.1.2.2.2.2, encC_clear he⟩) dX1_clearWishes_11
