/-! ===== the reference: the garden's calls ===== -/
theorem inM {v : Int32} {a b : Nat} (ha : a < 2 ^ 31) (hb : b < 2 ^ 31) : fX2_in v (nI a) (nI b) = if inB v a b then 1 else 0 := by
  have h := inR (v := v) ha hb
  unfold fX1_inRange at h
  unfold fX2_in
  exact h
theorem encM_set {G : GN} {S : GS} (he : encM G S) {c K H : Nat} {kd ht : Int32} (hk : kd = nI K) (hh : ht = nI H) : encM (setN G c K H) (up2 (up2 S 2 c kd) 3 c ht) := by
  unfold encM
  rw [setN_o (a := 0) (by decide) (by decide), setN_o (a := 3) (by decide) (by decide), setN_o (a := 4) (by decide) (by decide), setN_o (a := 5) (by decide) (by decide), setN_o (a := 6) (by decide) (by decide), setN_o (a := 7) (by decide) (by decide)]
  refine ⟨he.1, fun i hi => ?_, fun i hi => ?_, he.2.2.2.1, he.2.2.2.2.1, he.2.2.2.2.2⟩
  · rw [setN_1]
    show upd (S 2) c kd i = _
    unfold upd
    by_cases g : i = c
    · rw [if_pos g, if_pos g, hk]
    · rw [if_neg g, if_neg g]; exact he.2.1 i hi
  · rw [setN_2]
    show upd (S 3) c ht i = _
    unfold upd
    by_cases g : i = c
    · rw [if_pos g, if_pos g, hh]
    · rw [if_neg g, if_neg g]; exact he.2.2.1 i hi
theorem encM_add {G : GN} {S : GS} (he : encM G S) {c h w : Nat} {ht wt x y : Int32} (hh : ht = nI h) (hwt : wt = nI w) (hx : x = nI (c % 16)) (hy : y = nI (c / 16)) : encM (T_add G c h w) (up2 (up2 (up2 (up2 (up2 (up2 S 2 c 4) 3 c ht) 5 (G 0 2) x) 6 (G 0 2) y) 7 (G 0 2) wt) 0 4 (nI (G 0 2) + 1)) := by
  have hs := encM_set he (c := c) (K := 4) (H := h) (kd := 4) rfl hh
  unfold encM
  rw [T_add_12 (a := 1) _ _ _ _ (by decide) (by decide) (by decide), T_add_12 (a := 2) _ _ _ _ (by decide) (by decide) (by decide), T_add_12 (a := 5) _ _ _ _ (by decide) (by decide) (by decide), T_add_12 (a := 6) _ _ _ _ (by decide) (by decide) (by decide), T_add_12 (a := 7) _ _ _ _ (by decide) (by decide) (by decide)]
  simp only [T_add_0, T_add_3, T_add_4]
  refine ⟨⟨he.1.1, he.1.2.1, nI_1 _, he.1.2.2.2.1, he.1.2.2.2.2⟩, hs.2.1, hs.2.2.1, fun k hk => ?_, fun i hi => he.2.2.2.2.1 i (by simpa using hi), fun i hi => he.2.2.2.2.2 i (by simpa using hi)⟩
  simp only [if_true] at hk
  show upd (S 5) (G 0 2) x k = _ ∧ upd (S 6) (G 0 2) y k = _ ∧ upd (S 7) (G 0 2) wt k = _
  unfold upd
  by_cases g : k = G 0 2
  · rw [if_pos g, if_pos g, if_pos g, if_pos g, if_pos g]; exact ⟨hx, hy, hwt⟩
  · rw [if_neg g, if_neg g, if_neg g, if_neg g, if_neg g]; exact he.2.2.2.1 k (by omega)
theorem encM_walk {G : GN} {S : GS} (he : encM G S) {c : Nat} {x y : Int32} (hx : x = nI (c % 16)) (hy : y = nI (c / 16)) : encM (T_walk G c) (up2 (up2 (up2 S 19 (G 0 3) x) 20 (G 0 3) y) 0 18 (nI (G 0 3) + 1)) := by
  unfold encM
  rw [T_walk_o (a := 1) _ _ (by decide) (by decide), T_walk_o (a := 2) _ _ (by decide) (by decide), T_walk_o (a := 3) _ _ (by decide) (by decide), T_walk_o (a := 4) _ _ (by decide) (by decide), T_walk_o (a := 6) _ _ (by decide) (by decide), T_walk_o (a := 7) _ _ (by decide) (by decide)]
  simp only [T_walk_0, T_walk_5]
  refine ⟨⟨he.1.1, he.1.2.1, he.1.2.2.1, nI_1 _, he.1.2.2.2.2⟩, he.2.1, he.2.2.1, fun k hk => he.2.2.2.1 k (by simpa using hk), fun i hi => ?_, fun i hi => he.2.2.2.2.2 i (by simpa using hi)⟩
  simp only [if_true] at hi
  show upd (S 19) (G 0 3) x i = _ ∧ upd (S 20) (G 0 3) y i = _
  unfold upd
  by_cases g : i = G 0 3
  · rw [if_pos g, if_pos g, if_pos g]; exact ⟨hx, hy⟩
  · rw [if_neg g, if_neg g, if_neg g]; exact he.2.2.2.2.1 i (by omega)
theorem encM_cnt3 {G : GN} {S : GS} (he : encM G S) {n : Nat} {v : Int32} (hn : n ≤ G 0 3) (hv : v = nI n) : encM (upN G 0 3 n) (up2 S 0 18 v) := by
  have e : ∀ i, upN G 0 3 n 0 i = if i = 3 then n else G 0 i := fun i => by
    by_cases g : i = 3
    · rw [if_pos g, g, upN_eq]
    · rw [if_neg g, upN_ne _ _ _ _ (Or.inr g)]
  unfold encM
  rw [upN_o (b := 1) _ _ _ _ (by decide), upN_o (b := 2) _ _ _ _ (by decide), upN_o (b := 3) _ _ _ _ (by decide), upN_o (b := 4) _ _ _ _ (by decide), upN_o (b := 5) _ _ _ _ (by decide), upN_o (b := 6) _ _ _ _ (by decide), upN_o (b := 7) _ _ _ _ (by decide)]
  simp only [e]
  refine ⟨⟨he.1.1, he.1.2.1, he.1.2.2.1, hv, he.1.2.2.2.2⟩, he.2.1, he.2.2.1, fun k hk => he.2.2.2.1 k (by simpa using hk), fun i hi => he.2.2.2.2.1 i ?_, fun i hi => he.2.2.2.2.2 i (by simpa using hi)⟩
  simp only [if_true] at hi; omega
theorem encM_wish {G : GN} {S : GS} (he : encM G S) {c k : Nat} {x y f : Int32} (hx : x = nI (c % 16)) (hy : y = nI (c / 16)) (hf : f = nI k) : encM (T_wish G c k) (up2 (up2 (up2 (up2 S 23 (G 0 4) x) 24 (G 0 4) y) 25 (G 0 4) f) 0 22 (nI (G 0 4) + 1)) := by
  unfold encM
  rw [T_wish_o (a := 1) _ _ _ (by decide) (by decide) (by decide), T_wish_o (a := 2) _ _ _ (by decide) (by decide) (by decide), T_wish_o (a := 3) _ _ _ (by decide) (by decide) (by decide), T_wish_o (a := 4) _ _ _ (by decide) (by decide) (by decide), T_wish_o (a := 5) _ _ _ (by decide) (by decide) (by decide)]
  simp only [T_wish_0, T_wish_6, T_wish_7]
  refine ⟨⟨he.1.1, he.1.2.1, he.1.2.2.1, he.1.2.2.2.1, nI_1 _⟩, he.2.1, he.2.2.1, fun k hk => he.2.2.2.1 k (by simpa using hk), fun i hi => he.2.2.2.2.1 i (by simpa using hi), fun i hi => ?_⟩
  simp only [if_true] at hi
  show upd (S 23) (G 0 4) x i = _ ∧ upd (S 24) (G 0 4) y i = _ ∧ upd (S 25) (G 0 4) f i = _
  unfold upd
  by_cases g : i = G 0 4
  · rw [if_pos g, if_pos g, if_pos g, if_pos g, if_pos g]; exact ⟨hx, hy, hf⟩
  · rw [if_neg g, if_neg g, if_neg g, if_neg g, if_neg g]; exact he.2.2.2.2.2 i (by omega)
theorem encM_clear {G : GN} {S : GS} (he : encM G S) : encM (T_clear G) (up2 S 0 22 0) := by
  unfold encM
  rw [T_clear_o (a := 1) _ (by decide), T_clear_o (a := 2) _ (by decide), T_clear_o (a := 3) _ (by decide), T_clear_o (a := 4) _ (by decide), T_clear_o (a := 5) _ (by decide), T_clear_o (a := 6) _ (by decide), T_clear_o (a := 7) _ (by decide)]
  simp only [T_clear_0]
  exact ⟨⟨he.1.1, he.1.2.1, he.1.2.2.1, he.1.2.2.2.1, rfl⟩, he.2.1, he.2.2.1, fun k hk => he.2.2.2.1 k (by simpa using hk), fun i hi => he.2.2.2.2.1 i (by simpa using hi), fun i hi => absurd hi (by simp)⟩
def newM (S : GS) (c r : Int32) : Prop := (S 0 0 = c ∧ S 0 1 = r ∧ S 0 4 = 0 ∧ S 0 18 = 0 ∧ S 0 22 = 0) ∧ (∀ i, i < 192 → S 2 i = 0) ∧ ∀ i, i < 192 → S 3 i = 0
theorem encM_new {S : GS} {c r : Nat} (h : newM S (nI c) (nI r)) : encM (T_new c r) S :=
  ⟨⟨h.1.1, h.1.2.1, h.1.2.2.1, h.1.2.2.2.1, h.1.2.2.2.2⟩, h.2.1, h.2.2, fun k hk => absurd (show k < 0 from hk) (by omega), fun k hk => absurd (show k < 0 from hk) (by omega), fun k hk => absurd (show k < 0 from hk) (by omega)⟩
theorem mny_step {G : GN} (hw : wf G) {c : Nat} (hc : c < 192) : nI (cntB (hdB G) c) + (if nI (G 1 c) = 2 then 1 else 0) = nI (cntB (hdB G) (c + 1)) := by
  show _ = nI (cntB (hdB G) c + (if hdB G c then 1 else 0))
  have h := (hw.c hc).1
  unfold hdB
  by_cases g : G 1 c = 2
  · rw [if_pos (show nI (G 1 c) = 2 by rw [g]; rfl), decide_eq_true g]; exact nI_1 _
  · rw [if_neg (show ¬ nI (G 1 c) = 2 from fun q => g ((nI_eq (b := 2) (by omega) (by decide)).mp q)), decide_eq_false g]; exact nI_add _ 0
theorem wlk_M {a b : Nat} (ha : a < 192) (hb : b < 192) : (fX2_size (nI (b % 16) - nI (a % 16)) + fX2_size (nI (b / 16) - nI (a / 16)) = 1) ↔ nbB a b = true := by
  have h1 := dXn_lt a b
  have h2 := dYn_lt ha hb
  have sx : sml (aXz a b) := by have := aX_sml a b; unfold sml; omega
  have sy : sml (aYz a b) := by have := aY_sml ha hb; unfold sml; omega
  rw [subX, subY, size_zI sx, size_zI sy, aX_abs, aY_abs, nI_add]
  have e : dXn b a + dYn b a = dXn a b + dYn a b := by
    have e1 : dXn b a = dXn a b := by unfold dXn; split <;> split <;> omega
    have e2 : dYn b a = dYn a b := by unfold dYn; split <;> split <;> omega
    rw [e1, e2]
  unfold nbB
  rw [decide_eq_true_eq, e]
  exact nI_eq (b := 1) (by omega) (by decide)
set_option maxHeartbeats 4000000 in
set_option maxRecDepth 100000 in
theorem kX2_kind {l : Launch} {D : va_G} {cy : ClassId} {hs : Nat → Nat} {X : va_W} (G : GN) (S : GS) (hw : wf G) (he : encM G S) (x y : Int32) : Ct l D cy (wM cy hs X) yX2_kind cX2_kind 3 (some .int) 2 44 (S) [.ref (hs 0), .int x, .int y] (QI D (wM cy hs X) (fun r S' => r = F_kind G x y ∧ encM G S')) := by
  refine Ct.of wM_adr (plainFor_of_name (by decide)) (Nat.le_of_ble_eq_true rfl) ?_
  intro p e s m below meth c ls C hl hG
  obtain ⟨hx, hb, hml, hown, hts, hr, hlk⟩ := C
  have hl : lv_has ls 3 [(0, .ref (hs 0)), (1, .int x), (2, .int y)] := hl
  refine lv_aload_n hx hb dX2_kind_0 rfl (lv_at hl 0 rfl) ?_
  refine lv_iload_n hx hb dX2_kind_1 rfl (lv_at hl 1 rfl) ?_
  refine lv_iload_n hx hb dX2_kind_2 rfl (lv_at hl 2 rfl) ?_
  refine g_calliE wM_adr hG (g_runV (As := [.int x, .int y]) (rest := []) ⟨hx, hb, hml, hown, hts⟩ wM_adr (kX2_noCell S x y) wyX2_noCell q485 hG 0 rfl rfl ⟨by decide, by decide⟩ rfl rfl hl.1 (Nat.le_of_ble_eq_true rfl) ⟨Nat.le_refl 0, Nat.le_refl 0⟩ dX2_kind_3) (fun H locs hG => ?_)
  refine g_top (y := if hasB G x y then 0 else 1) (noC hw he x y) ?_
  refine lv_if_eq (tgt := 13) hx hb dX2_kind_6 (by decide) (fun c6 => ?_) (fun c6 => ?_)
  · have h1 : hasB G x y = true := no01.mp c6
    have hc := has_c hw h1
    refine lv_aload_n hx hb dX2_kind_13 rfl (lv_at hl 0 rfl) ?_
    refine g_get hx hb hts hown hG inX2 0 rfl rfl 2 (by decide) q394 (v := .ref (hs 2)) rfl dX2_kind_14 ?_
    refine lv_bipush (v := 16) hx hb dX2_kind_17 (by decide) ?_
    refine lv_iload_n hx hb dX2_kind_19 rfl (lv_at hl 2 rfl) ?_
    refine lv_imul hx hb dX2_kind_20 ?_
    refine lv_iload_n hx hb dX2_kind_21 rfl (lv_at hl 1 rfl) ?_
    refine lv_iadd hx hb dX2_kind_22 ?_
    refine g_top (y := nI (cN x y)) (cellM h1) ?_
    refine g_aldN (f := S 2) hx hb hG 1 rfl (by decide) (cN x y) (rfl) (hc) dX2_kind_23 ?_
    refine g_top (y := nI (G 1 (cN x y))) (he.2.1 _ hc) ?_
    exact g_iret hx hb hr hlk hG ⟨by unfold F_kind; rw [if_pos h1], he⟩ dX2_kind_24
  · have h1 : ¬ hasB G x y = true := fun q => c6 (no01.mpr q)
    refine lv_iconst (v := (-1)) hx hb dX2_kind_9 (by decide) ?_
    refine lv_goto (tgt := 24) hx hb dX2_kind_10 (by decide) ?_
    exact g_iret hx hb hr hlk hG ⟨by unfold F_kind; rw [if_neg h1], he⟩ dX2_kind_24
set_option maxHeartbeats 4000000 in
set_option maxRecDepth 100000 in
theorem kX2_height {l : Launch} {D : va_G} {cy : ClassId} {hs : Nat → Nat} {X : va_W} (G : GN) (S : GS) (hw : wf G) (he : encM G S) (x y : Int32) : Ct l D cy (wM cy hs X) yX2_height cX2_height 3 (some .int) 2 44 (S) [.ref (hs 0), .int x, .int y] (QI D (wM cy hs X) (fun r S' => r = F_height G x y ∧ encM G S')) := by
  refine Ct.of wM_adr (plainFor_of_name (by decide)) (Nat.le_of_ble_eq_true rfl) ?_
  intro p e s m below meth c ls C hl hG
  obtain ⟨hx, hb, hml, hown, hts, hr, hlk⟩ := C
  have hl : lv_has ls 3 [(0, .ref (hs 0)), (1, .int x), (2, .int y)] := hl
  refine lv_aload_n hx hb dX2_height_0 rfl (lv_at hl 0 rfl) ?_
  refine lv_iload_n hx hb dX2_height_1 rfl (lv_at hl 1 rfl) ?_
  refine lv_iload_n hx hb dX2_height_2 rfl (lv_at hl 2 rfl) ?_
  refine g_calliE wM_adr hG (g_runV (As := [.int x, .int y]) (rest := []) ⟨hx, hb, hml, hown, hts⟩ wM_adr (kX2_noCell S x y) wyX2_noCell q485 hG 0 rfl rfl ⟨by decide, by decide⟩ rfl rfl hl.1 (Nat.le_of_ble_eq_true rfl) ⟨Nat.le_refl 0, Nat.le_refl 0⟩ dX2_height_3) (fun H locs hG => ?_)
  refine g_top (y := if hasB G x y then 0 else 1) (noC hw he x y) ?_
  refine lv_if_eq (tgt := 13) hx hb dX2_height_6 (by decide) (fun c6 => ?_) (fun c6 => ?_)
  · have h1 : hasB G x y = true := no01.mp c6
    have hc := has_c hw h1
    refine lv_aload_n hx hb dX2_height_13 rfl (lv_at hl 0 rfl) ?_
    refine g_get hx hb hts hown hG inX2 0 rfl rfl 3 (by decide) q395 (v := .ref (hs 3)) rfl dX2_height_14 ?_
    refine lv_bipush (v := 16) hx hb dX2_height_17 (by decide) ?_
    refine lv_iload_n hx hb dX2_height_19 rfl (lv_at hl 2 rfl) ?_
    refine lv_imul hx hb dX2_height_20 ?_
    refine lv_iload_n hx hb dX2_height_21 rfl (lv_at hl 1 rfl) ?_
    refine lv_iadd hx hb dX2_height_22 ?_
    refine g_top (y := nI (cN x y)) (cellM h1) ?_
    refine g_aldN (f := S 3) hx hb hG 2 rfl (by decide) (cN x y) (rfl) (hc) dX2_height_23 ?_
    refine g_top (y := nI (G 2 (cN x y))) (he.2.2.1 _ hc) ?_
    exact g_iret hx hb hr hlk hG ⟨by unfold F_height; rw [if_pos h1], he⟩ dX2_height_24
  · have h1 : ¬ hasB G x y = true := fun q => c6 (no01.mpr q)
    refine lv_iconst (v := (-1)) hx hb dX2_height_9 (by decide) ?_
    refine lv_goto (tgt := 24) hx hb dX2_height_10 (by decide) ?_
    exact g_iret hx hb hr hlk hG ⟨by unfold F_height; rw [if_neg h1], he⟩ dX2_height_24
set_option maxHeartbeats 4000000 in
set_option maxRecDepth 100000 in
theorem kX2_lay {l : Launch} {D : va_G} {cy : ClassId} {hs : Nat → Nat} {X : va_W} (G : GN) (S : GS) (hw : wf G) (he : encM G S) (x y k : Int32) : Ct l D cy (wM cy hs X) yX2_lay cX2_lay 6 (some .int) 2 44 (S) [.ref (hs 0), .int x, .int y, .int k] (QI D (wM cy hs X) (fun r S' => r = F_lay G x y k ∧ encM (Tf_lay G x y k) S')) := by
  refine Ct.of wM_adr (plainFor_of_name (by decide)) (Nat.le_of_ble_eq_true rfl) ?_
  intro p e s m below meth c ls C hl hG
  obtain ⟨hx, hb, hml, hown, hts, hr, hlk⟩ := C
  have hl : lv_has ls 6 [(0, .ref (hs 0)), (1, .int x), (2, .int y), (3, .int k)] := hl
  refine lv_aload_n hx hb dX2_lay_0 rfl (lv_at hl 0 rfl) ?_
  refine lv_iload_n hx hb dX2_lay_1 rfl (lv_at hl 1 rfl) ?_
  refine lv_iload_n hx hb dX2_lay_2 rfl (lv_at hl 2 rfl) ?_
  refine g_calliE wM_adr hG (g_runV (As := [.int x, .int y]) (rest := []) ⟨hx, hb, hml, hown, hts⟩ wM_adr (kX2_noCell S x y) wyX2_noCell q485 hG 0 rfl rfl ⟨by decide, by decide⟩ rfl rfl hl.1 (Nat.le_of_ble_eq_true rfl) ⟨Nat.le_refl 0, Nat.le_refl 0⟩ dX2_lay_3) (fun H locs hG => ?_)
  refine g_top (y := if hasB G x y then 0 else 1) (noC hw he x y) ?_
  refine lv_if_eq (tgt := 11) hx hb dX2_lay_6 (by decide) (fun c6 => ?_) (fun c6 => ?_)
  · have h1 : hasB G x y = true := no01.mp c6
    have hc := has_c hw h1
    refine lv_iload_n hx hb dX2_lay_11 rfl (lv_at hl 3 rfl) ?_
    refine lv_if_eq (tgt := 28) hx hb dX2_lay_12 (by decide) (fun k0 => ?_) (fun k0 => ?_)
    · have hg : pkB k = true := by unfold pkB; simp [k0]
      refine lv_bipush (v := 16) hx hb dX2_lay_28 (by decide) ?_
      refine lv_iload_n hx hb dX2_lay_30 rfl (lv_at hl 2 rfl) ?_
      refine lv_imul hx hb dX2_lay_31 ?_
      refine lv_iload_n hx hb dX2_lay_32 rfl (lv_at hl 1 rfl) ?_
      refine lv_iadd hx hb dX2_lay_33 ?_
      refine g_top (y := nI (cN x y)) (cellM h1) ?_
      refine lv_istore (lv' := [(4, .int (nI (cN x y))), (0, .ref (hs 0)), (1, .int x), (2, .int y), (3, .int k)]) hx hb dX2_lay_34 hl (by decide) rfl (fun ls hl => ?_)
      refine lv_aload_n hx hb dX2_lay_36 rfl (lv_at hl 1 rfl) ?_
      refine g_get hx hb hts hown hG inX2 0 rfl rfl 2 (by decide) q394 (v := .ref (hs 2)) rfl dX2_lay_37 ?_
      refine lv_iload hx hb dX2_lay_40 (lv_at hl 0 rfl) ?_
      refine g_aldN (f := S 2) hx hb hG 1 rfl (by decide) (cN x y) (rfl) (hc) dX2_lay_42 ?_
      refine g_top (y := nI (G 1 (cN x y))) (he.2.1 _ hc) ?_
      refine lv_istore (lv' := [(5, .int (nI (G 1 (cN x y)))), (4, .int (nI (cN x y))), (0, .ref (hs 0)), (1, .int x), (2, .int y), (3, .int k)]) hx hb dX2_lay_43 hl (by decide) rfl (fun ls hl => ?_)
      refine lv_iload hx hb dX2_lay_45 (lv_at hl 0 rfl) ?_
      refine lv_iconst (v := 4) hx hb dX2_lay_47 (by decide) ?_
      refine lv_icmp_ne (tgt := 54) hx hb dX2_lay_48 (by decide) (fun c48 => ?_) (fun c48 => ?_)
      · have h4 : ¬ G 1 (cN x y) = 4 := fun q => c48 (by rw [q]; rfl)
        have hce : cErr G x y (pkB k) = 0 := by unfold cErr; rw [if_pos h1, hg, if_pos rfl, if_neg h4]
        refine lv_aload_n hx hb dX2_lay_54 rfl (lv_at hl 2 rfl) ?_
        refine g_get hx hb hts hown hG inX2 0 rfl rfl 2 (by decide) q394 (v := .ref (hs 2)) rfl dX2_lay_55 ?_
        refine lv_iload hx hb dX2_lay_58 (lv_at hl 1 rfl) ?_
        refine lv_iload_n hx hb dX2_lay_60 rfl (lv_at hl 5 rfl) ?_
        refine g_astN (f := S 2) hx hb hG 1 rfl (by decide) (cN x y) (rfl) (hc) (up2 S 2 (cN x y) k) (rfl) dX2_lay_61 (fun H locs hG => ?_)
        refine lv_aload_n hx hb dX2_lay_62 rfl (lv_at hl 2 rfl) ?_
        refine g_get hx hb hts hown hG inX2 0 rfl rfl 3 (by decide) q395 (v := .ref (hs 3)) rfl dX2_lay_63 ?_
        refine lv_iload hx hb dX2_lay_66 (lv_at hl 1 rfl) ?_
        refine lv_iconst (v := 0) hx hb dX2_lay_68 (by decide) ?_
        refine g_astN (f := (up2 S 2 (cN x y) k) 3) hx hb hG 2 rfl (by decide) (cN x y) (rfl) (hc) (up2 (up2 S 2 (cN x y) k) 3 (cN x y) 0) (rfl) dX2_lay_69 (fun H locs hG => ?_)
        refine lv_iload hx hb dX2_lay_70 (lv_at hl 0 rfl) ?_
        exact g_iret hx hb hr hlk hG ⟨by unfold F_lay; rw [if_pos hce], by unfold Tf_lay; rw [if_pos hce]; exact encM_set he (pkB_n hg).1 rfl⟩ dX2_lay_72
      · have h4 : G 1 (cN x y) = 4 := (nI_eq (b := 4) (by have := (hw.c hc).1; omega) (by decide)).mp c48
        refine lv_bipush (v := (-6)) hx hb dX2_lay_51 (by decide) ?_
        have hcv : cErr G x y (pkB k) = (-6) := by unfold cErr; rw [if_pos h1, hg]; exact if_pos h4
        exact g_iret hx hb hr hlk hG ⟨by unfold F_lay; rw [hcv, if_neg (by decide)], by unfold Tf_lay; rw [hcv, if_neg (by decide)]; exact he⟩ dX2_lay_53
    · refine lv_iload_n hx hb dX2_lay_15 rfl (lv_at hl 3 rfl) ?_
      refine lv_iconst (v := 1) hx hb dX2_lay_16 (by decide) ?_
      refine lv_icmp_eq (tgt := 28) hx hb dX2_lay_17 (by decide) (fun k1 => ?_) (fun k1 => ?_)
      · have hg : pkB k = true := by unfold pkB; simp [k1]
        refine lv_bipush (v := 16) hx hb dX2_lay_28 (by decide) ?_
        refine lv_iload_n hx hb dX2_lay_30 rfl (lv_at hl 2 rfl) ?_
        refine lv_imul hx hb dX2_lay_31 ?_
        refine lv_iload_n hx hb dX2_lay_32 rfl (lv_at hl 1 rfl) ?_
        refine lv_iadd hx hb dX2_lay_33 ?_
        refine g_top (y := nI (cN x y)) (cellM h1) ?_
        refine lv_istore (lv' := [(4, .int (nI (cN x y))), (0, .ref (hs 0)), (1, .int x), (2, .int y), (3, .int k)]) hx hb dX2_lay_34 hl (by decide) rfl (fun ls hl => ?_)
        refine lv_aload_n hx hb dX2_lay_36 rfl (lv_at hl 1 rfl) ?_
        refine g_get hx hb hts hown hG inX2 0 rfl rfl 2 (by decide) q394 (v := .ref (hs 2)) rfl dX2_lay_37 ?_
        refine lv_iload hx hb dX2_lay_40 (lv_at hl 0 rfl) ?_
        refine g_aldN (f := S 2) hx hb hG 1 rfl (by decide) (cN x y) (rfl) (hc) dX2_lay_42 ?_
        refine g_top (y := nI (G 1 (cN x y))) (he.2.1 _ hc) ?_
        refine lv_istore (lv' := [(5, .int (nI (G 1 (cN x y)))), (4, .int (nI (cN x y))), (0, .ref (hs 0)), (1, .int x), (2, .int y), (3, .int k)]) hx hb dX2_lay_43 hl (by decide) rfl (fun ls hl => ?_)
        refine lv_iload hx hb dX2_lay_45 (lv_at hl 0 rfl) ?_
        refine lv_iconst (v := 4) hx hb dX2_lay_47 (by decide) ?_
        refine lv_icmp_ne (tgt := 54) hx hb dX2_lay_48 (by decide) (fun c48 => ?_) (fun c48 => ?_)
        · have h4 : ¬ G 1 (cN x y) = 4 := fun q => c48 (by rw [q]; rfl)
          have hce : cErr G x y (pkB k) = 0 := by unfold cErr; rw [if_pos h1, hg, if_pos rfl, if_neg h4]
          refine lv_aload_n hx hb dX2_lay_54 rfl (lv_at hl 2 rfl) ?_
          refine g_get hx hb hts hown hG inX2 0 rfl rfl 2 (by decide) q394 (v := .ref (hs 2)) rfl dX2_lay_55 ?_
          refine lv_iload hx hb dX2_lay_58 (lv_at hl 1 rfl) ?_
          refine lv_iload_n hx hb dX2_lay_60 rfl (lv_at hl 5 rfl) ?_
          refine g_astN (f := S 2) hx hb hG 1 rfl (by decide) (cN x y) (rfl) (hc) (up2 S 2 (cN x y) k) (rfl) dX2_lay_61 (fun H locs hG => ?_)
          refine lv_aload_n hx hb dX2_lay_62 rfl (lv_at hl 2 rfl) ?_
          refine g_get hx hb hts hown hG inX2 0 rfl rfl 3 (by decide) q395 (v := .ref (hs 3)) rfl dX2_lay_63 ?_
          refine lv_iload hx hb dX2_lay_66 (lv_at hl 1 rfl) ?_
          refine lv_iconst (v := 0) hx hb dX2_lay_68 (by decide) ?_
          refine g_astN (f := (up2 S 2 (cN x y) k) 3) hx hb hG 2 rfl (by decide) (cN x y) (rfl) (hc) (up2 (up2 S 2 (cN x y) k) 3 (cN x y) 0) (rfl) dX2_lay_69 (fun H locs hG => ?_)
          refine lv_iload hx hb dX2_lay_70 (lv_at hl 0 rfl) ?_
          exact g_iret hx hb hr hlk hG ⟨by unfold F_lay; rw [if_pos hce], by unfold Tf_lay; rw [if_pos hce]; exact encM_set he (pkB_n hg).1 rfl⟩ dX2_lay_72
        · have h4 : G 1 (cN x y) = 4 := (nI_eq (b := 4) (by have := (hw.c hc).1; omega) (by decide)).mp c48
          refine lv_bipush (v := (-6)) hx hb dX2_lay_51 (by decide) ?_
          have hcv : cErr G x y (pkB k) = (-6) := by unfold cErr; rw [if_pos h1, hg]; exact if_pos h4
          exact g_iret hx hb hr hlk hG ⟨by unfold F_lay; rw [hcv, if_neg (by decide)], by unfold Tf_lay; rw [hcv, if_neg (by decide)]; exact he⟩ dX2_lay_53
      · refine lv_iload_n hx hb dX2_lay_20 rfl (lv_at hl 3 rfl) ?_
        refine lv_iconst (v := 3) hx hb dX2_lay_21 (by decide) ?_
        refine lv_icmp_eq (tgt := 28) hx hb dX2_lay_22 (by decide) (fun k3 => ?_) (fun k3 => ?_)
        · have hg : pkB k = true := by unfold pkB; simp [k3]
          refine lv_bipush (v := 16) hx hb dX2_lay_28 (by decide) ?_
          refine lv_iload_n hx hb dX2_lay_30 rfl (lv_at hl 2 rfl) ?_
          refine lv_imul hx hb dX2_lay_31 ?_
          refine lv_iload_n hx hb dX2_lay_32 rfl (lv_at hl 1 rfl) ?_
          refine lv_iadd hx hb dX2_lay_33 ?_
          refine g_top (y := nI (cN x y)) (cellM h1) ?_
          refine lv_istore (lv' := [(4, .int (nI (cN x y))), (0, .ref (hs 0)), (1, .int x), (2, .int y), (3, .int k)]) hx hb dX2_lay_34 hl (by decide) rfl (fun ls hl => ?_)
          refine lv_aload_n hx hb dX2_lay_36 rfl (lv_at hl 1 rfl) ?_
          refine g_get hx hb hts hown hG inX2 0 rfl rfl 2 (by decide) q394 (v := .ref (hs 2)) rfl dX2_lay_37 ?_
          refine lv_iload hx hb dX2_lay_40 (lv_at hl 0 rfl) ?_
          refine g_aldN (f := S 2) hx hb hG 1 rfl (by decide) (cN x y) (rfl) (hc) dX2_lay_42 ?_
          refine g_top (y := nI (G 1 (cN x y))) (he.2.1 _ hc) ?_
          refine lv_istore (lv' := [(5, .int (nI (G 1 (cN x y)))), (4, .int (nI (cN x y))), (0, .ref (hs 0)), (1, .int x), (2, .int y), (3, .int k)]) hx hb dX2_lay_43 hl (by decide) rfl (fun ls hl => ?_)
          refine lv_iload hx hb dX2_lay_45 (lv_at hl 0 rfl) ?_
          refine lv_iconst (v := 4) hx hb dX2_lay_47 (by decide) ?_
          refine lv_icmp_ne (tgt := 54) hx hb dX2_lay_48 (by decide) (fun c48 => ?_) (fun c48 => ?_)
          · have h4 : ¬ G 1 (cN x y) = 4 := fun q => c48 (by rw [q]; rfl)
            have hce : cErr G x y (pkB k) = 0 := by unfold cErr; rw [if_pos h1, hg, if_pos rfl, if_neg h4]
            refine lv_aload_n hx hb dX2_lay_54 rfl (lv_at hl 2 rfl) ?_
            refine g_get hx hb hts hown hG inX2 0 rfl rfl 2 (by decide) q394 (v := .ref (hs 2)) rfl dX2_lay_55 ?_
            refine lv_iload hx hb dX2_lay_58 (lv_at hl 1 rfl) ?_
            refine lv_iload_n hx hb dX2_lay_60 rfl (lv_at hl 5 rfl) ?_
            refine g_astN (f := S 2) hx hb hG 1 rfl (by decide) (cN x y) (rfl) (hc) (up2 S 2 (cN x y) k) (rfl) dX2_lay_61 (fun H locs hG => ?_)
            refine lv_aload_n hx hb dX2_lay_62 rfl (lv_at hl 2 rfl) ?_
            refine g_get hx hb hts hown hG inX2 0 rfl rfl 3 (by decide) q395 (v := .ref (hs 3)) rfl dX2_lay_63 ?_
            refine lv_iload hx hb dX2_lay_66 (lv_at hl 1 rfl) ?_
            refine lv_iconst (v := 0) hx hb dX2_lay_68 (by decide) ?_
            refine g_astN (f := (up2 S 2 (cN x y) k) 3) hx hb hG 2 rfl (by decide) (cN x y) (rfl) (hc) (up2 (up2 S 2 (cN x y) k) 3 (cN x y) 0) (rfl) dX2_lay_69 (fun H locs hG => ?_)
            refine lv_iload hx hb dX2_lay_70 (lv_at hl 0 rfl) ?_
            exact g_iret hx hb hr hlk hG ⟨by unfold F_lay; rw [if_pos hce], by unfold Tf_lay; rw [if_pos hce]; exact encM_set he (pkB_n hg).1 rfl⟩ dX2_lay_72
          · have h4 : G 1 (cN x y) = 4 := (nI_eq (b := 4) (by have := (hw.c hc).1; omega) (by decide)).mp c48
            refine lv_bipush (v := (-6)) hx hb dX2_lay_51 (by decide) ?_
            have hcv : cErr G x y (pkB k) = (-6) := by unfold cErr; rw [if_pos h1, hg]; exact if_pos h4
            exact g_iret hx hb hr hlk hG ⟨by unfold F_lay; rw [hcv, if_neg (by decide)], by unfold Tf_lay; rw [hcv, if_neg (by decide)]; exact he⟩ dX2_lay_53
        · have hg : pkB k = false := by unfold pkB; simp [k0, k1, k3]
          refine lv_bipush (v := (-4)) hx hb dX2_lay_25 (by decide) ?_
          have hcv : cErr G x y (pkB k) = (-4) := by unfold cErr; rw [if_pos h1, hg]; rfl
          exact g_iret hx hb hr hlk hG ⟨by unfold F_lay; rw [hcv, if_neg (by decide)], by unfold Tf_lay; rw [hcv, if_neg (by decide)]; exact he⟩ dX2_lay_27
  · have h1 : ¬ hasB G x y = true := fun q => c6 (no01.mpr q)
    refine lv_iconst (v := (-1)) hx hb dX2_lay_9 (by decide) ?_
    have hcv : cErr G x y (pkB k) = (-1) := by unfold cErr; rw [if_neg h1]
    exact g_iret hx hb hr hlk hG ⟨by unfold F_lay; rw [hcv, if_neg (by decide)], by unfold Tf_lay; rw [hcv, if_neg (by decide)]; exact he⟩ dX2_lay_10
set_option maxHeartbeats 4000000 in
set_option maxRecDepth 100000 in
theorem kX2_plant {l : Launch} {D : va_G} {cy : ClassId} {hs : Nat → Nat} {X : va_W} (G : GN) (S : GS) (hw : wf G) (he : encM G S) (x y h : Int32) : Ct l D cy (wM cy hs X) yX2_plant cX2_plant 6 (some .int) 2 44 (S) [.ref (hs 0), .int x, .int y, .int h] (QI D (wM cy hs X) (fun r S' => r = F_plant G x y h ∧ encM (Tf_plant G x y h) S')) := by
  refine Ct.of wM_adr (plainFor_of_name (by decide)) (Nat.le_of_ble_eq_true rfl) ?_
  intro p e s m below meth c ls C hl hG
  obtain ⟨hx, hb, hml, hown, hts, hr, hlk⟩ := C
  have hl : lv_has ls 6 [(0, .ref (hs 0)), (1, .int x), (2, .int y), (3, .int h)] := hl
  refine lv_aload_n hx hb dX2_plant_0 rfl (lv_at hl 0 rfl) ?_
  refine lv_iload_n hx hb dX2_plant_1 rfl (lv_at hl 1 rfl) ?_
  refine lv_iload_n hx hb dX2_plant_2 rfl (lv_at hl 2 rfl) ?_
  refine g_calliE wM_adr hG (g_runV (As := [.int x, .int y]) (rest := []) ⟨hx, hb, hml, hown, hts⟩ wM_adr (kX2_noCell S x y) wyX2_noCell q485 hG 0 rfl rfl ⟨by decide, by decide⟩ rfl rfl hl.1 (Nat.le_of_ble_eq_true rfl) ⟨Nat.le_refl 0, Nat.le_refl 0⟩ dX2_plant_3) (fun H locs hG => ?_)
  refine g_top (y := if hasB G x y then 0 else 1) (noC hw he x y) ?_
  refine lv_if_eq (tgt := 11) hx hb dX2_plant_6 (by decide) (fun c6 => ?_) (fun c6 => ?_)
  · have h1 : hasB G x y = true := no01.mp c6
    have hc := has_c hw h1
    refine lv_iload_n hx hb dX2_plant_11 rfl (lv_at hl 3 rfl) ?_
    refine lv_iconst (v := 1) hx hb dX2_plant_12 (by decide) ?_
    refine lv_bipush (v := 40) hx hb dX2_plant_13 (by decide) ?_
    refine g_stat (As := [.int h, .int 1, .int 40]) (rest := []) ⟨hx, hb, hml, hown, hts⟩ (kX2_in h 1 40) wyX2_in q478 hG ⟨by decide, by decide⟩ rfl rfl hl.1 (Nat.le_of_ble_eq_true rfl) ⟨Nat.le_refl 0, Nat.le_refl 0⟩ dX2_plant_15 (fun H locs hG => ?_)
    refine g_top (y := if inB h 1 40 then 1 else 0) (inM (a := 1) (b := 40) (by decide) (by decide)) ?_
    refine lv_if_ne (tgt := 24) hx hb dX2_plant_18 (by decide) (fun c18 => ?_) (fun c18 => ?_)
    · have hg : inB h 1 40 = true := Classical.byContradiction (fun q => c18 (ite10.mpr q))
      refine lv_bipush (v := 16) hx hb dX2_plant_24 (by decide) ?_
      refine lv_iload_n hx hb dX2_plant_26 rfl (lv_at hl 2 rfl) ?_
      refine lv_imul hx hb dX2_plant_27 ?_
      refine lv_iload_n hx hb dX2_plant_28 rfl (lv_at hl 1 rfl) ?_
      refine lv_iadd hx hb dX2_plant_29 ?_
      refine g_top (y := nI (cN x y)) (cellM h1) ?_
      refine lv_istore (lv' := [(4, .int (nI (cN x y))), (0, .ref (hs 0)), (1, .int x), (2, .int y), (3, .int h)]) hx hb dX2_plant_30 hl (by decide) rfl (fun ls hl => ?_)
      refine lv_aload_n hx hb dX2_plant_32 rfl (lv_at hl 1 rfl) ?_
      refine g_get hx hb hts hown hG inX2 0 rfl rfl 2 (by decide) q394 (v := .ref (hs 2)) rfl dX2_plant_33 ?_
      refine lv_iload hx hb dX2_plant_36 (lv_at hl 0 rfl) ?_
      refine g_aldN (f := S 2) hx hb hG 1 rfl (by decide) (cN x y) (rfl) (hc) dX2_plant_38 ?_
      refine g_top (y := nI (G 1 (cN x y))) (he.2.1 _ hc) ?_
      refine lv_iconst (v := 4) hx hb dX2_plant_39 (by decide) ?_
      refine lv_icmp_ne (tgt := 46) hx hb dX2_plant_40 (by decide) (fun c40 => ?_) (fun c40 => ?_)
      · have h4 : ¬ G 1 (cN x y) = 4 := fun q => c40 (by rw [q]; rfl)
        have hce : cErr G x y (inB h 1 40) = 0 := by unfold cErr; rw [if_pos h1, hg, if_pos rfl, if_neg h4]
        refine lv_aload_n hx hb dX2_plant_46 rfl (lv_at hl 1 rfl) ?_
        refine g_get hx hb hts hown hG inX2 0 rfl rfl 3 (by decide) q395 (v := .ref (hs 3)) rfl dX2_plant_47 ?_
        refine lv_iload hx hb dX2_plant_50 (lv_at hl 0 rfl) ?_
        refine g_aldN (f := S 3) hx hb hG 2 rfl (by decide) (cN x y) (rfl) (hc) dX2_plant_52 ?_
        refine g_top (y := nI (G 2 (cN x y))) (he.2.2.1 _ hc) ?_
        refine lv_istore (lv' := [(5, .int (nI (G 2 (cN x y)))), (4, .int (nI (cN x y))), (0, .ref (hs 0)), (1, .int x), (2, .int y), (3, .int h)]) hx hb dX2_plant_53 hl (by decide) rfl (fun ls hl => ?_)
        refine lv_aload_n hx hb dX2_plant_55 rfl (lv_at hl 2 rfl) ?_
        refine g_get hx hb hts hown hG inX2 0 rfl rfl 2 (by decide) q394 (v := .ref (hs 2)) rfl dX2_plant_56 ?_
        refine lv_iload hx hb dX2_plant_59 (lv_at hl 1 rfl) ?_
        refine lv_iconst (v := 2) hx hb dX2_plant_61 (by decide) ?_
        refine g_astN (f := S 2) hx hb hG 1 rfl (by decide) (cN x y) (rfl) (hc) (up2 S 2 (cN x y) 2) (rfl) dX2_plant_62 (fun H locs hG => ?_)
        refine lv_aload_n hx hb dX2_plant_63 rfl (lv_at hl 2 rfl) ?_
        refine g_get hx hb hts hown hG inX2 0 rfl rfl 3 (by decide) q395 (v := .ref (hs 3)) rfl dX2_plant_64 ?_
        refine lv_iload hx hb dX2_plant_67 (lv_at hl 1 rfl) ?_
        refine lv_iload_n hx hb dX2_plant_69 rfl (lv_at hl 5 rfl) ?_
        refine g_astN (f := (up2 S 2 (cN x y) 2) 3) hx hb hG 2 rfl (by decide) (cN x y) (rfl) (hc) (up2 (up2 S 2 (cN x y) 2) 3 (cN x y) h) (rfl) dX2_plant_70 (fun H locs hG => ?_)
        refine lv_iload hx hb dX2_plant_71 (lv_at hl 0 rfl) ?_
        exact g_iret hx hb hr hlk hG ⟨by unfold F_plant; rw [if_pos hce], by unfold Tf_plant; rw [if_pos hce]; exact encM_set he rfl (inB_n hg).1⟩ dX2_plant_73
      · have h4 : G 1 (cN x y) = 4 := (nI_eq (b := 4) (by have := (hw.c hc).1; omega) (by decide)).mp c40
        refine lv_bipush (v := (-6)) hx hb dX2_plant_43 (by decide) ?_
        have hcv : cErr G x y (inB h 1 40) = (-6) := by unfold cErr; rw [if_pos h1, hg]; exact if_pos h4
        exact g_iret hx hb hr hlk hG ⟨by unfold F_plant; rw [hcv, if_neg (by decide)], by unfold Tf_plant; rw [hcv, if_neg (by decide)]; exact he⟩ dX2_plant_45
    · have hg : inB h 1 40 = false := by simpa using ite10.mp c18
      refine lv_bipush (v := (-4)) hx hb dX2_plant_21 (by decide) ?_
      have hcv : cErr G x y (inB h 1 40) = (-4) := by unfold cErr; rw [if_pos h1, hg]; rfl
      exact g_iret hx hb hr hlk hG ⟨by unfold F_plant; rw [hcv, if_neg (by decide)], by unfold Tf_plant; rw [hcv, if_neg (by decide)]; exact he⟩ dX2_plant_23
  · have h1 : ¬ hasB G x y = true := fun q => c6 (no01.mpr q)
    refine lv_iconst (v := (-1)) hx hb dX2_plant_9 (by decide) ?_
    have hcv : cErr G x y (inB h 1 40) = (-1) := by unfold cErr; rw [if_neg h1]
    exact g_iret hx hb hr hlk hG ⟨by unfold F_plant; rw [hcv, if_neg (by decide)], by unfold Tf_plant; rw [hcv, if_neg (by decide)]; exact he⟩ dX2_plant_10
set_option maxHeartbeats 4000000 in
set_option maxRecDepth 100000 in
theorem kX2_addFeature {l : Launch} {D : va_G} {cy : ClassId} {hs : Nat → Nat} {X : va_W} (G : GN) (S : GS) (hw : wf G) (he : encM G S) (x y h w9 : Int32) : Ct l D cy (wM cy hs X) yX2_addFeature cX2_addFeature 6 (some .int) 2 44 (S) [.ref (hs 0), .int x, .int y, .int h, .int w9] (QI D (wM cy hs X) (fun r S' => r = F_add G x y h w9 ∧ encM (Tf_add G x y h w9) S')) := by
  refine Ct.of wM_adr (plainFor_of_name (by decide)) (Nat.le_of_ble_eq_true rfl) ?_
  intro p e s m below meth c ls C hl hG
  obtain ⟨hx, hb, hml, hown, hts, hr, hlk⟩ := C
  have hl : lv_has ls 6 [(0, .ref (hs 0)), (1, .int x), (2, .int y), (3, .int h), (4, .int w9)] := hl
  refine lv_aload_n hx hb dX2_addFeature_0 rfl (lv_at hl 0 rfl) ?_
  refine lv_iload_n hx hb dX2_addFeature_1 rfl (lv_at hl 1 rfl) ?_
  refine lv_iload_n hx hb dX2_addFeature_2 rfl (lv_at hl 2 rfl) ?_
  refine g_calliE wM_adr hG (g_runV (As := [.int x, .int y]) (rest := []) ⟨hx, hb, hml, hown, hts⟩ wM_adr (kX2_noCell S x y) wyX2_noCell q485 hG 0 rfl rfl ⟨by decide, by decide⟩ rfl rfl hl.1 (Nat.le_of_ble_eq_true rfl) ⟨Nat.le_refl 0, Nat.le_refl 0⟩ dX2_addFeature_3) (fun H locs hG => ?_)
  refine g_top (y := if hasB G x y then 0 else 1) (noC hw he x y) ?_
  refine lv_if_eq (tgt := 11) hx hb dX2_addFeature_6 (by decide) (fun c6 => ?_) (fun c6 => ?_)
  · have h1 : hasB G x y = true := no01.mp c6
    have hc := has_c hw h1
    refine lv_iload_n hx hb dX2_addFeature_11 rfl (lv_at hl 3 rfl) ?_
    refine lv_iconst (v := 0) hx hb dX2_addFeature_12 (by decide) ?_
    refine lv_bipush (v := 60) hx hb dX2_addFeature_13 (by decide) ?_
    refine g_stat (As := [.int h, .int 0, .int 60]) (rest := []) ⟨hx, hb, hml, hown, hts⟩ (kX2_in h 0 60) wyX2_in q478 hG ⟨by decide, by decide⟩ rfl rfl hl.1 (Nat.le_of_ble_eq_true rfl) ⟨Nat.le_refl 0, Nat.le_refl 0⟩ dX2_addFeature_15 (fun H locs hG => ?_)
    refine g_top (y := if inB h 0 60 then 1 else 0) (inM (a := 0) (b := 60) (by decide) (by decide)) ?_
    refine lv_if_eq (tgt := 32) hx hb dX2_addFeature_18 (by decide) (fun c18 => ?_) (fun c18 => ?_)
    · have hg : gdB h w9 = false := by unfold gdB; rw [show inB h 0 60 = false from by simpa using ite10.mp c18, Bool.false_and]
      refine lv_bipush (v := (-4)) hx hb dX2_addFeature_32 (by decide) ?_
      have hcv : cErr G x y (gdB h w9) = (-4) := by unfold cErr; rw [if_pos h1, hg]; rfl
      exact g_iret hx hb hr hlk hG ⟨by unfold F_add; rw [hcv, if_neg (by decide)], by unfold Tf_add; rw [hcv, if_neg (by decide)]; exact he⟩ dX2_addFeature_34
    · refine lv_iload hx hb dX2_addFeature_21 (lv_at hl 4 rfl) ?_
      refine lv_iconst (v := 1) hx hb dX2_addFeature_23 (by decide) ?_
      refine lv_bipush (v := 9) hx hb dX2_addFeature_24 (by decide) ?_
      refine g_stat (As := [.int w9, .int 1, .int 9]) (rest := []) ⟨hx, hb, hml, hown, hts⟩ (kX2_in w9 1 9) wyX2_in q478 hG ⟨by decide, by decide⟩ rfl rfl hl.1 (Nat.le_of_ble_eq_true rfl) ⟨Nat.le_refl 0, Nat.le_refl 0⟩ dX2_addFeature_26 (fun H locs hG => ?_)
      refine g_top (y := if inB w9 1 9 then 1 else 0) (inM (a := 1) (b := 9) (by decide) (by decide)) ?_
      refine lv_if_ne (tgt := 35) hx hb dX2_addFeature_29 (by decide) (fun c29 => ?_) (fun c29 => ?_)
      · have hin1 : inB h 0 60 = true := Classical.byContradiction (fun q => c18 (ite10.mpr q))
        have hin2 : inB w9 1 9 = true := Classical.byContradiction (fun q => c29 (ite10.mpr q))
        have hg : gdB h w9 = true := by unfold gdB; rw [hin1, hin2]; rfl
        have hnf := hw.1.2.2.2.2.1
        refine lv_bipush (v := 16) hx hb dX2_addFeature_35 (by decide) ?_
        refine lv_iload_n hx hb dX2_addFeature_37 rfl (lv_at hl 2 rfl) ?_
        refine lv_imul hx hb dX2_addFeature_38 ?_
        refine lv_iload_n hx hb dX2_addFeature_39 rfl (lv_at hl 1 rfl) ?_
        refine lv_iadd hx hb dX2_addFeature_40 ?_
        refine g_top (y := nI (cN x y)) (cellM h1) ?_
        refine lv_istore (lv' := [(5, .int (nI (cN x y))), (0, .ref (hs 0)), (1, .int x), (2, .int y), (3, .int h), (4, .int w9)]) hx hb dX2_addFeature_41 hl (by decide) rfl (fun ls hl => ?_)
        refine lv_aload_n hx hb dX2_addFeature_43 rfl (lv_at hl 1 rfl) ?_
        refine g_get hx hb hts hown hG inX2 0 rfl rfl 2 (by decide) q394 (v := .ref (hs 2)) rfl dX2_addFeature_44 ?_
        refine lv_iload hx hb dX2_addFeature_47 (lv_at hl 0 rfl) ?_
        refine g_aldN (f := S 2) hx hb hG 1 rfl (by decide) (cN x y) (rfl) (hc) dX2_addFeature_49 ?_
        refine g_top (y := nI (G 1 (cN x y))) (he.2.1 _ hc) ?_
        refine lv_iconst (v := 4) hx hb dX2_addFeature_50 (by decide) ?_
        refine lv_icmp_ne (tgt := 57) hx hb dX2_addFeature_51 (by decide) (fun c51 => ?_) (fun c51 => ?_)
        · have h4 : ¬ G 1 (cN x y) = 4 := fun q => c51 (by rw [q]; rfl)
          have hce : cErr G x y (gdB h w9) = 0 := by unfold cErr; rw [if_pos h1, hg, if_pos rfl, if_neg h4]
          refine lv_aload_n hx hb dX2_addFeature_57 rfl (lv_at hl 1 rfl) ?_
          refine g_get hx hb hts hown hG inX2 0 rfl rfl 4 (by decide) q396 (v := .int (S 0 4)) rfl dX2_addFeature_58 ?_
          refine g_top (y := nI (G 0 2)) (he.1.2.2.1) ?_
          refine lv_bipush (v := 10) hx hb dX2_addFeature_61 (by decide) ?_
          refine lv_icmp_ne (tgt := 69) hx hb dX2_addFeature_63 (by decide) (fun c63 => ?_) (fun c63 => ?_)
          · have hfull : G 0 2 < 10 := Nat.lt_of_le_of_ne hnf (fun q => c63 (by rw [q]; rfl))
            refine lv_aload_n hx hb dX2_addFeature_69 rfl (lv_at hl 1 rfl) ?_
            refine g_get hx hb hts hown hG inX2 0 rfl rfl 2 (by decide) q394 (v := .ref (hs 2)) rfl dX2_addFeature_70 ?_
            refine lv_iload hx hb dX2_addFeature_73 (lv_at hl 0 rfl) ?_
            refine lv_iconst (v := 4) hx hb dX2_addFeature_75 (by decide) ?_
            refine g_astN (f := S 2) hx hb hG 1 rfl (by decide) (cN x y) (rfl) (hc) (up2 S 2 (cN x y) 4) (rfl) dX2_addFeature_76 (fun H locs hG => ?_)
            refine lv_aload_n hx hb dX2_addFeature_77 rfl (lv_at hl 1 rfl) ?_
            refine g_get hx hb hts hown hG inX2 0 rfl rfl 3 (by decide) q395 (v := .ref (hs 3)) rfl dX2_addFeature_78 ?_
            refine lv_iload hx hb dX2_addFeature_81 (lv_at hl 0 rfl) ?_
            refine lv_iload_n hx hb dX2_addFeature_83 rfl (lv_at hl 4 rfl) ?_
            refine g_astN (f := (up2 S 2 (cN x y) 4) 3) hx hb hG 2 rfl (by decide) (cN x y) (rfl) (hc) (up2 (up2 S 2 (cN x y) 4) 3 (cN x y) h) (rfl) dX2_addFeature_84 (fun H locs hG => ?_)
            refine lv_aload_n hx hb dX2_addFeature_85 rfl (lv_at hl 1 rfl) ?_
            refine g_get hx hb hts hown hG inX2 0 rfl rfl 5 (by decide) q397 (v := .ref (hs 5)) rfl dX2_addFeature_86 ?_
            refine lv_aload_n hx hb dX2_addFeature_89 rfl (lv_at hl 1 rfl) ?_
            refine g_get hx hb hts hown hG inX2 0 rfl rfl 4 (by decide) q396 (v := .int ((up2 (up2 S 2 (cN x y) 4) 3 (cN x y) h) 0 4)) rfl dX2_addFeature_90 ?_
            refine g_top (y := nI (G 0 2)) (he.1.2.2.1) ?_
            refine lv_iload_n hx hb dX2_addFeature_93 rfl (lv_at hl 2 rfl) ?_
            refine g_astN (f := (up2 (up2 S 2 (cN x y) 4) 3 (cN x y) h) 5) hx hb hG 3 rfl (by decide) (G 0 2) (rfl) (by omega) (up2 (up2 (up2 S 2 (cN x y) 4) 3 (cN x y) h) 5 (G 0 2) x) (rfl) dX2_addFeature_94 (fun H locs hG => ?_)
            refine lv_aload_n hx hb dX2_addFeature_95 rfl (lv_at hl 1 rfl) ?_
            refine g_get hx hb hts hown hG inX2 0 rfl rfl 6 (by decide) q398 (v := .ref (hs 6)) rfl dX2_addFeature_96 ?_
            refine lv_aload_n hx hb dX2_addFeature_99 rfl (lv_at hl 1 rfl) ?_
            refine g_get hx hb hts hown hG inX2 0 rfl rfl 4 (by decide) q396 (v := .int ((up2 (up2 (up2 S 2 (cN x y) 4) 3 (cN x y) h) 5 (G 0 2) x) 0 4)) rfl dX2_addFeature_100 ?_
            refine g_top (y := nI (G 0 2)) (he.1.2.2.1) ?_
            refine lv_iload_n hx hb dX2_addFeature_103 rfl (lv_at hl 3 rfl) ?_
            refine g_astN (f := (up2 (up2 (up2 S 2 (cN x y) 4) 3 (cN x y) h) 5 (G 0 2) x) 6) hx hb hG 4 rfl (by decide) (G 0 2) (rfl) (by omega) (up2 (up2 (up2 (up2 S 2 (cN x y) 4) 3 (cN x y) h) 5 (G 0 2) x) 6 (G 0 2) y) (rfl) dX2_addFeature_104 (fun H locs hG => ?_)
            refine lv_aload_n hx hb dX2_addFeature_105 rfl (lv_at hl 1 rfl) ?_
            refine g_get hx hb hts hown hG inX2 0 rfl rfl 7 (by decide) q399 (v := .ref (hs 7)) rfl dX2_addFeature_106 ?_
            refine lv_aload_n hx hb dX2_addFeature_109 rfl (lv_at hl 1 rfl) ?_
            refine g_get hx hb hts hown hG inX2 0 rfl rfl 4 (by decide) q396 (v := .int ((up2 (up2 (up2 (up2 S 2 (cN x y) 4) 3 (cN x y) h) 5 (G 0 2) x) 6 (G 0 2) y) 0 4)) rfl dX2_addFeature_110 ?_
            refine g_top (y := nI (G 0 2)) (he.1.2.2.1) ?_
            refine lv_iload hx hb dX2_addFeature_113 (lv_at hl 5 rfl) ?_
            refine g_astN (f := (up2 (up2 (up2 (up2 S 2 (cN x y) 4) 3 (cN x y) h) 5 (G 0 2) x) 6 (G 0 2) y) 7) hx hb hG 5 rfl (by decide) (G 0 2) (rfl) (by omega) (up2 (up2 (up2 (up2 (up2 S 2 (cN x y) 4) 3 (cN x y) h) 5 (G 0 2) x) 6 (G 0 2) y) 7 (G 0 2) w9) (rfl) dX2_addFeature_115 (fun H locs hG => ?_)
            refine lv_aload_n hx hb dX2_addFeature_116 rfl (lv_at hl 1 rfl) ?_
            refine lv_dup hx hb dX2_addFeature_117 rfl ?_
            refine g_get hx hb hts hown hG inX2 0 rfl rfl 4 (by decide) q396 (v := .int ((up2 (up2 (up2 (up2 (up2 S 2 (cN x y) 4) 3 (cN x y) h) 5 (G 0 2) x) 6 (G 0 2) y) 7 (G 0 2) w9) 0 4)) rfl dX2_addFeature_118 ?_
            refine g_top (y := nI (G 0 2)) (he.1.2.2.1) ?_
            refine lv_iconst (v := 1) hx hb dX2_addFeature_121 (by decide) ?_
            refine lv_iadd hx hb dX2_addFeature_122 ?_
            refine g_put hx hb hts hown hG inX2 tyX2 tyX2_ok nmX2 0 rfl rfl 4 (by decide) q396 rfl (by decide +kernel) (Nat.le_of_ble_eq_true rfl) (up2 (up2 (up2 (up2 (up2 (up2 S 2 (cN x y) 4) 3 (cN x y) h) 5 (G 0 2) x) 6 (G 0 2) y) 7 (G 0 2) w9) 0 4 ((nI (G 0 2)) + 1)) rfl dX2_addFeature_123 (fun H locs hG => ?_)
            refine lv_aload_n hx hb dX2_addFeature_126 rfl (lv_at hl 1 rfl) ?_
            refine g_get hx hb hts hown hG inX2 0 rfl rfl 4 (by decide) q396 (v := .int ((up2 (up2 (up2 (up2 (up2 (up2 S 2 (cN x y) 4) 3 (cN x y) h) 5 (G 0 2) x) 6 (G 0 2) y) 7 (G 0 2) w9) 0 4 ((nI (G 0 2)) + 1)) 0 4)) rfl dX2_addFeature_127 ?_
            refine g_top (y := nI (G 0 2 + 1)) (nI_1 _) ?_
            refine lv_iconst (v := 1) hx hb dX2_addFeature_130 (by decide) ?_
            refine lv_isub hx hb dX2_addFeature_131 ?_
            refine g_top (y := nI (G 0 2)) (nI_pred _) ?_
            exact g_iret hx hb hr hlk hG ⟨by unfold F_add; rw [if_pos hce, if_pos hfull], by unfold Tf_add; rw [if_pos hce, if_pos hfull]; exact encM_add he (inB_n hin1).1 (inB_n hin2).1 (xM hw h1) (yM hw h1)⟩ dX2_addFeature_132
          · have hfull : ¬ G 0 2 < 10 := fun q => absurd ((nI_eq (b := 10) (by omega) (by decide)).mp c63) (by omega)
            refine lv_bipush (v := (-5)) hx hb dX2_addFeature_66 (by decide) ?_
            exact g_iret hx hb hr hlk hG ⟨by unfold F_add; rw [if_pos hce, if_neg hfull], by unfold Tf_add; rw [if_pos hce, if_neg hfull]; exact he⟩ dX2_addFeature_68
        · have h4 : G 1 (cN x y) = 4 := (nI_eq (b := 4) (by have := (hw.c hc).1; omega) (by decide)).mp c51
          refine lv_bipush (v := (-6)) hx hb dX2_addFeature_54 (by decide) ?_
          have hcv : cErr G x y (gdB h w9) = (-6) := by unfold cErr; rw [if_pos h1, hg]; exact if_pos h4
          exact g_iret hx hb hr hlk hG ⟨by unfold F_add; rw [hcv, if_neg (by decide)], by unfold Tf_add; rw [hcv, if_neg (by decide)]; exact he⟩ dX2_addFeature_56
      · have hg : gdB h w9 = false := by unfold gdB; rw [show inB w9 1 9 = false from by simpa using ite10.mp c29, Bool.and_false]
        refine lv_bipush (v := (-4)) hx hb dX2_addFeature_32 (by decide) ?_
        have hcv : cErr G x y (gdB h w9) = (-4) := by unfold cErr; rw [if_pos h1, hg]; rfl
        exact g_iret hx hb hr hlk hG ⟨by unfold F_add; rw [hcv, if_neg (by decide)], by unfold Tf_add; rw [hcv, if_neg (by decide)]; exact he⟩ dX2_addFeature_34
  · have h1 : ¬ hasB G x y = true := fun q => c6 (no01.mpr q)
    refine lv_iconst (v := (-1)) hx hb dX2_addFeature_9 (by decide) ?_
    have hcv : cErr G x y (gdB h w9) = (-1) := by unfold cErr; rw [if_neg h1]
    exact g_iret hx hb hr hlk hG ⟨by unfold F_add; rw [hcv, if_neg (by decide)], by unfold Tf_add; rw [hcv, if_neg (by decide)]; exact he⟩ dX2_addFeature_10
set_option maxHeartbeats 4000000 in
set_option maxRecDepth 100000 in
theorem kX2_manyOf {l : Launch} {D : va_G} {cy : ClassId} {hs : Nat → Nat} {X : va_W} (G : GN) (S : GS) (hw : wf G) (he : encM G S) : Ct l D cy (wM cy hs X) yX2_manyOf cX2_manyOf 4 (some .int) 0 0 (S) [.ref (hs 0), .int 2] (QI D (wM cy hs X) (exI (nI (cntB (hdB G) 192)) S)) := by
  refine Ct.of wM_adr (plainFor_of_name (by decide)) (Nat.le_of_ble_eq_true rfl) ?_
  intro p e s m below meth c ls C hl hG
  obtain ⟨hx, hb, hml, hown, hts, hr, hlk⟩ := C
  have hl : lv_has ls 4 [(0, .ref (hs 0)), (1, .int 2)] := hl
  refine lv_iconst (v := 0) hx hb dX2_manyOf_0 (by decide) ?_
  refine lv_istore_n (lv' := [(2, .int 0), (0, .ref (hs 0)), (1, .int 2)]) hx hb dX2_manyOf_1 rfl hl (by decide) rfl (fun ls hl => ?_)
  refine lv_iconst (v := 0) hx hb dX2_manyOf_2 (by decide) ?_
  refine lv_istore_n (lv' := [(3, .int 0), (2, .int 0), (0, .ref (hs 0)), (1, .int 2)]) hx hb dX2_manyOf_3 rfl hl (by decide) rfl (fun ls hl => ?_)
  refine g_rec (τ := Nat) (fun j S9 => j ≤ 192 ∧ S9 = S) (fun j => 200 - j) (fun j => [(0, .ref (hs 0)), (1, .int 2), (2, .int (nI (cntB (hdB G) j))), (3, .int (nI j))]) 4 4 ?_ 0 _ _ _ _ (⟨by decide, rfl⟩) hG (lv_sub hl [2, 3, 1, 0] (rfl))
  intro x9 S9 H locs ls hI hG hl ih
  obtain ⟨hj, hS9⟩ := hI
  replace hG := hG.st hS9
  refine lv_iload_n hx hb dX2_manyOf_4 rfl (lv_at hl 3 rfl) ?_
  refine lv_sipush (v := 192) hx hb dX2_manyOf_5 (by decide) ?_
  refine lv_icmp_ge (tgt := 35) hx hb dX2_manyOf_8 (by decide) (fun c8 => ?_) (fun c8 => ?_)
  · have hjl : 192 ≤ x9 := (nI_leI (a := 192) (by omega) (by omega)).mp c8
    refine lv_iload_n hx hb dX2_manyOf_35 rfl (lv_at hl 2 rfl) ?_
    exact g_iret hx hb hr hlk hG (⟨by rw [show x9 = 192 by omega], rfl⟩) dX2_manyOf_36
  · have hjl : x9 < 192 := Nat.lt_of_not_le (fun q => c8 (nI_le (a := 192) q (by omega)))
    refine lv_iload_n hx hb dX2_manyOf_11 rfl (lv_at hl 2 rfl) ?_
    refine lv_aload_n hx hb dX2_manyOf_12 rfl (lv_at hl 0 rfl) ?_
    refine g_get hx hb hts hown hG inX2 0 rfl rfl 2 (by decide) q394 (v := .ref (hs 2)) rfl dX2_manyOf_13 ?_
    refine lv_iload_n hx hb dX2_manyOf_16 rfl (lv_at hl 3 rfl) ?_
    refine g_aldN (f := S 2) hx hb hG 1 rfl (by decide) (x9) (rfl) (hjl) dX2_manyOf_17 ?_
    refine g_top (y := nI (G 1 x9)) (he.2.1 x9 hjl) ?_
    refine lv_iload_n hx hb dX2_manyOf_18 rfl (lv_at hl 1 rfl) ?_
    refine g_dia (P := nI (G 1 x9) = 2) (J := 27) (A9 := 1) (B9 := 0) (ls9 := ls) (rest9 := [.int (nI (cntB (hdB G) x9))]) (fun ka2 kb3 => ?_) ?_
    · refine lv_icmp_ne (tgt := 26) hx hb dX2_manyOf_19 (by decide) (fun c1 => ?_) (fun c1 => ?_)
      · refine lv_iconst (v := 0) hx hb dX2_manyOf_26 (by decide) ?_
        exact kb3 c1
      · refine lv_iconst (v := 1) hx hb dX2_manyOf_22 (by decide) ?_
        refine lv_goto (tgt := 27) hx hb dX2_manyOf_23 (by decide) ?_
        exact ka2 c1
    refine lv_iadd hx hb dX2_manyOf_27 ?_
    refine g_top (y := nI (cntB (hdB G) (x9 + 1))) (mny_step hw hjl) ?_
    refine lv_istore_n (lv' := [(2, .int (nI (cntB (hdB G) (x9 + 1)))), (0, .ref (hs 0)), (1, .int 2), (3, .int (nI x9))]) hx hb dX2_manyOf_28 rfl hl (by decide) rfl (fun ls hl => ?_)
    refine lv_iinc (v := nI (x9 + 1)) (lv' := [(3, .int (nI (x9 + 1))), (2, .int (nI (cntB (hdB G) (x9 + 1)))), (0, .ref (hs 0)), (1, .int 2)]) hx hb dX2_manyOf_29 hl (k := 3) rfl (nI_1 x9) (by decide) rfl (fun ls hl => ?_)
    refine lv_goto (tgt := 4) hx hb dX2_manyOf_32 (by decide) ?_
    exact ih (x9 + 1) _ _ _ _ (by omega) ⟨by omega, rfl⟩ hG (lv_sub hl [2, 3, 1, 0] rfl)
set_option maxHeartbeats 4000000 in
set_option maxRecDepth 100000 in
theorem kX2_count {l : Launch} {D : va_G} {cy : ClassId} {hs : Nat → Nat} {X : va_W} (G : GN) (S : GS) (hw : wf G) (he : encM G S) (w9 : Int32) : Ct l D cy (wM cy hs X) yX2_count cX2_count 2 (some .int) 1 23 (S) [.ref (hs 0), .int w9] (QI D (wM cy hs X) (fun r S' => r = F_count G w9 ∧ encM G S')) := by
  refine Ct.of wM_adr (plainFor_of_name (by decide)) (Nat.le_of_ble_eq_true rfl) ?_
  intro p e s m below meth c ls C hl hG
  obtain ⟨hx, hb, hml, hown, hts, hr, hlk⟩ := C
  have hl : lv_has ls 2 [(0, .ref (hs 0)), (1, .int w9)] := hl
  refine lv_iload_n hx hb dX2_count_0 rfl (lv_at hl 1 rfl) ?_
  refine lv_if_ne (tgt := 11) hx hb dX2_count_1 (by decide) (fun h0 => ?_) (fun h0 => ?_)
  · refine lv_iload_n hx hb dX2_count_11 rfl (lv_at hl 1 rfl) ?_
    refine lv_iconst (v := 1) hx hb dX2_count_12 (by decide) ?_
    refine lv_icmp_ne (tgt := 24) hx hb dX2_count_13 (by decide) (fun h1 => ?_) (fun h1 => ?_)
    · refine lv_iload_n hx hb dX2_count_24 rfl (lv_at hl 1 rfl) ?_
      refine lv_iconst (v := 2) hx hb dX2_count_25 (by decide) ?_
      refine lv_icmp_ne (tgt := 36) hx hb dX2_count_26 (by decide) (fun h2 => ?_) (fun h2 => ?_)
      · refine lv_iload_n hx hb dX2_count_36 rfl (lv_at hl 1 rfl) ?_
        refine lv_iconst (v := 3) hx hb dX2_count_37 (by decide) ?_
        refine lv_icmp_ne (tgt := 48) hx hb dX2_count_38 (by decide) (fun h3 => ?_) (fun h3 => ?_)
        · refine lv_bipush (v := (-4)) hx hb dX2_count_48 (by decide) ?_
          exact g_iret hx hb hr hlk hG ⟨by unfold F_count; rw [if_neg h0, if_neg h1, if_neg h2, if_neg h3], he⟩ dX2_count_50
        · refine lv_aload_n hx hb dX2_count_41 rfl (lv_at hl 0 rfl) ?_
          refine g_get hx hb hts hown hG inX2 0 rfl rfl 22 (by decide) q414 (v := .int (S 0 22)) rfl dX2_count_42 ?_
          refine lv_goto (tgt := 50) hx hb dX2_count_45 (by decide) ?_
          exact g_iret hx hb hr hlk hG ⟨by unfold F_count; rw [if_neg h0, if_neg h1, if_neg h2, if_pos h3]; exact he.1.2.2.2.2, he⟩ dX2_count_50
      · refine lv_aload_n hx hb dX2_count_29 rfl (lv_at hl 0 rfl) ?_
        refine g_get hx hb hts hown hG inX2 0 rfl rfl 18 (by decide) q410 (v := .int (S 0 18)) rfl dX2_count_30 ?_
        refine lv_goto (tgt := 50) hx hb dX2_count_33 (by decide) ?_
        exact g_iret hx hb hr hlk hG ⟨by unfold F_count; rw [if_neg h0, if_neg h1, if_pos h2]; exact he.1.2.2.2.1, he⟩ dX2_count_50
    · refine lv_aload_n hx hb dX2_count_16 rfl (lv_at hl 0 rfl) ?_
      refine lv_iconst (v := 2) hx hb dX2_count_17 (by decide) ?_
      refine g_calliE wM_adr hG (g_runV (As := [.int 2]) (rest := []) ⟨hx, hb, hml, hown, hts⟩ wM_adr (kX2_manyOf G S hw he) wyX2_manyOf q509 hG 0 rfl rfl ⟨by decide, by decide⟩ rfl rfl hl.1 (Nat.le_of_ble_eq_true rfl) ⟨Nat.le_refl 0, Nat.le_refl 0⟩ dX2_count_18) (fun H locs hG => ?_)
      refine lv_goto (tgt := 50) hx hb dX2_count_21 (by decide) ?_
      exact g_iret hx hb hr hlk hG ⟨by unfold F_count; rw [if_neg h0, if_pos h1], he⟩ dX2_count_50
  · refine lv_aload_n hx hb dX2_count_4 rfl (lv_at hl 0 rfl) ?_
    refine g_get hx hb hts hown hG inX2 0 rfl rfl 4 (by decide) q396 (v := .int (S 0 4)) rfl dX2_count_5 ?_
    refine lv_goto (tgt := 50) hx hb dX2_count_8 (by decide) ?_
    exact g_iret hx hb hr hlk hG ⟨by unfold F_count; rw [if_pos h0]; exact he.1.2.2.1, he⟩ dX2_count_50
set_option maxHeartbeats 4000000 in
set_option maxRecDepth 100000 in
theorem kX2_walkTo {l : Launch} {D : va_G} {cy : ClassId} {hs : Nat → Nat} {X : va_W} (G : GN) (S : GS) (hw : wf G) (he : encM G S) (x y : Int32) : Ct l D cy (wM cy hs X) yX2_walkTo cX2_walkTo 3 (some .int) 2 44 (S) [.ref (hs 0), .int x, .int y] (QI D (wM cy hs X) (fun r S' => r = F_walkTo G x y ∧ encM (Tf_walkTo G x y) S')) := by
  refine Ct.of wM_adr (plainFor_of_name (by decide)) (Nat.le_of_ble_eq_true rfl) ?_
  intro p e s m below meth c ls C hl hG
  obtain ⟨hx, hb, hml, hown, hts, hr, hlk⟩ := C
  have hl : lv_has ls 3 [(0, .ref (hs 0)), (1, .int x), (2, .int y)] := hl
  refine lv_aload_n hx hb dX2_walkTo_0 rfl (lv_at hl 0 rfl) ?_
  refine lv_iload_n hx hb dX2_walkTo_1 rfl (lv_at hl 1 rfl) ?_
  refine lv_iload_n hx hb dX2_walkTo_2 rfl (lv_at hl 2 rfl) ?_
  refine g_calliE wM_adr hG (g_runV (As := [.int x, .int y]) (rest := []) ⟨hx, hb, hml, hown, hts⟩ wM_adr (kX2_noCell S x y) wyX2_noCell q485 hG 0 rfl rfl ⟨by decide, by decide⟩ rfl rfl hl.1 (Nat.le_of_ble_eq_true rfl) ⟨Nat.le_refl 0, Nat.le_refl 0⟩ dX2_walkTo_3) (fun H locs hG => ?_)
  refine g_top (y := if hasB G x y then 0 else 1) (noC hw he x y) ?_
  refine lv_if_eq (tgt := 11) hx hb dX2_walkTo_6 (by decide) (fun c6 => ?_) (fun c6 => ?_)
  · have h1 : hasB G x y = true := no01.mp c6
    have hc := has_c hw h1
    have exx : nI (cN x y % 16) = x := (xM hw h1).symm
    have eyy : nI (cN x y / 16) = y := (yM hw h1).symm
    have hl : lv_has ls 3 [(0, .ref (hs 0)), (1, .int (nI (cN x y % 16))), (2, .int (nI (cN x y / 16)))] := by rw [exx, eyy]; exact hl
    refine lv_aload_n hx hb dX2_walkTo_11 rfl (lv_at hl 0 rfl) ?_
    refine lv_iload_n hx hb dX2_walkTo_12 rfl (lv_at hl 1 rfl) ?_
    refine lv_iload_n hx hb dX2_walkTo_13 rfl (lv_at hl 2 rfl) ?_
    refine g_calliE wM_adr hG (g_runV (As := [.int (nI (cN x y % 16)), .int (nI (cN x y / 16))]) (rest := []) ⟨hx, hb, hml, hown, hts⟩ wM_adr (kX2_isPlace S (nI (cN x y % 16)) (nI (cN x y / 16)) (vp_c hc)) wyX2_isPlace q529 hG 0 rfl rfl ⟨by decide, by decide⟩ rfl rfl hl.1 (Nat.le_of_ble_eq_true rfl) ⟨Nat.le_refl 0, Nat.le_refl 0⟩ dX2_walkTo_14) (fun H locs hG => ?_)
    refine g_top (y := if plB G (cN x y) then 1 else 0) (placeM hw he hc (idx_c _)) ?_
    refine lv_if_ne (tgt := 23) hx hb dX2_walkTo_17 (by decide) (fun c17 => ?_) (fun c17 => ?_)
    · have hpl : plB G (cN x y) = true := Classical.byContradiction (fun q => c17 (ite10.mpr q))
      have hpe := pErr_1 h1 hpl
      have hnw := hw.1.2.2.2.2.2.1
      refine lv_aload_n hx hb dX2_walkTo_23 rfl (lv_at hl 0 rfl) ?_
      refine g_get hx hb hts hown hG inX2 0 rfl rfl 18 (by decide) q410 (v := .int (S 0 18)) rfl dX2_walkTo_24 ?_
      refine g_top (y := nI (G 0 3)) (he.1.2.2.2.1) ?_
      refine lv_if_le (tgt := 70) hx hb dX2_walkTo_27 (by decide) (fun c27 => ?_) (fun c27 => ?_)
      · have hfar : ¬ farB G (cN x y) = true := by unfold farB; rw [decide_eq_false (fun q => nI_nle q (by omega) c27), Bool.false_and]; decide
        refine lv_aload_n hx hb dX2_walkTo_70 rfl (lv_at hl 0 rfl) ?_
        refine g_get hx hb hts hown hG inX2 0 rfl rfl 18 (by decide) q410 (v := .int (S 0 18)) rfl dX2_walkTo_71 ?_
        refine g_top (y := nI (G 0 3)) (he.1.2.2.2.1) ?_
        refine lv_bipush (v := 40) hx hb dX2_walkTo_74 (by decide) ?_
        refine lv_icmp_ne (tgt := 82) hx hb dX2_walkTo_76 (by decide) (fun c76 => ?_) (fun c76 => ?_)
        · have hfull : G 0 3 < 40 := Nat.lt_of_le_of_ne hnw (fun q => c76 (by rw [q]; rfl))
          refine lv_aload_n hx hb dX2_walkTo_82 rfl (lv_at hl 0 rfl) ?_
          refine g_get hx hb hts hown hG inX2 0 rfl rfl 19 (by decide) q411 (v := .ref (hs 19)) rfl dX2_walkTo_83 ?_
          refine lv_aload_n hx hb dX2_walkTo_86 rfl (lv_at hl 0 rfl) ?_
          refine g_get hx hb hts hown hG inX2 0 rfl rfl 18 (by decide) q410 (v := .int (S 0 18)) rfl dX2_walkTo_87 ?_
          refine g_top (y := nI (G 0 3)) (he.1.2.2.2.1) ?_
          refine lv_iload_n hx hb dX2_walkTo_90 rfl (lv_at hl 1 rfl) ?_
          refine g_astN (f := S 19) hx hb hG 7 rfl (by decide) (G 0 3) (rfl) (by omega) (up2 S 19 (G 0 3) (nI (cN x y % 16))) (rfl) dX2_walkTo_91 (fun H locs hG => ?_)
          refine lv_aload_n hx hb dX2_walkTo_92 rfl (lv_at hl 0 rfl) ?_
          refine g_get hx hb hts hown hG inX2 0 rfl rfl 20 (by decide) q412 (v := .ref (hs 20)) rfl dX2_walkTo_93 ?_
          refine lv_aload_n hx hb dX2_walkTo_96 rfl (lv_at hl 0 rfl) ?_
          refine g_get hx hb hts hown hG inX2 0 rfl rfl 18 (by decide) q410 (v := .int ((up2 S 19 (G 0 3) (nI (cN x y % 16))) 0 18)) rfl dX2_walkTo_97 ?_
          refine g_top (y := nI (G 0 3)) (he.1.2.2.2.1) ?_
          refine lv_iload_n hx hb dX2_walkTo_100 rfl (lv_at hl 2 rfl) ?_
          refine g_astN (f := (up2 S 19 (G 0 3) (nI (cN x y % 16))) 20) hx hb hG 8 rfl (by decide) (G 0 3) (rfl) (by omega) (up2 (up2 S 19 (G 0 3) (nI (cN x y % 16))) 20 (G 0 3) (nI (cN x y / 16))) (rfl) dX2_walkTo_101 (fun H locs hG => ?_)
          refine lv_aload_n hx hb dX2_walkTo_102 rfl (lv_at hl 0 rfl) ?_
          refine lv_dup hx hb dX2_walkTo_103 rfl ?_
          refine g_get hx hb hts hown hG inX2 0 rfl rfl 18 (by decide) q410 (v := .int ((up2 (up2 S 19 (G 0 3) (nI (cN x y % 16))) 20 (G 0 3) (nI (cN x y / 16))) 0 18)) rfl dX2_walkTo_104 ?_
          refine g_top (y := nI (G 0 3)) (he.1.2.2.2.1) ?_
          refine lv_iconst (v := 1) hx hb dX2_walkTo_107 (by decide) ?_
          refine lv_iadd hx hb dX2_walkTo_108 ?_
          refine g_put hx hb hts hown hG inX2 tyX2 tyX2_ok nmX2 0 rfl rfl 18 (by decide) q410 rfl (by decide +kernel) (Nat.le_of_ble_eq_true rfl) (up2 (up2 (up2 S 19 (G 0 3) (nI (cN x y % 16))) 20 (G 0 3) (nI (cN x y / 16))) 0 18 ((nI (G 0 3)) + 1)) rfl dX2_walkTo_109 (fun H locs hG => ?_)
          refine lv_aload_n hx hb dX2_walkTo_112 rfl (lv_at hl 0 rfl) ?_
          refine g_get hx hb hts hown hG inX2 0 rfl rfl 18 (by decide) q410 (v := .int ((up2 (up2 (up2 S 19 (G 0 3) (nI (cN x y % 16))) 20 (G 0 3) (nI (cN x y / 16))) 0 18 ((nI (G 0 3)) + 1)) 0 18)) rfl dX2_walkTo_113 ?_
          refine g_top (y := nI (G 0 3 + 1)) (nI_1 _) ?_
          exact g_iret hx hb hr hlk hG ⟨by unfold F_walkTo; rw [if_pos hpe, if_neg hfar, if_pos hfull], by unfold Tf_walkTo; rw [if_pos hpe, if_neg hfar, if_pos hfull]; exact encM_walk he rfl rfl⟩ dX2_walkTo_116
        · have hfull : ¬ G 0 3 < 40 := fun q => absurd ((nI_eq (b := 40) (by omega) (by decide)).mp c76) (by omega)
          refine lv_bipush (v := (-5)) hx hb dX2_walkTo_79 (by decide) ?_
          exact g_iret hx hb hr hlk hG ⟨by unfold F_walkTo; rw [if_pos hpe, if_neg hfar, if_neg hfull], by unfold Tf_walkTo; rw [if_pos hpe, if_neg hfar, if_neg hfull]; exact he⟩ dX2_walkTo_81
      · have hpos : 0 < G 0 3 := Nat.pos_of_ne_zero (fun q => c27 (by rw [q]; decide))
        refine lv_iload_n hx hb dX2_walkTo_30 rfl (lv_at hl 1 rfl) ?_
        refine lv_aload_n hx hb dX2_walkTo_31 rfl (lv_at hl 0 rfl) ?_
        refine g_get hx hb hts hown hG inX2 0 rfl rfl 19 (by decide) q411 (v := .ref (hs 19)) rfl dX2_walkTo_32 ?_
        refine lv_aload_n hx hb dX2_walkTo_35 rfl (lv_at hl 0 rfl) ?_
        refine g_get hx hb hts hown hG inX2 0 rfl rfl 18 (by decide) q410 (v := .int (S 0 18)) rfl dX2_walkTo_36 ?_
        refine g_top (y := nI (G 0 3)) (he.1.2.2.2.1) ?_
        refine lv_iconst (v := 1) hx hb dX2_walkTo_39 (by decide) ?_
        refine lv_isub hx hb dX2_walkTo_40 ?_
        refine g_aldN (f := S 19) hx hb hG 7 rfl (by decide) (G 0 3 - 1) (nI_m1 hpos) (by omega) dX2_walkTo_41 ?_
        refine g_top (y := nI (G 5 (G 0 3 - 1) % 16)) ((he.2.2.2.2.1 _ (by omega)).1) ?_
        refine lv_isub hx hb dX2_walkTo_42 ?_
        refine g_stat (As := [.int ((nI (cN x y % 16)) - (nI (G 5 (G 0 3 - 1) % 16)))]) (rest := []) ⟨hx, hb, hml, hown, hts⟩ (kX2_size ((nI (cN x y % 16)) - (nI (G 5 (G 0 3 - 1) % 16)))) wyX2_size q541 hG ⟨by decide, by decide⟩ rfl rfl hl.1 (Nat.le_of_ble_eq_true rfl) ⟨Nat.le_refl 0, Nat.le_refl 0⟩ dX2_walkTo_43 (fun H locs hG => ?_)
        refine lv_iload_n hx hb dX2_walkTo_46 rfl (lv_at hl 2 rfl) ?_
        refine lv_aload_n hx hb dX2_walkTo_47 rfl (lv_at hl 0 rfl) ?_
        refine g_get hx hb hts hown hG inX2 0 rfl rfl 20 (by decide) q412 (v := .ref (hs 20)) rfl dX2_walkTo_48 ?_
        refine lv_aload_n hx hb dX2_walkTo_51 rfl (lv_at hl 0 rfl) ?_
        refine g_get hx hb hts hown hG inX2 0 rfl rfl 18 (by decide) q410 (v := .int (S 0 18)) rfl dX2_walkTo_52 ?_
        refine g_top (y := nI (G 0 3)) (he.1.2.2.2.1) ?_
        refine lv_iconst (v := 1) hx hb dX2_walkTo_55 (by decide) ?_
        refine lv_isub hx hb dX2_walkTo_56 ?_
        refine g_aldN (f := S 20) hx hb hG 8 rfl (by decide) (G 0 3 - 1) (nI_m1 hpos) (by omega) dX2_walkTo_57 ?_
        refine g_top (y := nI (G 5 (G 0 3 - 1) / 16)) ((he.2.2.2.2.1 _ (by omega)).2) ?_
        refine lv_isub hx hb dX2_walkTo_58 ?_
        refine g_stat (As := [.int ((nI (cN x y / 16)) - (nI (G 5 (G 0 3 - 1) / 16)))]) (rest := [.int (fX2_size ((nI (cN x y % 16)) - (nI (G 5 (G 0 3 - 1) % 16))))]) ⟨hx, hb, hml, hown, hts⟩ (kX2_size ((nI (cN x y / 16)) - (nI (G 5 (G 0 3 - 1) / 16)))) wyX2_size q541 hG ⟨by decide, by decide⟩ rfl rfl hl.1 (Nat.le_of_ble_eq_true rfl) ⟨Nat.le_refl 0, Nat.le_refl 0⟩ dX2_walkTo_59 (fun H locs hG => ?_)
        refine lv_iadd hx hb dX2_walkTo_62 ?_
        refine lv_iconst (v := 1) hx hb dX2_walkTo_63 (by decide) ?_
        refine lv_icmp_eq (tgt := 70) hx hb dX2_walkTo_64 (by decide) (fun c64 => ?_) (fun c64 => ?_)
        · have hfar : ¬ farB G (cN x y) = true := by unfold farB; rw [(wlk_M (hw.2.2.2.1 (G 0 3 - 1) (by omega)) hc).mp c64]; simp
          refine lv_aload_n hx hb dX2_walkTo_70 rfl (lv_at hl 0 rfl) ?_
          refine g_get hx hb hts hown hG inX2 0 rfl rfl 18 (by decide) q410 (v := .int (S 0 18)) rfl dX2_walkTo_71 ?_
          refine g_top (y := nI (G 0 3)) (he.1.2.2.2.1) ?_
          refine lv_bipush (v := 40) hx hb dX2_walkTo_74 (by decide) ?_
          refine lv_icmp_ne (tgt := 82) hx hb dX2_walkTo_76 (by decide) (fun c76 => ?_) (fun c76 => ?_)
          · have hfull : G 0 3 < 40 := Nat.lt_of_le_of_ne hnw (fun q => c76 (by rw [q]; rfl))
            refine lv_aload_n hx hb dX2_walkTo_82 rfl (lv_at hl 0 rfl) ?_
            refine g_get hx hb hts hown hG inX2 0 rfl rfl 19 (by decide) q411 (v := .ref (hs 19)) rfl dX2_walkTo_83 ?_
            refine lv_aload_n hx hb dX2_walkTo_86 rfl (lv_at hl 0 rfl) ?_
            refine g_get hx hb hts hown hG inX2 0 rfl rfl 18 (by decide) q410 (v := .int (S 0 18)) rfl dX2_walkTo_87 ?_
            refine g_top (y := nI (G 0 3)) (he.1.2.2.2.1) ?_
            refine lv_iload_n hx hb dX2_walkTo_90 rfl (lv_at hl 1 rfl) ?_
            refine g_astN (f := S 19) hx hb hG 7 rfl (by decide) (G 0 3) (rfl) (by omega) (up2 S 19 (G 0 3) (nI (cN x y % 16))) (rfl) dX2_walkTo_91 (fun H locs hG => ?_)
            refine lv_aload_n hx hb dX2_walkTo_92 rfl (lv_at hl 0 rfl) ?_
            refine g_get hx hb hts hown hG inX2 0 rfl rfl 20 (by decide) q412 (v := .ref (hs 20)) rfl dX2_walkTo_93 ?_
            refine lv_aload_n hx hb dX2_walkTo_96 rfl (lv_at hl 0 rfl) ?_
            refine g_get hx hb hts hown hG inX2 0 rfl rfl 18 (by decide) q410 (v := .int ((up2 S 19 (G 0 3) (nI (cN x y % 16))) 0 18)) rfl dX2_walkTo_97 ?_
            refine g_top (y := nI (G 0 3)) (he.1.2.2.2.1) ?_
            refine lv_iload_n hx hb dX2_walkTo_100 rfl (lv_at hl 2 rfl) ?_
            refine g_astN (f := (up2 S 19 (G 0 3) (nI (cN x y % 16))) 20) hx hb hG 8 rfl (by decide) (G 0 3) (rfl) (by omega) (up2 (up2 S 19 (G 0 3) (nI (cN x y % 16))) 20 (G 0 3) (nI (cN x y / 16))) (rfl) dX2_walkTo_101 (fun H locs hG => ?_)
            refine lv_aload_n hx hb dX2_walkTo_102 rfl (lv_at hl 0 rfl) ?_
            refine lv_dup hx hb dX2_walkTo_103 rfl ?_
            refine g_get hx hb hts hown hG inX2 0 rfl rfl 18 (by decide) q410 (v := .int ((up2 (up2 S 19 (G 0 3) (nI (cN x y % 16))) 20 (G 0 3) (nI (cN x y / 16))) 0 18)) rfl dX2_walkTo_104 ?_
            refine g_top (y := nI (G 0 3)) (he.1.2.2.2.1) ?_
            refine lv_iconst (v := 1) hx hb dX2_walkTo_107 (by decide) ?_
            refine lv_iadd hx hb dX2_walkTo_108 ?_
            refine g_put hx hb hts hown hG inX2 tyX2 tyX2_ok nmX2 0 rfl rfl 18 (by decide) q410 rfl (by decide +kernel) (Nat.le_of_ble_eq_true rfl) (up2 (up2 (up2 S 19 (G 0 3) (nI (cN x y % 16))) 20 (G 0 3) (nI (cN x y / 16))) 0 18 ((nI (G 0 3)) + 1)) rfl dX2_walkTo_109 (fun H locs hG => ?_)
            refine lv_aload_n hx hb dX2_walkTo_112 rfl (lv_at hl 0 rfl) ?_
            refine g_get hx hb hts hown hG inX2 0 rfl rfl 18 (by decide) q410 (v := .int ((up2 (up2 (up2 S 19 (G 0 3) (nI (cN x y % 16))) 20 (G 0 3) (nI (cN x y / 16))) 0 18 ((nI (G 0 3)) + 1)) 0 18)) rfl dX2_walkTo_113 ?_
            refine g_top (y := nI (G 0 3 + 1)) (nI_1 _) ?_
            exact g_iret hx hb hr hlk hG ⟨by unfold F_walkTo; rw [if_pos hpe, if_neg hfar, if_pos hfull], by unfold Tf_walkTo; rw [if_pos hpe, if_neg hfar, if_pos hfull]; exact encM_walk he rfl rfl⟩ dX2_walkTo_116
          · have hfull : ¬ G 0 3 < 40 := fun q => absurd ((nI_eq (b := 40) (by omega) (by decide)).mp c76) (by omega)
            refine lv_bipush (v := (-5)) hx hb dX2_walkTo_79 (by decide) ?_
            exact g_iret hx hb hr hlk hG ⟨by unfold F_walkTo; rw [if_pos hpe, if_neg hfar, if_neg hfull], by unfold Tf_walkTo; rw [if_pos hpe, if_neg hfar, if_neg hfull]; exact he⟩ dX2_walkTo_81
        · have hfar : farB G (cN x y) = true := by unfold farB; rw [show nbB (G 5 (G 0 3 - 1)) (cN x y) = false from by cases q : nbB (G 5 (G 0 3 - 1)) (cN x y) with | false => rfl | true => exact absurd ((wlk_M (hw.2.2.2.1 (G 0 3 - 1) (by omega)) hc).mpr q) c64, decide_eq_true hpos]; rfl
          refine lv_bipush (v := (-6)) hx hb dX2_walkTo_67 (by decide) ?_
          exact g_iret hx hb hr hlk hG ⟨by unfold F_walkTo; rw [if_pos hpe, if_pos hfar], by unfold Tf_walkTo; rw [if_pos hpe, if_pos hfar]; exact he⟩ dX2_walkTo_69
    · have hpl : ¬ plB G (cN x y) = true := ite10.mp c17
      refine lv_bipush (v := (-3)) hx hb dX2_walkTo_20 (by decide) ?_
      exact g_iret hx hb hr hlk hG ⟨by unfold F_walkTo pErr; rw [if_pos h1, if_neg hpl, if_neg (by decide)], by unfold Tf_walkTo pErr; rw [if_pos h1, if_neg hpl, if_neg (by decide)]; exact he⟩ dX2_walkTo_22
  · have h1 : ¬ hasB G x y = true := fun q => c6 (no01.mpr q)
    refine lv_iconst (v := (-1)) hx hb dX2_walkTo_9 (by decide) ?_
    exact g_iret hx hb hr hlk hG ⟨by unfold F_walkTo pErr; rw [if_neg h1, if_neg (by decide)], by unfold Tf_walkTo pErr; rw [if_neg h1, if_neg (by decide)]; exact he⟩ dX2_walkTo_10
set_option maxHeartbeats 4000000 in
set_option maxRecDepth 100000 in
theorem kX2_walkBack {l : Launch} {D : va_G} {cy : ClassId} {hs : Nat → Nat} {X : va_W} (G : GN) (S : GS) (hw : wf G) (he : encM G S) (n9 : Int32) : Ct l D cy (wM cy hs X) yX2_walkBack cX2_walkBack 2 (some .int) 1 22 (S) [.ref (hs 0), .int n9] (QI D (wM cy hs X) (fun r S' => r = F_walkBack G n9 ∧ encM (Tf_walkBack G n9) S')) := by
  refine Ct.of wM_adr (plainFor_of_name (by decide)) (Nat.le_of_ble_eq_true rfl) ?_
  intro p e s m below meth c ls C hl hG
  obtain ⟨hx, hb, hml, hown, hts, hr, hlk⟩ := C
  have hl : lv_has ls 2 [(0, .ref (hs 0)), (1, .int n9)] := hl
  refine lv_iload_n hx hb dX2_walkBack_0 rfl (lv_at hl 1 rfl) ?_
  refine lv_iconst (v := 0) hx hb dX2_walkBack_1 (by decide) ?_
  refine lv_aload_n hx hb dX2_walkBack_2 rfl (lv_at hl 0 rfl) ?_
  refine g_get hx hb hts hown hG inX2 0 rfl rfl 18 (by decide) q410 (v := .int (S 0 18)) rfl dX2_walkBack_3 ?_
  refine g_top (y := nI (G 0 3)) (he.1.2.2.2.1) ?_
  refine g_stat (As := [.int n9, .int 0, .int (nI (G 0 3))]) (rest := []) ⟨hx, hb, hml, hown, hts⟩ (kX2_in n9 0 (nI (G 0 3))) wyX2_in q478 hG ⟨by decide, by decide⟩ rfl rfl hl.1 (Nat.le_of_ble_eq_true rfl) ⟨Nat.le_refl 0, Nat.le_refl 0⟩ dX2_walkBack_6 (fun H locs hG => ?_)
  refine g_top (y := if wbB G n9 then 1 else 0) (inM (a := 0) (by decide) (by have := hw.1.2.2.2.2.2.1; omega)) ?_
  refine lv_if_ne (tgt := 15) hx hb dX2_walkBack_9 (by decide) (fun c9 => ?_) (fun c9 => ?_)
  · have hwb : wbB G n9 = true := Classical.byContradiction (fun q => c9 (ite10.mpr q))
    have hin := inB_n (a := 0) (b := G 0 3) hwb
    have hsub : nI (G 0 3) - n9 = nI (G 0 3 - nN n9) := by rw [← pk_sub hin.2.2, ← hin.1]
    refine lv_aload_n hx hb dX2_walkBack_15 rfl (lv_at hl 0 rfl) ?_
    refine lv_dup hx hb dX2_walkBack_16 rfl ?_
    refine g_get hx hb hts hown hG inX2 0 rfl rfl 18 (by decide) q410 (v := .int (S 0 18)) rfl dX2_walkBack_17 ?_
    refine g_top (y := nI (G 0 3)) (he.1.2.2.2.1) ?_
    refine lv_iload_n hx hb dX2_walkBack_20 rfl (lv_at hl 1 rfl) ?_
    refine lv_isub hx hb dX2_walkBack_21 ?_
    refine g_put hx hb hts hown hG inX2 tyX2 tyX2_ok nmX2 0 rfl rfl 18 (by decide) q410 rfl (by decide +kernel) (Nat.le_of_ble_eq_true rfl) (up2 S 0 18 ((nI (G 0 3)) - n9)) rfl dX2_walkBack_22 (fun H locs hG => ?_)
    refine lv_aload_n hx hb dX2_walkBack_25 rfl (lv_at hl 0 rfl) ?_
    refine g_get hx hb hts hown hG inX2 0 rfl rfl 18 (by decide) q410 (v := .int ((up2 S 0 18 ((nI (G 0 3)) - n9)) 0 18)) rfl dX2_walkBack_26 ?_
    refine g_top (y := nI (G 0 3) - n9) (rfl) ?_
    exact g_iret hx hb hr hlk hG ⟨by unfold F_walkBack; rw [if_pos hwb]; exact hsub, by unfold Tf_walkBack; rw [if_pos hwb]; exact encM_cnt3 he (by omega) hsub⟩ dX2_walkBack_29
  · refine lv_bipush (v := (-4)) hx hb dX2_walkBack_12 (by decide) ?_
    exact g_iret hx hb hr hlk hG ⟨by unfold F_walkBack; rw [if_neg (ite10.mp c9)], by unfold Tf_walkBack; rw [if_neg (ite10.mp c9)]; exact he⟩ dX2_walkBack_14
set_option maxHeartbeats 4000000 in
set_option maxRecDepth 100000 in
theorem kX2_wish {l : Launch} {D : va_G} {cy : ClassId} {hs : Nat → Nat} {X : va_W} (G : GN) (S : GS) (hw : wf G) (he : encM G S) (x y f : Int32) : Ct l D cy (wM cy hs X) yX2_wish cX2_wish 5 (some .int) 3 67 (S) [.ref (hs 0), .int x, .int y, .int f] (QI D (wM cy hs X) (fun r S' => r = F_wish G x y f ∧ encM (Tf_wish G x y f) S')) := by
  refine Ct.of wM_adr (plainFor_of_name (by decide)) (Nat.le_of_ble_eq_true rfl) ?_
  intro p e s m below meth c ls C hl hG
  obtain ⟨hx, hb, hml, hown, hts, hr, hlk⟩ := C
  have hl : lv_has ls 5 [(0, .ref (hs 0)), (1, .int x), (2, .int y), (3, .int f)] := hl
  refine lv_aload_n hx hb dX2_wish_0 rfl (lv_at hl 0 rfl) ?_
  refine lv_iload_n hx hb dX2_wish_1 rfl (lv_at hl 1 rfl) ?_
  refine lv_iload_n hx hb dX2_wish_2 rfl (lv_at hl 2 rfl) ?_
  refine lv_iload_n hx hb dX2_wish_3 rfl (lv_at hl 3 rfl) ?_
  refine g_calliE wM_adr hG (g_runV (As := [.int x, .int y, .int f]) (rest := []) ⟨hx, hb, hml, hown, hts⟩ wM_adr (kX2_viewBarred S x y f (he.ok hw)) wyX2_viewBarred q521 hG 0 rfl rfl ⟨by decide, by decide⟩ rfl rfl hl.1 (Nat.le_of_ble_eq_true rfl) ⟨Nat.le_refl 0, Nat.le_refl 0⟩ dX2_wish_4) (fun H locs hG => ?_)
  refine g_top (y := vErr G x y f) (vErrM hw he x y f) ?_
  refine lv_istore (lv' := [(4, .int (vErr G x y f)), (0, .ref (hs 0)), (1, .int x), (2, .int y), (3, .int f)]) hx hb dX2_wish_7 hl (by decide) rfl (fun ls hl => ?_)
  refine lv_iload hx hb dX2_wish_9 (lv_at hl 0 rfl) ?_
  refine lv_if_ge (tgt := 17) hx hb dX2_wish_11 (by decide) (fun c_g => ?_) (fun c_g => ?_)
  · have c_e := vErr_ge.mp c_g
    obtain ⟨h1, h2, h3⟩ := vErr_0 c_e
    have hnq := hw.1.2.2.2.2.2.2
    refine lv_aload_n hx hb dX2_wish_17 rfl (lv_at hl 1 rfl) ?_
    refine g_get hx hb hts hown hG inX2 0 rfl rfl 22 (by decide) q414 (v := .int (S 0 22)) rfl dX2_wish_18 ?_
    refine g_top (y := nI (G 0 4)) (he.1.2.2.2.2) ?_
    refine lv_bipush (v := 10) hx hb dX2_wish_21 (by decide) ?_
    refine lv_icmp_ne (tgt := 29) hx hb dX2_wish_23 (by decide) (fun c23 => ?_) (fun c23 => ?_)
    · have hfull : G 0 4 < 10 := Nat.lt_of_le_of_ne hnq (fun q => c23 (by rw [q]; rfl))
      refine lv_aload_n hx hb dX2_wish_29 rfl (lv_at hl 1 rfl) ?_
      refine g_get hx hb hts hown hG inX2 0 rfl rfl 23 (by decide) q415 (v := .ref (hs 23)) rfl dX2_wish_30 ?_
      refine lv_aload_n hx hb dX2_wish_33 rfl (lv_at hl 1 rfl) ?_
      refine g_get hx hb hts hown hG inX2 0 rfl rfl 22 (by decide) q414 (v := .int (S 0 22)) rfl dX2_wish_34 ?_
      refine g_top (y := nI (G 0 4)) (he.1.2.2.2.2) ?_
      refine lv_iload_n hx hb dX2_wish_37 rfl (lv_at hl 2 rfl) ?_
      refine g_astN (f := S 23) hx hb hG 10 rfl (by decide) (G 0 4) (rfl) (by omega) (up2 S 23 (G 0 4) x) (rfl) dX2_wish_38 (fun H locs hG => ?_)
      refine lv_aload_n hx hb dX2_wish_39 rfl (lv_at hl 1 rfl) ?_
      refine g_get hx hb hts hown hG inX2 0 rfl rfl 24 (by decide) q416 (v := .ref (hs 24)) rfl dX2_wish_40 ?_
      refine lv_aload_n hx hb dX2_wish_43 rfl (lv_at hl 1 rfl) ?_
      refine g_get hx hb hts hown hG inX2 0 rfl rfl 22 (by decide) q414 (v := .int ((up2 S 23 (G 0 4) x) 0 22)) rfl dX2_wish_44 ?_
      refine g_top (y := nI (G 0 4)) (he.1.2.2.2.2) ?_
      refine lv_iload_n hx hb dX2_wish_47 rfl (lv_at hl 3 rfl) ?_
      refine g_astN (f := (up2 S 23 (G 0 4) x) 24) hx hb hG 11 rfl (by decide) (G 0 4) (rfl) (by omega) (up2 (up2 S 23 (G 0 4) x) 24 (G 0 4) y) (rfl) dX2_wish_48 (fun H locs hG => ?_)
      refine lv_aload_n hx hb dX2_wish_49 rfl (lv_at hl 1 rfl) ?_
      refine g_get hx hb hts hown hG inX2 0 rfl rfl 25 (by decide) q417 (v := .ref (hs 25)) rfl dX2_wish_50 ?_
      refine lv_aload_n hx hb dX2_wish_53 rfl (lv_at hl 1 rfl) ?_
      refine g_get hx hb hts hown hG inX2 0 rfl rfl 22 (by decide) q414 (v := .int ((up2 (up2 S 23 (G 0 4) x) 24 (G 0 4) y) 0 22)) rfl dX2_wish_54 ?_
      refine g_top (y := nI (G 0 4)) (he.1.2.2.2.2) ?_
      refine lv_iload_n hx hb dX2_wish_57 rfl (lv_at hl 4 rfl) ?_
      refine g_astN (f := (up2 (up2 S 23 (G 0 4) x) 24 (G 0 4) y) 25) hx hb hG 12 rfl (by decide) (G 0 4) (rfl) (by omega) (up2 (up2 (up2 S 23 (G 0 4) x) 24 (G 0 4) y) 25 (G 0 4) f) (rfl) dX2_wish_58 (fun H locs hG => ?_)
      refine lv_aload_n hx hb dX2_wish_59 rfl (lv_at hl 1 rfl) ?_
      refine lv_dup hx hb dX2_wish_60 rfl ?_
      refine g_get hx hb hts hown hG inX2 0 rfl rfl 22 (by decide) q414 (v := .int ((up2 (up2 (up2 S 23 (G 0 4) x) 24 (G 0 4) y) 25 (G 0 4) f) 0 22)) rfl dX2_wish_61 ?_
      refine g_top (y := nI (G 0 4)) (he.1.2.2.2.2) ?_
      refine lv_iconst (v := 1) hx hb dX2_wish_64 (by decide) ?_
      refine lv_iadd hx hb dX2_wish_65 ?_
      refine g_put hx hb hts hown hG inX2 tyX2 tyX2_ok nmX2 0 rfl rfl 22 (by decide) q414 rfl (by decide +kernel) (Nat.le_of_ble_eq_true rfl) (up2 (up2 (up2 (up2 S 23 (G 0 4) x) 24 (G 0 4) y) 25 (G 0 4) f) 0 22 ((nI (G 0 4)) + 1)) rfl dX2_wish_66 (fun H locs hG => ?_)
      refine lv_aload_n hx hb dX2_wish_69 rfl (lv_at hl 1 rfl) ?_
      refine g_get hx hb hts hown hG inX2 0 rfl rfl 22 (by decide) q414 (v := .int ((up2 (up2 (up2 (up2 S 23 (G 0 4) x) 24 (G 0 4) y) 25 (G 0 4) f) 0 22 ((nI (G 0 4)) + 1)) 0 22)) rfl dX2_wish_70 ?_
      refine g_top (y := nI (G 0 4 + 1)) (nI_1 _) ?_
      refine lv_iconst (v := 1) hx hb dX2_wish_73 (by decide) ?_
      refine lv_isub hx hb dX2_wish_74 ?_
      refine g_top (y := nI (G 0 4)) (nI_pred _) ?_
      exact g_iret hx hb hr hlk hG ⟨by unfold F_wish; rw [if_pos c_e, if_pos hfull], by unfold Tf_wish; rw [if_pos c_e, if_pos hfull]; exact encM_wish he (xM hw h1) (yM hw h1) (ft_k h2).1⟩ dX2_wish_75
    · have hfull : ¬ G 0 4 < 10 := fun q => absurd ((nI_eq (b := 10) (by omega) (by decide)).mp c23) (by omega)
      refine lv_bipush (v := (-5)) hx hb dX2_wish_26 (by decide) ?_
      exact g_iret hx hb hr hlk hG ⟨by unfold F_wish; rw [if_pos c_e, if_neg hfull], by unfold Tf_wish; rw [if_pos c_e, if_neg hfull]; exact he⟩ dX2_wish_28
  · have c_n : ¬ vErr G x y f = 0 := fun q => c_g (vErr_ge.mpr q)
    refine lv_iload hx hb dX2_wish_14 (lv_at hl 0 rfl) ?_
    exact g_iret hx hb hr hlk hG ⟨by unfold F_wish; rw [if_neg c_n], by unfold Tf_wish; rw [if_neg c_n]; exact he⟩ dX2_wish_16
set_option maxHeartbeats 4000000 in
set_option maxRecDepth 100000 in
theorem kX2_clearWishes {l : Launch} {D : va_G} {cy : ClassId} {hs : Nat → Nat} {X : va_W} (G : GN) (S : GS) (hw : wf G) (he : encM G S) : Ct l D cy (wM cy hs X) yX2_clearWishes cX2_clearWishes 2 (some .int) 0 0 (S) [.ref (hs 0)] (QI D (wM cy hs X) (fun r S' => r = nI (G 0 4) ∧ encM (T_clear G) S')) := by
  refine Ct.of wM_adr (plainFor_of_name (by decide)) (Nat.le_of_ble_eq_true rfl) ?_
  intro p e s m below meth c ls C hl hG
  obtain ⟨hx, hb, hml, hown, hts, hr, hlk⟩ := C
  have hl : lv_has ls 2 [(0, .ref (hs 0))] := hl
  refine lv_aload_n hx hb dX2_clearWishes_0 rfl (lv_at hl 0 rfl) ?_
  refine g_get hx hb hts hown hG inX2 0 rfl rfl 22 (by decide) q414 (v := .int (S 0 22)) rfl dX2_clearWishes_1 ?_
  refine lv_istore_n (lv' := [(1, .int (S 0 22)), (0, .ref (hs 0))]) hx hb dX2_clearWishes_4 rfl hl (by decide) rfl (fun ls hl => ?_)
  refine lv_aload_n hx hb dX2_clearWishes_5 rfl (lv_at hl 1 rfl) ?_
  refine lv_iconst (v := 0) hx hb dX2_clearWishes_6 (by decide) ?_
  refine g_put hx hb hts hown hG inX2 tyX2 tyX2_ok nmX2 0 rfl rfl 22 (by decide) q414 rfl (by decide +kernel) (Nat.le_of_ble_eq_true rfl) (up2 S 0 22 0) rfl dX2_clearWishes_7 (fun H locs hG => ?_)
  refine lv_iload_n hx hb dX2_clearWishes_10 rfl (lv_at hl 0 rfl) ?_
  exact g_iret hx hb hr hlk hG (⟨he.1.2.2.2.2, encM_clear he⟩) dX2_clearWishes_11
set_option maxHeartbeats 4000000 in
set_option maxRecDepth 100000 in
theorem kX2_reset {l : Launch} {D : va_G} {cy : ClassId} {hs : Nat → Nat} {X : va_W} (G : GN) (S : GS) (hw : wf G) (he : encM G S) (x y : Int32) : Ct l D cy (wM cy hs X) yX2_reset cX2_reset 4 (some .int) 1 22 (S) [.ref (hs 0), .int x, .int y] (QI D (wM cy hs X) (fun r S' => r = F_reset x y ∧ encM (Tf_reset G x y) S')) := by
  refine Ct.of wM_adr (plainFor_of_name (by decide)) (Nat.le_of_ble_eq_true rfl) ?_
  intro p e s m below meth c ls C hl hG
  obtain ⟨hx, hb, hml, hown, hts, hr, hlk⟩ := C
  have hl : lv_has ls 4 [(0, .ref (hs 0)), (1, .int x), (2, .int y)] := hl
  refine lv_iload_n hx hb dX2_reset_0 rfl (lv_at hl 1 rfl) ?_
  refine lv_iconst (v := 3) hx hb dX2_reset_1 (by decide) ?_
  refine lv_bipush (v := 16) hx hb dX2_reset_2 (by decide) ?_
  refine g_stat (As := [.int x, .int 3, .int 16]) (rest := []) ⟨hx, hb, hml, hown, hts⟩ (kX2_in x 3 16) wyX2_in q478 hG ⟨by decide, by decide⟩ rfl rfl hl.1 (Nat.le_of_ble_eq_true rfl) ⟨Nat.le_refl 0, Nat.le_refl 0⟩ dX2_reset_4 (fun H locs hG => ?_)
  refine g_top (y := if inB x 3 16 then 1 else 0) (inM (a := 3) (b := 16) (by decide) (by decide)) ?_
  refine lv_if_eq (tgt := 20) hx hb dX2_reset_7 (by decide) (fun ca => ?_) (fun ca => ?_)
  · refine lv_bipush (v := (-4)) hx hb dX2_reset_20 (by decide) ?_
    exact g_iret hx hb hr hlk hG ⟨by unfold F_reset; rw [rB_eq, if_neg (fun q => ite10.mp ca (by rw [Bool.and_eq_true] at q; exact q.1))], by unfold Tf_reset; rw [rB_eq, if_neg (fun q => ite10.mp ca (by rw [Bool.and_eq_true] at q; exact q.1))]; exact he⟩ dX2_reset_22
  · refine lv_iload_n hx hb dX2_reset_10 rfl (lv_at hl 2 rfl) ?_
    refine lv_iconst (v := 3) hx hb dX2_reset_11 (by decide) ?_
    refine lv_bipush (v := 12) hx hb dX2_reset_12 (by decide) ?_
    refine g_stat (As := [.int y, .int 3, .int 12]) (rest := []) ⟨hx, hb, hml, hown, hts⟩ (kX2_in y 3 12) wyX2_in q478 hG ⟨by decide, by decide⟩ rfl rfl hl.1 (Nat.le_of_ble_eq_true rfl) ⟨Nat.le_refl 0, Nat.le_refl 0⟩ dX2_reset_14 (fun H locs hG => ?_)
    refine g_top (y := if inB y 3 12 then 1 else 0) (inM (a := 3) (b := 12) (by decide) (by decide)) ?_
    refine lv_if_ne (tgt := 23) hx hb dX2_reset_17 (by decide) (fun cb => ?_) (fun cb => ?_)
    · have hrb : rB x y = true := by rw [rB_eq, Bool.and_eq_true]; exact ⟨Classical.byContradiction (fun q => ca (ite10.mpr q)), Classical.byContradiction (fun q => cb (ite10.mpr q))⟩
      have hrn := rB_n hrb
      refine lv_aload_n hx hb dX2_reset_23 rfl (lv_at hl 0 rfl) ?_
      refine lv_iload_n hx hb dX2_reset_24 rfl (lv_at hl 1 rfl) ?_
      refine g_put hx hb hts hown hG inX2 tyX2 tyX2_ok nmX2 0 rfl rfl 0 (by decide) q392 rfl (by decide +kernel) (Nat.le_of_ble_eq_true rfl) (up2 S 0 0 x) rfl dX2_reset_25 (fun H locs hG => ?_)
      refine lv_aload_n hx hb dX2_reset_28 rfl (lv_at hl 0 rfl) ?_
      refine lv_iload_n hx hb dX2_reset_29 rfl (lv_at hl 2 rfl) ?_
      refine g_put hx hb hts hown hG inX2 tyX2 tyX2_ok nmX2 0 rfl rfl 1 (by decide) q393 rfl (by decide +kernel) (Nat.le_of_ble_eq_true rfl) (up2 (up2 S 0 0 x) 0 1 y) rfl dX2_reset_30 (fun H locs hG => ?_)
      refine lv_iconst (v := 0) hx hb dX2_reset_33 (by decide) ?_
      refine lv_istore_n (lv' := [(3, .int 0), (0, .ref (hs 0)), (1, .int x), (2, .int y)]) hx hb dX2_reset_34 rfl hl (by decide) rfl (fun ls hl => ?_)
      refine g_rec (τ := Nat) (fun j S9 => j ≤ 192 ∧ (∀ i, i < j → S9 2 i = 0 ∧ S9 3 i = 0) ∧ ∀ b, b ≠ 2 → b ≠ 3 → S9 b = (up2 (up2 S 0 0 x) 0 1 y) b) (fun j => 200 - j) (fun j => [(0, .ref (hs 0)), (1, .int x), (2, .int y), (3, .int (nI j))]) 35 4 ?_ 0 _ _ _ _ (⟨by decide, fun i hi => absurd hi (by omega), fun _ _ _ => rfl⟩) hG (lv_sub hl [1, 2, 3, 0] (rfl))
      intro x9 S9 H locs ls hI hG hl ih
      obtain ⟨hj, hA, hfr⟩ := hI
      refine lv_iload_n hx hb dX2_reset_35 rfl (lv_at hl 3 rfl) ?_
      refine lv_sipush (v := 192) hx hb dX2_reset_36 (by decide) ?_
      refine lv_icmp_ge (tgt := 62) hx hb dX2_reset_39 (by decide) (fun c39 => ?_) (fun c39 => ?_)
      · have hjl : 192 ≤ x9 := (nI_leI (a := 192) (by omega) (by omega)).mp c39
        refine lv_aload_n hx hb dX2_reset_62 rfl (lv_at hl 0 rfl) ?_
        refine lv_iconst (v := 0) hx hb dX2_reset_63 (by decide) ?_
        refine g_put hx hb hts hown hG inX2 tyX2 tyX2_ok nmX2 0 rfl rfl 4 (by decide) q396 rfl (by decide +kernel) (Nat.le_of_ble_eq_true rfl) (up2 S9 0 4 0) rfl dX2_reset_64 (fun H locs hG => ?_)
        refine lv_aload_n hx hb dX2_reset_67 rfl (lv_at hl 0 rfl) ?_
        refine lv_iconst (v := 0) hx hb dX2_reset_68 (by decide) ?_
        refine g_put hx hb hts hown hG inX2 tyX2 tyX2_ok nmX2 0 rfl rfl 18 (by decide) q410 rfl (by decide +kernel) (Nat.le_of_ble_eq_true rfl) (up2 (up2 S9 0 4 0) 0 18 0) rfl dX2_reset_69 (fun H locs hG => ?_)
        refine lv_aload_n hx hb dX2_reset_72 rfl (lv_at hl 0 rfl) ?_
        refine lv_iconst (v := 0) hx hb dX2_reset_73 (by decide) ?_
        refine g_put hx hb hts hown hG inX2 tyX2 tyX2_ok nmX2 0 rfl rfl 22 (by decide) q414 rfl (by decide +kernel) (Nat.le_of_ble_eq_true rfl) (up2 (up2 (up2 S9 0 4 0) 0 18 0) 0 22 0) rfl dX2_reset_74 (fun H locs hG => ?_)
        refine lv_iload_n hx hb dX2_reset_77 rfl (lv_at hl 1 rfl) ?_
        refine lv_iload_n hx hb dX2_reset_78 rfl (lv_at hl 2 rfl) ?_
        refine lv_imul hx hb dX2_reset_79 ?_
        refine g_iret hx hb hr hlk hG ⟨by unfold F_reset; rw [if_pos hrb], ?_⟩ dX2_reset_80
        unfold Tf_reset; rw [if_pos hrb]
        refine encM_new ⟨⟨?_, ?_, rfl, rfl, rfl⟩, fun i hi => (hA i (by omega)).1, fun i hi => (hA i (by omega)).2⟩
        · rw [← hrn.1]; show S9 0 0 = x; rw [hfr 0 (by decide) (by decide)]; rfl
        · rw [← hrn.2.1]; show S9 0 1 = y; rw [hfr 0 (by decide) (by decide)]; rfl
      · have hjl : x9 < 192 := Nat.lt_of_not_le (fun q => c39 (nI_le (a := 192) q (by omega)))
        refine lv_aload_n hx hb dX2_reset_42 rfl (lv_at hl 0 rfl) ?_
        refine g_get hx hb hts hown hG inX2 0 rfl rfl 2 (by decide) q394 (v := .ref (hs 2)) rfl dX2_reset_43 ?_
        refine lv_iload_n hx hb dX2_reset_46 rfl (lv_at hl 3 rfl) ?_
        refine lv_iconst (v := 0) hx hb dX2_reset_47 (by decide) ?_
        refine g_astN (f := S9 2) hx hb hG 1 rfl (by decide) (x9) (rfl) (hjl) (up2 S9 2 x9 0) (rfl) dX2_reset_48 (fun H locs hG => ?_)
        refine lv_aload_n hx hb dX2_reset_49 rfl (lv_at hl 0 rfl) ?_
        refine g_get hx hb hts hown hG inX2 0 rfl rfl 3 (by decide) q395 (v := .ref (hs 3)) rfl dX2_reset_50 ?_
        refine lv_iload_n hx hb dX2_reset_53 rfl (lv_at hl 3 rfl) ?_
        refine lv_iconst (v := 0) hx hb dX2_reset_54 (by decide) ?_
        refine g_astN (f := (up2 S9 2 x9 0) 3) hx hb hG 2 rfl (by decide) (x9) (rfl) (hjl) (up2 (up2 S9 2 x9 0) 3 x9 0) (rfl) dX2_reset_55 (fun H locs hG => ?_)
        refine lv_iinc (v := nI (x9 + 1)) (lv' := [(3, .int (nI (x9 + 1))), (0, .ref (hs 0)), (1, .int x), (2, .int y)]) hx hb dX2_reset_56 hl (k := 3) rfl (nI_1 x9) (by decide) rfl (fun ls hl => ?_)
        refine lv_goto (tgt := 35) hx hb dX2_reset_59 (by decide) ?_
        refine ih (x9 + 1) _ _ _ _ (by omega) ⟨hjl, fun i hi => ?_, fun b h2 h3 => by rw [up2_ne _ _ _ _ h3, up2_ne _ _ _ _ h2]; exact hfr b h2 h3⟩ hG (lv_sub hl [1, 2, 3, 0] rfl)
        rw [up2_ne _ _ _ _ (by decide), up2_eq, up2_eq, up2_ne _ _ _ _ (by decide)]
        unfold upd
        by_cases g : i = x9
        · rw [if_pos g, if_pos g]; exact ⟨rfl, rfl⟩
        · rw [if_neg g, if_neg g]; exact hA i (by omega)
    · refine lv_bipush (v := (-4)) hx hb dX2_reset_20 (by decide) ?_
      exact g_iret hx hb hr hlk hG ⟨by unfold F_reset; rw [rB_eq, if_neg (fun q => ite10.mp cb (by rw [Bool.and_eq_true] at q; exact q.2))], by unfold Tf_reset; rw [rB_eq, if_neg (fun q => ite10.mp cb (by rw [Bool.and_eq_true] at q; exact q.2))]; exact he⟩ dX2_reset_22
