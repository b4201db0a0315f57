/-! ===== the class: the plan, clip, wishes ===== -/
def wpl (G : GN) : Nat → Nat → Nat
  | 0 => G 2
  | n + 1 => if plB G (G 6 n) then lowN G (wpl G n) (G 6 n) (G 7 n) else wpl G n
def wcs (G : GN) : Nat → Nat
  | 0 => 0
  | n + 1 => if plB G (G 6 n) then wcs G n + costN G (wpl G n) (G 6 n) (G 7 n) else wcs G n
theorem lowN_le {G : GN} {Hh : Nat → Nat} {p k c : Nat} : lowN G Hh p k c ≤ Hh c := by
  unfold lowN
  split
  · rename_i g; exact Nat.le_of_lt (blk_lt g).1
  · exact Nat.le_refl _
theorem wpl_le (G : GN) (c : Nat) : ∀ n, wpl G n c ≤ G 2 c
  | 0 => Nat.le_refl _
  | n + 1 => by
    have ih := wpl_le G c n
    unfold wpl
    split
    · exact Nat.le_trans lowN_le ih
    · exact ih
theorem wpl_60 {G : GN} (hw : wf G) (n : Nat) : ∀ c, c < 192 → wpl G n c ≤ 60 := fun c hc => Nat.le_trans (wpl_le G c n) (hG2 hw c hc)
/-- the garden behind a clipping -/
def T_clip (G : GN) (p k : Nat) : GN := fun a i => if a = 1 then (if G 1 i = 2 ∧ lowN G (G 2) p k i = 0 then 0 else G 1 i) else if a = 2 then lowN G (G 2) p k i else G a i
theorem T_clip_o {G : GN} {p k a : Nat} (h1 : a ≠ 1) (h2 : a ≠ 2) : T_clip G p k a = G a := by funext i; unfold T_clip; rw [if_neg h1, if_neg h2]
theorem T_clip_1 (G : GN) (p k i : Nat) : T_clip G p k 1 i = if G 1 i = 2 ∧ lowN G (G 2) p k i = 0 then 0 else G 1 i := rfl
theorem T_clip_2 (G : GN) (p k i : Nat) : T_clip G p k 2 i = lowN G (G 2) p k i := rfl
theorem wf_clip {G : GN} (hw : wf G) (p k : Nat) : wf (T_clip G p k) := by
  unfold wf
  rw [T_clip_o (a := 0) (by decide) (by decide), T_clip_o (a := 3) (by decide) (by decide), T_clip_o (a := 4) (by decide) (by decide), T_clip_o (a := 5) (by decide) (by decide), T_clip_o (a := 6) (by decide) (by decide), T_clip_o (a := 7) (by decide) (by decide)]
  refine ⟨hw.1, fun c hc => ?_, fun k9 hk9 => ?_, hw.2.2.2.1, hw.2.2.2.2⟩
  · have h := hw.c hc
    have hl := lowN_le (G := G) (Hh := G 2) (p := p) (k := k) (c := c)
    rw [T_clip_1, T_clip_2]
    by_cases g : G 1 c = 2 ∧ lowN G (G 2) p k c = 0
    · rw [if_pos g]
      exact ⟨by omega, by omega, fun q => by omega, fun _ _ => g.2⟩
    · rw [if_neg g]
      refine ⟨h.1, by omega, fun q => ⟨by omega, by have := h.2.2.1 q; omega⟩, fun q1 q2 => ?_⟩
      have := h.2.2.2 q1 q2
      omega
  · have h := hw.f hk9
    rw [T_clip_1, if_neg (by omega)]
    exact h
def F_clip (G : GN) (x y f : Int32) : Int32 := F_clipCost G x y f
def Tf_clip (G : GN) (x y f : Int32) : GN := if vErr G x y f = 0 then T_clip G (cN x y) (nN f) else G
def F_wishCost (G : GN) : Int32 := nI (wcs G (G 0 4))
def F_wishHeight (G : GN) (x y : Int32) : Int32 := if hasB G x y then (if G 1 (cN x y) = 2 then nI (wpl G (G 0 4) (cN x y)) else -7) else -1
def spF (G : GN) (k : Nat) : Bool := decide (apN G (wpl G (G 0 4)) k < apN G (G 2) k)
def F_spoiled (G : GN) : Int32 := nI (cntB (spF G) (G 0 2))
theorem frA_12 {S S' : GS} (h : frA 12 S S') : fr12 S S' := h
theorem fr12.rf {S : GS} : fr12 S S := fun _ _ _ => rfl
theorem fr12.tr {S S1 S2 : GS} (h1 : fr12 S S1) (h2 : fr12 S1 S2) : fr12 S S2 := fun j a b => (h2 j a b).trans (h1 j a b)
theorem fr13.to12 {S S' : GS} (h : fr13 S S') : fr12 S S' := fun j _ b => h j b

set_option maxHeartbeats 4000000 in
set_option maxRecDepth 100000 in
theorem kX1_planFromPresentHeights {l : Launch} {D : va_G} {cy : ClassId} {hs : Nat → Nat} {X : va_W} (S : GS) : Ct l D cy (wC cy hs X) yX1_planFromPresentHeights cX1_planFromPresentHeights 1 none 1 18 (S) [.ref (hs 0)] (QV D (wC cy hs X) (fun S' => (∀ c, c < 192 → S' 12 c = S 3 c) ∧ ∀ j, j ≠ 12 → S' j = S j)) := by
  refine Ct.of wC_adr (plainFor_of_name (by decide)) (Nat.le_of_ble_eq_true rfl) ?_
  intro p e s m below meth c ls C hl hG
  obtain ⟨hx, hb, hml, hown, hts, hr, hlk⟩ := C
  have hl : lv_has ls 1 [(0, .ref (hs 0))] := hl
  refine lv_aload_n hx hb dX1_planFromPresentHeights_0 rfl (lv_at hl 0 rfl) ?_
  refine g_get hx hb hts hown hG inX1 0 rfl rfl 3 (by decide) q108 (v := .ref (hs 3)) rfl dX1_planFromPresentHeights_1 ?_
  refine lv_iconst (v := 0) hx hb dX1_planFromPresentHeights_4 (by decide) ?_
  refine lv_aload_n hx hb dX1_planFromPresentHeights_5 rfl (lv_at hl 0 rfl) ?_
  refine g_get hx hb hts hown hG inX1 0 rfl rfl 12 (by decide) q117 (v := .ref (hs 12)) rfl dX1_planFromPresentHeights_6 ?_
  refine lv_iconst (v := 0) hx hb dX1_planFromPresentHeights_9 (by decide) ?_
  refine lv_sipush (v := 192) hx hb dX1_planFromPresentHeights_10 (by decide) ?_
  refine va_copyi (ty := .int) (f := S 3) (g := S 12) hx hb (hml.trans hl.1.symm) hown (hts _ q295) (hts _ q297) (hts _ q296) (hts _ q45) hG.1.1 hG.2.1 hG.2.2.1 hG.2.2.2.1 2 8 0 0 rfl rfl rfl rfl rfl (by decide) (by decide) (by decide) (by decide) (by decide) (fun _ _ => rfl) (Nat.le_of_ble_eq_true rfl) (by decide) dX1_planFromPresentHeights_13 (fun H locs hP1 hD1 hS1 => ?_)
  have hG : GW D cy (wC cy hs X) (Aw (wC cy hs X) s.heap.size) s (sc S 12 (va_cpy (S 3) (S 12) 0 0 192)) H locs := ⟨hG.1, hP1, hD1, hS1, hG.2.2.2.2⟩
  exact g_vret hx hb hr hlk hG (⟨fun c hc => by show va_cpy (S 3) (S 12) 0 0 192 c = _; rw [pk_cpy_in (by omega) (by omega)]; congr 1; omega, fun j hj => by unfold sc; rw [if_neg hj]⟩) dX1_planFromPresentHeights_16
set_option maxHeartbeats 4000000 in
set_option maxRecDepth 100000 in
theorem kX1_clipCost {l : Launch} {D : va_G} {cy : ClassId} {hs : Nat → Nat} {X : va_W} (G : GN) (S : GS) (hw : wf G) (he : encC G S) (x y f : Int32) : Ct l D cy (wC cy hs X) yX1_clipCost cX1_clipCost 5 (some .int) 5 120 (S) [.ref (hs 0), .int x, .int y, .int f] (QI D (wC cy hs X) (fun r S' => r = F_clipCost G x y f ∧ fr12 S S')) := by
  refine Ct.of wC_adr (plainFor_of_name (by decide)) (Nat.le_of_ble_eq_true rfl) ?_
  intro p e s m below meth c ls C hl hG
  obtain ⟨hx, hb, hml, hown, hts, hr, hlk⟩ := C
  have hl : lv_has ls 5 [(0, .ref (hs 0)), (1, .int x), (2, .int y), (3, .int f)] := hl
  refine lv_aload_n hx hb dX1_clipCost_0 rfl (lv_at hl 0 rfl) ?_
  refine lv_iload_n hx hb dX1_clipCost_1 rfl (lv_at hl 1 rfl) ?_
  refine lv_iload_n hx hb dX1_clipCost_2 rfl (lv_at hl 2 rfl) ?_
  refine lv_iload_n hx hb dX1_clipCost_3 rfl (lv_at hl 3 rfl) ?_
  refine g_calliE wC_adr hG (g_runV (As := [.int x, .int y, .int f]) (rest := []) ⟨hx, hb, hml, hown, hts⟩ wC_adr (kX1_viewError S x y f) wyX1_viewError q205 hG 0 rfl rfl ⟨by decide, by decide⟩ rfl rfl hl.1 (Nat.le_of_ble_eq_true rfl) ⟨Nat.le_refl 0, Nat.le_refl 0⟩ dX1_clipCost_4) (fun H locs hG => ?_)
  refine g_top (y := vErr G x y f) (vErrC hw he x y f) ?_
  refine lv_istore (lv' := [(4, .int (vErr G x y f)), (0, .ref (hs 0)), (1, .int x), (2, .int y), (3, .int f)]) hx hb dX1_clipCost_7 hl (by decide) rfl (fun ls hl => ?_)
  refine lv_iload hx hb dX1_clipCost_9 (lv_at hl 0 rfl) ?_
  refine lv_if_eq (tgt := 17) hx hb dX1_clipCost_11 (by decide) (fun c_e => ?_) (fun c_e => ?_)
  · obtain ⟨h1, h2, h3⟩ := vErr_0 c_e
    have hc := has_c hw h1
    have hfe := (ft_k h2).1
    have hk := (ft_k h2).2
    have hl : lv_has ls 5 [(4, .int (vErr G x y f)), (0, .ref (hs 0)), (1, .int x), (2, .int y), (3, .int (nI (nN f)))] := by rw [← hfe]; exact hl
    refine lv_aload_n hx hb dX1_clipCost_17 rfl (lv_at hl 1 rfl) ?_
    refine g_callv wC_adr hG (g_runV (As := []) (rest := []) ⟨hx, hb, hml, hown, hts⟩ wC_adr (kX1_planFromPresentHeights S) wyX1_planFromPresentHeights q291 hG 0 rfl rfl ⟨by decide, by decide⟩ rfl rfl hl.1 (Nat.le_of_ble_eq_true rfl) ⟨Nat.le_refl 0, Nat.le_refl 0⟩ dX1_clipCost_18) (fun S1 H locs hp hG => ?_)
    obtain ⟨hpl0, hpl1⟩ := hp
    refine lv_aload_n hx hb dX1_clipCost_21 rfl (lv_at hl 1 rfl) ?_
    refine lv_iload_n hx hb dX1_clipCost_22 rfl (lv_at hl 2 rfl) ?_
    refine lv_iload_n hx hb dX1_clipCost_23 rfl (lv_at hl 3 rfl) ?_
    refine g_stat (As := [.int x, .int y]) (rest := [.ref (hs 0)]) ⟨hx, hb, hml, hown, hts⟩ (kX1_cellAt x y) wyX1_cellAt q170 hG ⟨by decide, by decide⟩ rfl rfl hl.1 (Nat.le_of_ble_eq_true rfl) ⟨Nat.le_refl 0, Nat.le_refl 0⟩ dX1_clipCost_24 (fun H locs hG => ?_)
    refine g_top (y := nI (cN x y)) (cellC h1) ?_
    refine lv_iload_n hx hb dX1_clipCost_27 rfl (lv_at hl 4 rfl) ?_
    refine lv_aload_n hx hb dX1_clipCost_28 rfl (lv_at hl 1 rfl) ?_
    refine g_get hx hb hts hown hG inX1 0 rfl rfl 12 (by decide) q117 (v := .ref (hs 12)) rfl dX1_clipCost_29 ?_
    have he1 : encC G S1 := he.fr2 (fun j h _ => hpl1 j h)
    refine g_calli wC_adr hG (g_runV (As := [.int (nI (cN x y)), .int (nI (nN f)), .ref (hs 12)]) (rest := []) ⟨hx, hb, hml, hown, hts⟩ wC_adr (kX1_lowerBlockers_12 G S1 hw he1 (G 2) (fun c hc => (hpl0 c hc).trans (he.2.2.1 c hc)) (hG2 hw) (cN x y) (nN f) hc hk h3) wyX1_lowerBlockers q298 hG 0 rfl rfl ⟨by decide, by decide⟩ rfl rfl hl.1 (Nat.le_of_ble_eq_true rfl) ⟨Nat.le_refl 0, Nat.le_refl 0⟩ dX1_clipCost_32) (fun r3 S2 H locs hp hG => ?_)
    obtain ⟨rfl, hlo, hfa⟩ := hp
    exact g_iret hx hb hr hlk hG (⟨by unfold F_clipCost; rw [if_pos c_e], fun j a b => (hfa j a b).trans (hpl1 j a)⟩) dX1_clipCost_35
  · refine lv_iload hx hb dX1_clipCost_14 (lv_at hl 0 rfl) ?_
    exact g_iret hx hb hr hlk hG (⟨by unfold F_clipCost; rw [if_neg c_e], fr12.rf⟩) dX1_clipCost_16
set_option maxHeartbeats 4000000 in
set_option maxRecDepth 100000 in
theorem kX1_turnBareHedgesIntoLawn {l : Launch} {D : va_G} {cy : ClassId} {hs : Nat → Nat} {X : va_W} (S : GS) (K Hh : Nat → Nat) (hK : ∀ c, c < 192 → S 2 c = nI (K c)) (hH : ∀ c, c < 192 → S 3 c = nI (Hh c)) (hK9 : ∀ c, c < 192 → K c ≤ 4) (hH9 : ∀ c, c < 192 → Hh c ≤ 60) : Ct l D cy (wC cy hs X) yX1_turnBareHedgesIntoLawn cX1_turnBareHedgesIntoLawn 2 none 0 0 (S) [.ref (hs 0)] (QV D (wC cy hs X) (fun S' => (∀ c, c < 192 → S' 2 c = nI (if K c = 2 ∧ Hh c = 0 then 0 else K c)) ∧ ∀ i, i ≠ 2 → S' i = S i)) := by
  refine Ct.of wC_adr (plainFor_of_name (by decide)) (Nat.le_of_ble_eq_true rfl) ?_
  intro p e s m below meth c ls C hl hG
  obtain ⟨hx, hb, hml, hown, hts, hr, hlk⟩ := C
  have hl : lv_has ls 2 [(0, .ref (hs 0))] := hl
  refine lv_iconst (v := 0) hx hb dX1_turnBareHedgesIntoLawn_0 (by decide) ?_
  refine lv_istore_n (lv' := [(1, .int 0), (0, .ref (hs 0))]) hx hb dX1_turnBareHedgesIntoLawn_1 rfl hl (by decide) rfl (fun ls hl => ?_)
  refine g_rec (τ := Nat) (fun j S9 => j ≤ 192 ∧ (∀ c, c < 192 → S9 2 c = nI (if c < j ∧ K c = 2 ∧ Hh c = 0 then 0 else K c)) ∧ ∀ i, i ≠ 2 → S9 i = S i) (fun j => 200 - j) (fun j => [(0, .ref (hs 0)), (1, .int (nI j))]) 2 2 ?_ 0 _ _ _ _ (⟨by decide, fun c hc => by rw [if_neg (by omega)]; exact hK c hc, fun _ _ => rfl⟩) hG (lv_sub hl [1, 0] (rfl))
  intro x9 S9 H locs ls hI hG hl ih
  obtain ⟨hj, hA, hfr⟩ := hI
  refine lv_iload_n hx hb dX1_turnBareHedgesIntoLawn_2 rfl (lv_at hl 1 rfl) ?_
  refine lv_sipush (v := 192) hx hb dX1_turnBareHedgesIntoLawn_3 (by decide) ?_
  refine lv_icmp_ge (tgt := 41) hx hb dX1_turnBareHedgesIntoLawn_6 (by decide) (fun c6 => ?_) (fun c6 => ?_)
  · have hjl : 192 ≤ x9 := (nI_leI (a := 192) (by omega) (by omega)).mp c6
    have hfin : ∀ c, c < 192 → S9 2 c = nI (if K c = 2 ∧ Hh c = 0 then 0 else K c) := fun c hc => by
      have e9 : (c < x9 ∧ K c = 2 ∧ Hh c = 0) ↔ (K c = 2 ∧ Hh c = 0) := by omega
      rw [hA c hc]; simp only [e9]
    exact g_vret hx hb hr hlk hG ⟨hfin, hfr⟩ dX1_turnBareHedgesIntoLawn_41
  · have hjl : x9 < 192 := Nat.lt_of_not_le (fun q => c6 (nI_le (a := 192) q (by omega)))
    refine lv_aload_n hx hb dX1_turnBareHedgesIntoLawn_9 rfl (lv_at hl 0 rfl) ?_
    refine g_get hx hb hts hown hG inX1 0 rfl rfl 2 (by decide) q107 (v := .ref (hs 2)) rfl dX1_turnBareHedgesIntoLawn_10 ?_
    refine lv_iload_n hx hb dX1_turnBareHedgesIntoLawn_13 rfl (lv_at hl 1 rfl) ?_
    refine g_aldN (f := S9 2) hx hb hG 1 rfl (by decide) (x9) (rfl) (hjl) dX1_turnBareHedgesIntoLawn_14 ?_
    refine g_top (y := nI (K x9)) (by rw [hA x9 hjl, if_neg (by omega)]) ?_
    refine lv_iconst (v := 2) hx hb dX1_turnBareHedgesIntoLawn_15 (by decide) ?_
    refine lv_icmp_ne (tgt := 35) hx hb dX1_turnBareHedgesIntoLawn_16 (by decide) (fun c16 => ?_) (fun c16 => ?_)
    · have hk2 : ¬ K x9 = 2 := fun q => c16 (by rw [q]; rfl)
      refine lv_iinc (v := nI (x9 + 1)) (lv' := [(1, .int (nI (x9 + 1))), (0, .ref (hs 0))]) hx hb dX1_turnBareHedgesIntoLawn_35 hl (k := 1) rfl (nI_1 x9) (by decide) rfl (fun ls hl => ?_)
      refine lv_goto (tgt := 2) hx hb dX1_turnBareHedgesIntoLawn_38 (by decide) ?_
      refine ih (x9 + 1) _ _ _ _ (by omega) ⟨by omega, fun c hc => ?_, hfr⟩ hG (lv_sub hl [1, 0] rfl)
      rw [hA c hc]
      by_cases g : c = x9
      · subst g; rw [if_neg (by omega), if_neg (fun q => hk2 q.2.1)]
      · have e9 : (c < x9 + 1 ∧ K c = 2 ∧ Hh c = 0) ↔ (c < x9 ∧ K c = 2 ∧ Hh c = 0) := by omega
        simp only [e9]
    · have hk2 : K x9 = 2 := (nI_eq (b := 2) (by have := hK9 x9 hjl; omega) (by decide)).mp c16
      refine lv_aload_n hx hb dX1_turnBareHedgesIntoLawn_19 rfl (lv_at hl 0 rfl) ?_
      refine g_get hx hb hts hown hG inX1 0 rfl rfl 3 (by decide) q108 (v := .ref (hs 3)) rfl dX1_turnBareHedgesIntoLawn_20 ?_
      refine lv_iload_n hx hb dX1_turnBareHedgesIntoLawn_23 rfl (lv_at hl 1 rfl) ?_
      refine g_aldN (f := S9 3) hx hb hG 2 rfl (by decide) (x9) (rfl) (hjl) dX1_turnBareHedgesIntoLawn_24 ?_
      refine g_top (y := nI (Hh x9)) (by rw [hfr 3 (by decide)]; exact hH x9 hjl) ?_
      refine lv_if_ne (tgt := 35) hx hb dX1_turnBareHedgesIntoLawn_25 (by decide) (fun c25 => ?_) (fun c25 => ?_)
      · have hh0 : ¬ Hh x9 = 0 := fun q => c25 (by rw [q]; rfl)
        refine lv_iinc (v := nI (x9 + 1)) (lv' := [(1, .int (nI (x9 + 1))), (0, .ref (hs 0))]) hx hb dX1_turnBareHedgesIntoLawn_35 hl (k := 1) rfl (nI_1 x9) (by decide) rfl (fun ls hl => ?_)
        refine lv_goto (tgt := 2) hx hb dX1_turnBareHedgesIntoLawn_38 (by decide) ?_
        refine ih (x9 + 1) _ _ _ _ (by omega) ⟨by omega, fun c hc => ?_, hfr⟩ hG (lv_sub hl [1, 0] rfl)
        rw [hA c hc]
        by_cases g : c = x9
        · subst g; rw [if_neg (by omega), if_neg (fun q => hh0 q.2.2)]
        · have e9 : (c < x9 + 1 ∧ K c = 2 ∧ Hh c = 0) ↔ (c < x9 ∧ K c = 2 ∧ Hh c = 0) := by omega
          simp only [e9]
      · have hh0 : Hh x9 = 0 := (nI_eq (b := 0) (by have := hH9 x9 hjl; omega) (by decide)).mp c25
        refine lv_aload_n hx hb dX1_turnBareHedgesIntoLawn_28 rfl (lv_at hl 0 rfl) ?_
        refine g_get hx hb hts hown hG inX1 0 rfl rfl 2 (by decide) q107 (v := .ref (hs 2)) rfl dX1_turnBareHedgesIntoLawn_29 ?_
        refine lv_iload_n hx hb dX1_turnBareHedgesIntoLawn_32 rfl (lv_at hl 1 rfl) ?_
        refine lv_iconst (v := 0) hx hb dX1_turnBareHedgesIntoLawn_33 (by decide) ?_
        refine g_astN (f := S9 2) hx hb hG 1 rfl (by decide) (x9) (rfl) (hjl) (up2 S9 2 x9 0) (rfl) dX1_turnBareHedgesIntoLawn_34 (fun H locs hG => ?_)
        refine lv_iinc (v := nI (x9 + 1)) (lv' := [(1, .int (nI (x9 + 1))), (0, .ref (hs 0))]) hx hb dX1_turnBareHedgesIntoLawn_35 hl (k := 1) rfl (nI_1 x9) (by decide) rfl (fun ls hl => ?_)
        refine lv_goto (tgt := 2) hx hb dX1_turnBareHedgesIntoLawn_38 (by decide) ?_
        refine ih (x9 + 1) _ _ _ _ (by omega) ⟨by omega, fun c hc => ?_, fun i hi => by rw [up2_ne _ _ _ _ hi]; exact hfr i hi⟩ hG (lv_sub hl [1, 0] rfl)
        rw [up2_eq]
        unfold upd
        by_cases g : c = x9
        · subst g; rw [if_pos rfl, if_pos ⟨by omega, hk2, hh0⟩]; rfl
        · rw [if_neg g, hA c hc]
          have e9 : (c < x9 + 1 ∧ K c = 2 ∧ Hh c = 0) ↔ (c < x9 ∧ K c = 2 ∧ Hh c = 0) := by omega
          simp only [e9]
set_option maxHeartbeats 4000000 in
set_option maxRecDepth 100000 in
theorem kX1_clip {l : Launch} {D : va_G} {cy : ClassId} {hs : Nat → Nat} {X : va_W} (G : GN) (S : GS) (hw : wf G) (he : encC G S) (x y f : Int32) : Ct l D cy (wC cy hs X) yX1_clip cX1_clip 6 (some .int) 5 120 (S) [.ref (hs 0), .int x, .int y, .int f] (QI D (wC cy hs X) (fun r S' => r = F_clip G x y f ∧ encC (Tf_clip G x y f) S')) := by
  refine Ct.of wC_adr (plainFor_of_name (by decide)) (Nat.le_of_ble_eq_true rfl) ?_
  intro p e s m below meth c ls C hl hG
  obtain ⟨hx, hb, hml, hown, hts, hr, hlk⟩ := C
  have hl : lv_has ls 6 [(0, .ref (hs 0)), (1, .int x), (2, .int y), (3, .int f)] := hl
  refine lv_aload_n hx hb dX1_clip_0 rfl (lv_at hl 0 rfl) ?_
  refine lv_iload_n hx hb dX1_clip_1 rfl (lv_at hl 1 rfl) ?_
  refine lv_iload_n hx hb dX1_clip_2 rfl (lv_at hl 2 rfl) ?_
  refine lv_iload_n hx hb dX1_clip_3 rfl (lv_at hl 3 rfl) ?_
  refine g_calliE wC_adr hG (g_runV (As := [.int x, .int y, .int f]) (rest := []) ⟨hx, hb, hml, hown, hts⟩ wC_adr (kX1_viewError S x y f) wyX1_viewError q205 hG 0 rfl rfl ⟨by decide, by decide⟩ rfl rfl hl.1 (Nat.le_of_ble_eq_true rfl) ⟨Nat.le_refl 0, Nat.le_refl 0⟩ dX1_clip_4) (fun H locs hG => ?_)
  refine g_top (y := vErr G x y f) (vErrC hw he x y f) ?_
  refine lv_istore (lv' := [(4, .int (vErr G x y f)), (0, .ref (hs 0)), (1, .int x), (2, .int y), (3, .int f)]) hx hb dX1_clip_7 hl (by decide) rfl (fun ls hl => ?_)
  refine lv_iload hx hb dX1_clip_9 (lv_at hl 0 rfl) ?_
  refine lv_if_eq (tgt := 17) hx hb dX1_clip_11 (by decide) (fun c_e => ?_) (fun c_e => ?_)
  · obtain ⟨h1, h2, h3⟩ := vErr_0 c_e
    have hc := has_c hw h1
    have hfe := (ft_k h2).1
    have hk := (ft_k h2).2
    have hl : lv_has ls 6 [(4, .int (vErr G x y f)), (0, .ref (hs 0)), (1, .int x), (2, .int y), (3, .int (nI (nN f)))] := by rw [← hfe]; exact hl
    refine lv_aload_n hx hb dX1_clip_17 rfl (lv_at hl 1 rfl) ?_
    refine lv_iload_n hx hb dX1_clip_18 rfl (lv_at hl 2 rfl) ?_
    refine lv_iload_n hx hb dX1_clip_19 rfl (lv_at hl 3 rfl) ?_
    refine g_stat (As := [.int x, .int y]) (rest := [.ref (hs 0)]) ⟨hx, hb, hml, hown, hts⟩ (kX1_cellAt x y) wyX1_cellAt q170 hG ⟨by decide, by decide⟩ rfl rfl hl.1 (Nat.le_of_ble_eq_true rfl) ⟨Nat.le_refl 0, Nat.le_refl 0⟩ dX1_clip_20 (fun H locs hG => ?_)
    refine g_top (y := nI (cN x y)) (cellC h1) ?_
    refine lv_iload_n hx hb dX1_clip_23 rfl (lv_at hl 4 rfl) ?_
    refine lv_aload_n hx hb dX1_clip_24 rfl (lv_at hl 1 rfl) ?_
    refine g_get hx hb hts hown hG inX1 0 rfl rfl 3 (by decide) q108 (v := .ref (hs 3)) rfl dX1_clip_25 ?_
    refine g_calli wC_adr hG (g_runV (As := [.int (nI (cN x y)), .int (nI (nN f)), .ref (hs 3)]) (rest := []) ⟨hx, hb, hml, hown, hts⟩ wC_adr (kX1_lowerBlockers_3 G S hw he (G 2) he.2.2.1 (hG2 hw) (cN x y) (nN f) hc hk h3) wyX1_lowerBlockers q298 hG 0 rfl rfl ⟨by decide, by decide⟩ rfl rfl hl.1 (Nat.le_of_ble_eq_true rfl) ⟨Nat.le_refl 0, Nat.le_refl 0⟩ dX1_clip_28) (fun r2 S1 H locs hp hG => ?_)
    obtain ⟨rfl, hlo, hfa⟩ := hp
    refine lv_istore (lv' := [(5, .int (nI (costN G (G 2) (cN x y) (nN f)))), (4, .int (vErr G x y f)), (0, .ref (hs 0)), (1, .int x), (2, .int y), (3, .int (nI (nN f)))]) hx hb dX1_clip_31 hl (by decide) rfl (fun ls hl => ?_)
    refine lv_aload_n hx hb dX1_clip_33 rfl (lv_at hl 2 rfl) ?_
    refine g_callv wC_adr hG (g_runV (As := []) (rest := []) ⟨hx, hb, hml, hown, hts⟩ wC_adr (kX1_turnBareHedgesIntoLawn S1 (G 1) (lowN G (G 2) (cN x y) (nN f)) (fun c hc => by rw [hfa 2 (by decide) (by decide)]; exact he.2.1 c hc) hlo (fun c hc => (hw.c hc).1) (fun c hc => Nat.le_trans lowN_le (hG2 hw c hc))) wyX1_turnBareHedgesIntoLawn q306 hG 0 rfl rfl ⟨by decide, by decide⟩ rfl rfl hl.1 (Nat.le_of_ble_eq_true rfl) ⟨Nat.le_refl 0, Nat.le_refl 0⟩ dX1_clip_34) (fun S3 H locs hp hG => ?_)
    obtain ⟨htk, hto⟩ := hp
    refine lv_iload hx hb dX1_clip_37 (lv_at hl 0 rfl) ?_
    refine g_iret hx hb hr hlk hG (⟨by unfold F_clip F_clipCost; rw [if_pos c_e], ?_⟩) dX1_clip_39
    have hz : ∀ j, j ≠ 2 → j ≠ 3 → j ≠ 13 → S3 j = S j := fun j a b d => (hto j a).trans (hfa j b d)
    unfold Tf_clip; rw [if_pos c_e]
    unfold encC
    rw [T_clip_o (a := 0) (by decide) (by decide), T_clip_o (a := 3) (by decide) (by decide), T_clip_o (a := 4) (by decide) (by decide), T_clip_o (a := 5) (by decide) (by decide), T_clip_o (a := 6) (by decide) (by decide), T_clip_o (a := 7) (by decide) (by decide), hz 0 (by decide) (by decide) (by decide), hz 5 (by decide) (by decide) (by decide), hz 6 (by decide) (by decide) (by decide), hz 8 (by decide) (by decide) (by decide), hz 10 (by decide) (by decide) (by decide), hz 11 (by decide) (by decide) (by decide)]
    exact ⟨he.1, fun c hc => by rw [htk c hc]; rfl, fun c hc => by rw [hto 3 (by decide), hlo c hc]; rfl, he.2.2.2.1, he.2.2.2.2.1, he.2.2.2.2.2⟩
  · refine lv_iload hx hb dX1_clip_14 (lv_at hl 0 rfl) ?_
    exact g_iret hx hb hr hlk hG (⟨by unfold F_clip F_clipCost; rw [if_neg c_e], by unfold Tf_clip; rw [if_neg c_e]; exact he⟩) dX1_clip_16
set_option maxHeartbeats 4000000 in
set_option maxRecDepth 100000 in
theorem kX1_planWishes {l : Launch} {D : va_G} {cy : ClassId} {hs : Nat → Nat} {X : va_W} (G : GN) (S : GS) (hw : wf G) (he : encC G S) : Ct l D cy (wC cy hs X) yX1_planWishes cX1_planWishes 3 (some .int) 5 120 (S) [.ref (hs 0)] (QI D (wC cy hs X) (fun r S' => r = nI (wcs G (G 0 4)) ∧ (∀ c, c < 192 → S' 12 c = nI (wpl G (G 0 4) c)) ∧ fr12 S S')) := by
  refine Ct.of wC_adr (plainFor_of_name (by decide)) (Nat.le_of_ble_eq_true rfl) ?_
  intro p e s m below meth c ls C hl hG
  obtain ⟨hx, hb, hml, hown, hts, hr, hlk⟩ := C
  have hl : lv_has ls 3 [(0, .ref (hs 0))] := hl
  refine lv_aload_n hx hb dX1_planWishes_0 rfl (lv_at hl 0 rfl) ?_
  refine g_callv wC_adr hG (g_runV (As := []) (rest := []) ⟨hx, hb, hml, hown, hts⟩ wC_adr (kX1_planFromPresentHeights S) wyX1_planFromPresentHeights q291 hG 0 rfl rfl ⟨by decide, by decide⟩ rfl rfl hl.1 (Nat.le_of_ble_eq_true rfl) ⟨Nat.le_refl 0, Nat.le_refl 0⟩ dX1_planWishes_1) (fun S1 H locs hp hG => ?_)
  obtain ⟨hpl0, hpl1⟩ := hp
  refine lv_iconst (v := 0) hx hb dX1_planWishes_4 (by decide) ?_
  refine lv_istore_n (lv' := [(1, .int 0), (0, .ref (hs 0))]) hx hb dX1_planWishes_5 rfl hl (by decide) rfl (fun ls hl => ?_)
  refine lv_iconst (v := 0) hx hb dX1_planWishes_6 (by decide) ?_
  refine lv_istore_n (lv' := [(2, .int 0), (1, .int 0), (0, .ref (hs 0))]) hx hb dX1_planWishes_7 rfl hl (by decide) rfl (fun ls hl => ?_)
  refine g_rec (τ := Nat) (fun j S9 => j ≤ G 0 4 ∧ (∀ c, c < 192 → S9 12 c = nI (wpl G j c)) ∧ fr12 S S9) (fun j => 100 - j) (fun j => [(0, .ref (hs 0)), (1, .int (nI (wcs G j))), (2, .int (nI j))]) 8 3 ?_ 0 _ _ _ _ (⟨Nat.zero_le _, fun c hc => (hpl0 c hc).trans (he.2.2.1 c hc), fun j a _ => hpl1 j a⟩) hG (lv_sub hl [2, 1, 0] (rfl))
  intro x9 S9 H locs ls hI hG hl ih
  obtain ⟨hj, hA, hfr⟩ := hI
  have he9 := he.fr2 hfr
  have hnq := hw.1.2.2.2.2.2.2
  refine lv_iload_n hx hb dX1_planWishes_8 rfl (lv_at hl 2 rfl) ?_
  refine lv_aload_n hx hb dX1_planWishes_9 rfl (lv_at hl 0 rfl) ?_
  refine g_get hx hb hts hown hG inX1 0 rfl rfl 9 (by decide) q114 (v := .int (S9 0 9)) rfl dX1_planWishes_10 ?_
  refine g_top (y := nI (G 0 4)) (he9.1.2.2.2.2) ?_
  refine lv_icmp_ge (tgt := 58) hx hb dX1_planWishes_13 (by decide) (fun c13 => ?_) (fun c13 => ?_)
  · have hjl : G 0 4 ≤ x9 := (nI_leI (by omega) (by omega)).mp c13
    refine lv_iload_n hx hb dX1_planWishes_58 rfl (lv_at hl 1 rfl) ?_
    exact g_iret hx hb hr hlk hG (by rw [show G 0 4 = x9 by omega]; exact ⟨rfl, hA, hfr⟩) dX1_planWishes_59
  · have hjl : x9 < G 0 4 := Nat.lt_of_not_le (fun q => c13 (nI_le q (by omega)))
    have hq9 := hw.2.2.2.2 x9 hjl
    refine lv_aload_n hx hb dX1_planWishes_16 rfl (lv_at hl 0 rfl) ?_
    refine lv_aload_n hx hb dX1_planWishes_17 rfl (lv_at hl 0 rfl) ?_
    refine g_get hx hb hts hown hG inX1 0 rfl rfl 10 (by decide) q115 (v := .ref (hs 10)) rfl dX1_planWishes_18 ?_
    refine lv_iload_n hx hb dX1_planWishes_21 rfl (lv_at hl 2 rfl) ?_
    refine g_aldN (f := S9 10) hx hb hG 6 rfl (by decide) (x9) (rfl) (by omega) dX1_planWishes_22 ?_
    refine g_top (y := nI (G 6 x9)) ((he9.2.2.2.2.2 x9 hjl).1) ?_
    refine g_calliE wC_adr hG (g_runV (As := [.int (nI (G 6 x9))]) (rest := []) ⟨hx, hb, hml, hown, hts⟩ wC_adr (kX1_isPlace S9 (nI (G 6 x9))) wyX1_isPlace q217 hG 0 rfl rfl ⟨by decide, by decide⟩ rfl rfl hl.1 (Nat.le_of_ble_eq_true rfl) ⟨Nat.le_refl 0, Nat.le_refl 0⟩ dX1_planWishes_23) (fun H locs hG => ?_)
    refine g_top (y := if plB G (G 6 x9) then 1 else 0) (placeC hw he9 hq9.1) ?_
    refine lv_if_eq (tgt := 52) hx hb dX1_planWishes_26 (by decide) (fun c26 => ?_) (fun c26 => ?_)
    · refine lv_iinc (v := nI (x9 + 1)) (lv' := [(2, .int (nI (x9 + 1))), (0, .ref (hs 0)), (1, .int (nI (wcs G x9)))]) hx hb dX1_planWishes_52 hl (k := 2) rfl (nI_1 x9) (by decide) rfl (fun ls hl => ?_)
      refine lv_goto (tgt := 8) hx hb dX1_planWishes_55 (by decide) ?_
      have e1 : wpl G (x9 + 1) = wpl G x9 := if_neg (ite10.mp c26)
      have e2 : wcs G (x9 + 1) = wcs G x9 := if_neg (ite10.mp c26)
      exact ih (x9 + 1) _ _ _ _ (by omega) ⟨hjl, fun c hc => by rw [e1]; exact hA c hc, hfr⟩ hG (lv_sub hl [1, 2, 0] (by rw [e2]; rfl))
    · have hpl9 : plB G (G 6 x9) = true := Classical.byContradiction (fun q => c26 (ite10.mpr q))
      refine lv_iload_n hx hb dX1_planWishes_29 rfl (lv_at hl 1 rfl) ?_
      refine lv_aload_n hx hb dX1_planWishes_30 rfl (lv_at hl 0 rfl) ?_
      refine lv_aload_n hx hb dX1_planWishes_31 rfl (lv_at hl 0 rfl) ?_
      refine g_get hx hb hts hown hG inX1 0 rfl rfl 10 (by decide) q115 (v := .ref (hs 10)) rfl dX1_planWishes_32 ?_
      refine lv_iload_n hx hb dX1_planWishes_35 rfl (lv_at hl 2 rfl) ?_
      refine g_aldN (f := S9 10) hx hb hG 6 rfl (by decide) (x9) (rfl) (by omega) dX1_planWishes_36 ?_
      refine g_top (y := nI (G 6 x9)) ((he9.2.2.2.2.2 x9 hjl).1) ?_
      refine lv_aload_n hx hb dX1_planWishes_37 rfl (lv_at hl 0 rfl) ?_
      refine g_get hx hb hts hown hG inX1 0 rfl rfl 11 (by decide) q116 (v := .ref (hs 11)) rfl dX1_planWishes_38 ?_
      refine lv_iload_n hx hb dX1_planWishes_41 rfl (lv_at hl 2 rfl) ?_
      refine g_aldN (f := S9 11) hx hb hG 7 rfl (by decide) (x9) (rfl) (by omega) dX1_planWishes_42 ?_
      refine g_top (y := nI (G 7 x9)) ((he9.2.2.2.2.2 x9 hjl).2) ?_
      refine lv_aload_n hx hb dX1_planWishes_43 rfl (lv_at hl 0 rfl) ?_
      refine g_get hx hb hts hown hG inX1 0 rfl rfl 12 (by decide) q117 (v := .ref (hs 12)) rfl dX1_planWishes_44 ?_
      refine g_calli wC_adr hG (g_runV (As := [.int (nI (G 6 x9)), .int (nI (G 7 x9)), .ref (hs 12)]) (rest := [.int (nI (wcs G x9))]) ⟨hx, hb, hml, hown, hts⟩ wC_adr (kX1_lowerBlockers_12 G S9 hw he9 (wpl G x9) hA (wpl_60 hw x9) (G 6 x9) (G 7 x9) hq9.1 hq9.2 hpl9) wyX1_lowerBlockers q298 hG 0 rfl rfl ⟨by decide, by decide⟩ rfl rfl hl.1 (Nat.le_of_ble_eq_true rfl) ⟨Nat.le_refl 0, Nat.le_refl 0⟩ dX1_planWishes_47) (fun r3 S2 H locs hp hG => ?_)
      obtain ⟨rfl, hlo, hfa⟩ := hp
      refine lv_iadd hx hb dX1_planWishes_50 ?_
      refine g_top (y := nI (wcs G x9 + costN G (wpl G x9) (G 6 x9) (G 7 x9))) (nI_add _ _) ?_
      refine lv_istore_n (lv' := [(1, .int (nI (wcs G x9 + costN G (wpl G x9) (G 6 x9) (G 7 x9)))), (0, .ref (hs 0)), (2, .int (nI x9))]) hx hb dX1_planWishes_51 rfl hl (by decide) rfl (fun ls hl => ?_)
      refine lv_iinc (v := nI (x9 + 1)) (lv' := [(2, .int (nI (x9 + 1))), (1, .int (nI (wcs G x9 + costN G (wpl G x9) (G 6 x9) (G 7 x9)))), (0, .ref (hs 0))]) hx hb dX1_planWishes_52 hl (k := 2) rfl (nI_1 x9) (by decide) rfl (fun ls hl => ?_)
      refine lv_goto (tgt := 8) hx hb dX1_planWishes_55 (by decide) ?_
      have e1 : wpl G (x9 + 1) = lowN G (wpl G x9) (G 6 x9) (G 7 x9) := if_pos hpl9
      have e2 : wcs G (x9 + 1) = wcs G x9 + costN G (wpl G x9) (G 6 x9) (G 7 x9) := if_pos hpl9
      exact ih (x9 + 1) _ _ _ _ (by omega) ⟨hjl, fun c hc => by rw [e1]; exact hlo c hc, hfr.tr (frA_12 hfa)⟩ hG (lv_sub hl [2, 1, 0] (by rw [e2]; rfl))
set_option maxHeartbeats 4000000 in
set_option maxRecDepth 100000 in
theorem kX1_wishCost {l : Launch} {D : va_G} {cy : ClassId} {hs : Nat → Nat} {X : va_W} (G : GN) (S : GS) (hw : wf G) (he : encC G S) : Ct l D cy (wC cy hs X) yX1_wishCost cX1_wishCost 1 (some .int) 6 142 (S) [.ref (hs 0)] (QI D (wC cy hs X) (fun r S' => r = F_wishCost G ∧ fr12 S S')) := by
  refine Ct.of wC_adr (plainFor_of_name (by decide)) (Nat.le_of_ble_eq_true rfl) ?_
  intro p e s m below meth c ls C hl hG
  obtain ⟨hx, hb, hml, hown, hts, hr, hlk⟩ := C
  have hl : lv_has ls 1 [(0, .ref (hs 0))] := hl
  refine lv_aload_n hx hb dX1_wishCost_0 rfl (lv_at hl 0 rfl) ?_
  refine g_calli wC_adr hG (g_runV (As := []) (rest := []) ⟨hx, hb, hml, hown, hts⟩ wC_adr (kX1_planWishes G S hw he) wyX1_planWishes q356 hG 0 rfl rfl ⟨by decide, by decide⟩ rfl rfl hl.1 (Nat.le_of_ble_eq_true rfl) ⟨Nat.le_refl 0, Nat.le_refl 0⟩ dX1_wishCost_1) (fun r2 S1 H locs hp hG => ?_)
  obtain ⟨rfl, hpw, hfw⟩ := hp
  exact g_iret hx hb hr hlk hG (⟨rfl, hfw⟩) dX1_wishCost_4
set_option maxHeartbeats 4000000 in
set_option maxRecDepth 100000 in
theorem kX1_wishHeight {l : Launch} {D : va_G} {cy : ClassId} {hs : Nat → Nat} {X : va_W} (G : GN) (S : GS) (hw : wf G) (he : encC G S) (x y : Int32) : Ct l D cy (wC cy hs X) yX1_wishHeight cX1_wishHeight 4 (some .int) 6 142 (S) [.ref (hs 0), .int x, .int y] (QI D (wC cy hs X) (fun r S' => r = F_wishHeight G x y ∧ fr12 S S')) := by
  refine Ct.of wC_adr (plainFor_of_name (by decide)) (Nat.le_of_ble_eq_true rfl) ?_
  intro p e s m below meth c ls C hl hG
  obtain ⟨hx, hb, hml, hown, hts, hr, hlk⟩ := C
  have hl : lv_has ls 4 [(0, .ref (hs 0)), (1, .int x), (2, .int y)] := hl
  refine lv_aload_n hx hb dX1_wishHeight_0 rfl (lv_at hl 0 rfl) ?_
  refine lv_iload_n hx hb dX1_wishHeight_1 rfl (lv_at hl 1 rfl) ?_
  refine lv_iload_n hx hb dX1_wishHeight_2 rfl (lv_at hl 2 rfl) ?_
  refine g_calliE wC_adr hG (g_runV (As := [.int x, .int y]) (rest := []) ⟨hx, hb, hml, hown, hts⟩ wC_adr (kX1_hasCell S x y) wyX1_hasCell q166 hG 0 rfl rfl ⟨by decide, by decide⟩ rfl rfl hl.1 (Nat.le_of_ble_eq_true rfl) ⟨Nat.le_refl 0, Nat.le_refl 0⟩ dX1_wishHeight_3) (fun H locs hG => ?_)
  refine g_top (y := if hasB G x y then 1 else 0) (hasC hw he x y) ?_
  refine lv_if_ne (tgt := 11) hx hb dX1_wishHeight_6 (by decide) (fun c6 => ?_) (fun c6 => ?_)
  · have h1 : hasB G x y = true := Classical.byContradiction (fun q => c6 (ite10.mpr q))
    have hc := has_c hw h1
    refine lv_iload_n hx hb dX1_wishHeight_11 rfl (lv_at hl 1 rfl) ?_
    refine lv_iload_n hx hb dX1_wishHeight_12 rfl (lv_at hl 2 rfl) ?_
    refine g_stat (As := [.int x, .int y]) (rest := []) ⟨hx, hb, hml, hown, hts⟩ (kX1_cellAt x y) wyX1_cellAt q170 hG ⟨by decide, by decide⟩ rfl rfl hl.1 (Nat.le_of_ble_eq_true rfl) ⟨Nat.le_refl 0, Nat.le_refl 0⟩ dX1_wishHeight_13 (fun H locs hG => ?_)
    refine g_top (y := nI (cN x y)) (cellC h1) ?_
    refine lv_istore_n (lv' := [(3, .int (nI (cN x y))), (0, .ref (hs 0)), (1, .int x), (2, .int y)]) hx hb dX1_wishHeight_16 rfl hl (by decide) rfl (fun ls hl => ?_)
    refine lv_aload_n hx hb dX1_wishHeight_17 rfl (lv_at hl 1 rfl) ?_
    refine g_get hx hb hts hown hG inX1 0 rfl rfl 2 (by decide) q107 (v := .ref (hs 2)) rfl dX1_wishHeight_18 ?_
    refine lv_iload_n hx hb dX1_wishHeight_21 rfl (lv_at hl 0 rfl) ?_
    refine g_aldN (f := S 2) hx hb hG 1 rfl (by decide) (cN x y) (rfl) (hc) dX1_wishHeight_22 ?_
    refine g_top (y := nI (G 1 (cN x y))) (he.2.1 _ hc) ?_
    refine lv_iconst (v := 2) hx hb dX1_wishHeight_23 (by decide) ?_
    refine lv_icmp_eq (tgt := 30) hx hb dX1_wishHeight_24 (by decide) (fun c24 => ?_) (fun c24 => ?_)
    · refine lv_aload_n hx hb dX1_wishHeight_30 rfl (lv_at hl 1 rfl) ?_
      refine g_calli wC_adr hG (g_runV (As := []) (rest := []) ⟨hx, hb, hml, hown, hts⟩ wC_adr (kX1_planWishes G S hw he) wyX1_planWishes q356 hG 0 rfl rfl ⟨by decide, by decide⟩ rfl rfl hl.1 (Nat.le_of_ble_eq_true rfl) ⟨Nat.le_refl 0, Nat.le_refl 0⟩ dX1_wishHeight_31) (fun r2 S1 H locs hp hG => ?_)
      obtain ⟨rfl, hpw, hfw⟩ := hp
      refine lv_pop hx hb dX1_wishHeight_34 rfl ?_
      refine lv_aload_n hx hb dX1_wishHeight_35 rfl (lv_at hl 1 rfl) ?_
      refine g_get hx hb hts hown hG inX1 0 rfl rfl 12 (by decide) q117 (v := .ref (hs 12)) rfl dX1_wishHeight_36 ?_
      refine lv_iload_n hx hb dX1_wishHeight_39 rfl (lv_at hl 0 rfl) ?_
      refine g_aldN (f := S1 12) hx hb hG 8 rfl (by decide) (cN x y) (rfl) (hc) dX1_wishHeight_40 ?_
      refine g_top (y := nI (wpl G (G 0 4) (cN x y))) (hpw _ hc) ?_
      exact g_iret hx hb hr hlk hG (⟨by unfold F_wishHeight; rw [if_pos h1, if_pos ((nI_eq (b := 2) (by have := (hw.c hc).1; omega) (by decide)).mp c24)], hfw⟩) dX1_wishHeight_41
    · refine lv_bipush (v := (-7)) hx hb dX1_wishHeight_27 (by decide) ?_
      exact g_iret hx hb hr hlk hG (⟨by unfold F_wishHeight; rw [if_pos h1, if_neg (fun q => c24 (by rw [q]; rfl))], fr12.rf⟩) dX1_wishHeight_29
  · refine lv_iconst (v := (-1)) hx hb dX1_wishHeight_9 (by decide) ?_
    exact g_iret hx hb hr hlk hG (⟨by unfold F_wishHeight; rw [if_neg (ite10.mp c6)], fr12.rf⟩) dX1_wishHeight_10
theorem sp_iff {G : GN} {k : Nat} (hn : G 0 3 ≤ 40) : spF G k = (!decide ((if apN G (wpl G (G 0 4)) k < G 0 3 then nI (apN G (wpl G (G 0 4)) k) else -7) = (-7 : Int32)) && (decide ((if apN G (G 2) k < G 0 3 then nI (apN G (G 2) k) else -7) = (-7 : Int32)) || !decide ((if apN G (G 2) k < G 0 3 then nI (apN G (G 2) k) else -7) ≤ (if apN G (wpl G (G 0 4)) k < G 0 3 then nI (apN G (wpl G (G 0 4)) k) else -7)))) := by
  have h1 := apN_le G (G 2) k
  have h2 := apN_le G (wpl G (G 0 4)) k
  have neg : ∀ n : Nat, n ≤ 40 → ¬ nI n = (-7 : Int32) := by decide
  unfold spF
  by_cases a : apN G (wpl G (G 0 4)) k < G 0 3
  · rw [if_pos a, decide_eq_false (neg _ (by omega))]
    by_cases b : apN G (G 2) k < G 0 3
    · rw [if_pos b, decide_eq_false (neg _ (by omega))]
      by_cases c : apN G (wpl G (G 0 4)) k < apN G (G 2) k
      · rw [decide_eq_true c, decide_eq_false (nI_ge c (by omega))]; rfl
      · rw [decide_eq_false c, decide_eq_true (nI_le (by omega) (by omega))]; rfl
    · rw [if_neg b, decide_eq_true (by omega)]; rfl
  · rw [if_neg a, decide_eq_false (by omega)]; rfl
set_option maxHeartbeats 4000000 in
set_option maxRecDepth 100000 in
theorem kX1_spoiled {l : Launch} {D : va_G} {cy : ClassId} {hs : Nat → Nat} {X : va_W} (G : GN) (S : GS) (hw : wf G) (he : encC G S) : Ct l D cy (wC cy hs X) yX1_spoiled cX1_spoiled 5 (some .int) 6 142 (S) [.ref (hs 0)] (QI D (wC cy hs X) (fun r S' => r = F_spoiled G ∧ fr12 S S')) := by
  refine Ct.of wC_adr (plainFor_of_name (by decide)) (Nat.le_of_ble_eq_true rfl) ?_
  intro p e s m below meth c ls C hl hG
  obtain ⟨hx, hb, hml, hown, hts, hr, hlk⟩ := C
  have hl : lv_has ls 5 [(0, .ref (hs 0))] := hl
  refine lv_aload_n hx hb dX1_spoiled_0 rfl (lv_at hl 0 rfl) ?_
  refine g_calli wC_adr hG (g_runV (As := []) (rest := []) ⟨hx, hb, hml, hown, hts⟩ wC_adr (kX1_planWishes G S hw he) wyX1_planWishes q356 hG 0 rfl rfl ⟨by decide, by decide⟩ rfl rfl hl.1 (Nat.le_of_ble_eq_true rfl) ⟨Nat.le_refl 0, Nat.le_refl 0⟩ dX1_spoiled_1) (fun r2 S1 H locs hp hG => ?_)
  obtain ⟨rfl, hpw, hfw⟩ := hp
  refine lv_pop hx hb dX1_spoiled_4 rfl ?_
  refine lv_iconst (v := 0) hx hb dX1_spoiled_5 (by decide) ?_
  refine lv_istore_n (lv' := [(1, .int 0), (0, .ref (hs 0))]) hx hb dX1_spoiled_6 rfl hl (by decide) rfl (fun ls hl => ?_)
  refine lv_iconst (v := 0) hx hb dX1_spoiled_7 (by decide) ?_
  refine lv_istore_n (lv' := [(2, .int 0), (1, .int 0), (0, .ref (hs 0))]) hx hb dX1_spoiled_8 rfl hl (by decide) rfl (fun ls hl => ?_)
  have he1 := he.fr2 hfw
  refine g_rec (τ := Nat) (fun j S9 => j ≤ G 0 2 ∧ fr13 S1 S9) (fun j => 100 - j) (fun j => [(0, .ref (hs 0)), (1, .int (nI (cntB (spF G) j))), (2, .int (nI j))]) 9 5 ?_ 0 _ _ _ _ (⟨Nat.zero_le _, fr13.rf⟩) hG (lv_sub hl [2, 1, 0] (rfl))
  intro x9 S9 H locs ls hI hG hl ih
  obtain ⟨hj, hfr⟩ := hI
  have he9 := he1.fr hfr
  have hnf := hw.1.2.2.2.2.1
  have hnw := hw.1.2.2.2.2.2.1
  have hpw9 : ∀ c, c < 192 → S9 12 c = nI (wpl G (G 0 4) c) := fun c hc => by rw [hfr 12 (by decide)]; exact hpw c hc
  refine lv_iload_n hx hb dX1_spoiled_9 rfl (lv_at hl 2 rfl) ?_
  refine lv_aload_n hx hb dX1_spoiled_10 rfl (lv_at hl 0 rfl) ?_
  refine g_get hx hb hts hown hG inX1 0 rfl rfl 4 (by decide) q109 (v := .int (S9 0 4)) rfl dX1_spoiled_11 ?_
  refine g_top (y := nI (G 0 2)) (he9.1.2.2.1) ?_
  refine lv_icmp_ge (tgt := 66) hx hb dX1_spoiled_14 (by decide) (fun c14 => ?_) (fun c14 => ?_)
  · have hjl : G 0 2 ≤ x9 := (nI_leI (by omega) (by omega)).mp c14
    refine lv_iload_n hx hb dX1_spoiled_66 rfl (lv_at hl 1 rfl) ?_
    exact g_iret hx hb hr hlk hG (⟨by unfold F_spoiled; rw [show G 0 2 = x9 by omega], hfw.tr hfr.to12⟩) dX1_spoiled_67
  · have hjl : x9 < G 0 2 := Nat.lt_of_not_le (fun q => c14 (nI_le q (by omega)))
    refine lv_aload_n hx hb dX1_spoiled_17 rfl (lv_at hl 0 rfl) ?_
    refine lv_iload_n hx hb dX1_spoiled_18 rfl (lv_at hl 2 rfl) ?_
    refine lv_aload_n hx hb dX1_spoiled_19 rfl (lv_at hl 0 rfl) ?_
    refine g_get hx hb hts hown hG inX1 0 rfl rfl 3 (by decide) q108 (v := .ref (hs 3)) rfl dX1_spoiled_20 ?_
    refine g_calli wC_adr hG (g_runV (As := [.int (nI x9), .ref (hs 3)]) (rest := []) ⟨hx, hb, hml, hown, hts⟩ wC_adr (kX1_firstAppearance_3 G S9 hw he9 (G 2) he9.2.2.1 (hG2 hw) x9 hjl) wyX1_firstAppearance q332 hG 0 rfl rfl ⟨by decide, by decide⟩ rfl rfl hl.1 (Nat.le_of_ble_eq_true rfl) ⟨Nat.le_refl 0, Nat.le_refl 0⟩ dX1_spoiled_23) (fun r4 S3 H locs hp hG => ?_)
    obtain ⟨rfl, hf1⟩ := hp
    have he10 := he9.fr hf1
    refine lv_istore_n (lv' := [(3, .int (if apN G (G 2) x9 < G 0 3 then nI (apN G (G 2) x9) else -7)), (0, .ref (hs 0)), (1, .int (nI (cntB (spF G) x9))), (2, .int (nI x9))]) hx hb dX1_spoiled_26 rfl hl (by decide) rfl (fun ls hl => ?_)
    refine lv_aload_n hx hb dX1_spoiled_27 rfl (lv_at hl 1 rfl) ?_
    refine lv_iload_n hx hb dX1_spoiled_28 rfl (lv_at hl 3 rfl) ?_
    refine lv_aload_n hx hb dX1_spoiled_29 rfl (lv_at hl 1 rfl) ?_
    refine g_get hx hb hts hown hG inX1 0 rfl rfl 12 (by decide) q117 (v := .ref (hs 12)) rfl dX1_spoiled_30 ?_
    refine g_calli wC_adr hG (g_runV (As := [.int (nI x9), .ref (hs 12)]) (rest := []) ⟨hx, hb, hml, hown, hts⟩ wC_adr (kX1_firstAppearance_12 G S3 hw he10 (wpl G (G 0 4)) (fun c hc => by rw [hf1 12 (by decide)]; exact hpw9 c hc) (wpl_60 hw _) x9 hjl) wyX1_firstAppearance q332 hG 0 rfl rfl ⟨by decide, by decide⟩ rfl rfl hl.1 (Nat.le_of_ble_eq_true rfl) ⟨Nat.le_refl 0, Nat.le_refl 0⟩ dX1_spoiled_33) (fun r6 S5 H locs hp hG => ?_)
    obtain ⟨rfl, hf2⟩ := hp
    have hsp := sp_iff (G := G) (k := x9) hnw
    refine lv_istore (lv' := [(4, .int (if apN G (wpl G (G 0 4)) x9 < G 0 3 then nI (apN G (wpl G (G 0 4)) x9) else -7)), (3, .int (if apN G (G 2) x9 < G 0 3 then nI (apN G (G 2) x9) else -7)), (0, .ref (hs 0)), (1, .int (nI (cntB (spF G) x9))), (2, .int (nI x9))]) hx hb dX1_spoiled_36 hl (by decide) rfl (fun ls hl => ?_)
    refine lv_iload hx hb dX1_spoiled_38 (lv_at hl 0 rfl) ?_
    refine lv_bipush (v := (-7)) hx hb dX1_spoiled_40 (by decide) ?_
    refine lv_icmp_eq (tgt := 60) hx hb dX1_spoiled_42 (by decide) (fun c7 => ?_) (fun c7 => ?_)
    · refine lv_iinc (v := nI (x9 + 1)) (lv' := [(2, .int (nI (x9 + 1))), (4, .int (if apN G (wpl G (G 0 4)) x9 < G 0 3 then nI (apN G (wpl G (G 0 4)) x9) else -7)), (3, .int (if apN G (G 2) x9 < G 0 3 then nI (apN G (G 2) x9) else -7)), (0, .ref (hs 0)), (1, .int (nI (cntB (spF G) x9)))]) hx hb dX1_spoiled_60 hl (k := 4) rfl (nI_1 x9) (by decide) rfl (fun ls hl => ?_)
      refine lv_goto (tgt := 9) hx hb dX1_spoiled_63 (by decide) ?_
      have e9 : spF G x9 = false := by
        rw [hsp]; simp [c7]
      exact ih (x9 + 1) _ _ _ _ (by omega) ⟨hjl, (hfr.tr hf1).tr hf2⟩ hG (lv_sub hl [3, 4, 0] (by show lv_pick _ _ = [_, (1, .int (nI (cntB (spF G) x9 + (if spF G x9 then 1 else 0)))), _]; rw [e9]; rfl))
    · refine lv_iload_n hx hb dX1_spoiled_45 rfl (lv_at hl 1 rfl) ?_
      refine lv_bipush (v := (-7)) hx hb dX1_spoiled_46 (by decide) ?_
      refine lv_icmp_eq (tgt := 57) hx hb dX1_spoiled_48 (by decide) (fun c8 => ?_) (fun c8 => ?_)
      · refine lv_iinc (v := nI ((cntB (spF G) x9) + 1)) (lv' := [(1, .int (nI ((cntB (spF G) x9) + 1))), (4, .int (if apN G (wpl G (G 0 4)) x9 < G 0 3 then nI (apN G (wpl G (G 0 4)) x9) else -7)), (3, .int (if apN G (G 2) x9 < G 0 3 then nI (apN G (G 2) x9) else -7)), (0, .ref (hs 0)), (2, .int (nI x9))]) hx hb dX1_spoiled_57 hl (k := 3) rfl (nI_1 (cntB (spF G) x9)) (by decide) rfl (fun ls hl => ?_)
        refine lv_iinc (v := nI (x9 + 1)) (lv' := [(2, .int (nI (x9 + 1))), (1, .int (nI ((cntB (spF G) x9) + 1))), (4, .int (if apN G (wpl G (G 0 4)) x9 < G 0 3 then nI (apN G (wpl G (G 0 4)) x9) else -7)), (3, .int (if apN G (G 2) x9 < G 0 3 then nI (apN G (G 2) x9) else -7)), (0, .ref (hs 0))]) hx hb dX1_spoiled_60 hl (k := 4) rfl (nI_1 x9) (by decide) rfl (fun ls hl => ?_)
        refine lv_goto (tgt := 9) hx hb dX1_spoiled_63 (by decide) ?_
        have e9 : spF G x9 = true := by
          rw [hsp]; simp [c7, c8]
        exact ih (x9 + 1) _ _ _ _ (by omega) ⟨hjl, (hfr.tr hf1).tr hf2⟩ hG (lv_sub hl [4, 1, 0] (by show lv_pick _ _ = [_, (1, .int (nI (cntB (spF G) x9 + (if spF G x9 then 1 else 0)))), _]; rw [e9]; rfl))
      · refine lv_iload hx hb dX1_spoiled_51 (lv_at hl 0 rfl) ?_
        refine lv_iload_n hx hb dX1_spoiled_53 rfl (lv_at hl 1 rfl) ?_
        refine lv_icmp_ge (tgt := 60) hx hb dX1_spoiled_54 (by decide) (fun c9 => ?_) (fun c9 => ?_)
        · refine lv_iinc (v := nI (x9 + 1)) (lv' := [(2, .int (nI (x9 + 1))), (4, .int (if apN G (wpl G (G 0 4)) x9 < G 0 3 then nI (apN G (wpl G (G 0 4)) x9) else -7)), (3, .int (if apN G (G 2) x9 < G 0 3 then nI (apN G (G 2) x9) else -7)), (0, .ref (hs 0)), (1, .int (nI (cntB (spF G) x9)))]) hx hb dX1_spoiled_60 hl (k := 4) rfl (nI_1 x9) (by decide) rfl (fun ls hl => ?_)
          refine lv_goto (tgt := 9) hx hb dX1_spoiled_63 (by decide) ?_
          have e9 : spF G x9 = false := by
            rw [hsp]; simp [c7, c8, c9]
          exact ih (x9 + 1) _ _ _ _ (by omega) ⟨hjl, (hfr.tr hf1).tr hf2⟩ hG (lv_sub hl [3, 4, 0] (by show lv_pick _ _ = [_, (1, .int (nI (cntB (spF G) x9 + (if spF G x9 then 1 else 0)))), _]; rw [e9]; rfl))
        · refine lv_iinc (v := nI ((cntB (spF G) x9) + 1)) (lv' := [(1, .int (nI ((cntB (spF G) x9) + 1))), (4, .int (if apN G (wpl G (G 0 4)) x9 < G 0 3 then nI (apN G (wpl G (G 0 4)) x9) else -7)), (3, .int (if apN G (G 2) x9 < G 0 3 then nI (apN G (G 2) x9) else -7)), (0, .ref (hs 0)), (2, .int (nI x9))]) hx hb dX1_spoiled_57 hl (k := 3) rfl (nI_1 (cntB (spF G) x9)) (by decide) rfl (fun ls hl => ?_)
          refine lv_iinc (v := nI (x9 + 1)) (lv' := [(2, .int (nI (x9 + 1))), (1, .int (nI ((cntB (spF G) x9) + 1))), (4, .int (if apN G (wpl G (G 0 4)) x9 < G 0 3 then nI (apN G (wpl G (G 0 4)) x9) else -7)), (3, .int (if apN G (G 2) x9 < G 0 3 then nI (apN G (G 2) x9) else -7)), (0, .ref (hs 0))]) hx hb dX1_spoiled_60 hl (k := 4) rfl (nI_1 x9) (by decide) rfl (fun ls hl => ?_)
          refine lv_goto (tgt := 9) hx hb dX1_spoiled_63 (by decide) ?_
          have e9 : spF G x9 = true := by
            rw [hsp]; simp [c7, c8, c9]
          exact ih (x9 + 1) _ _ _ _ (by omega) ⟨hjl, (hfr.tr hf1).tr hf2⟩ hG (lv_sub hl [4, 1, 0] (by show lv_pick _ _ = [_, (1, .int (nI (cntB (spF G) x9 + (if spF G x9 then 1 else 0)))), _]; rw [e9]; rfl))
