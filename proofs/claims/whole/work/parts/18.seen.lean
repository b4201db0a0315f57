/-! ===== the class: what is seen ===== -/
theorem hG2 {G : GN} (hw : wf G) : ∀ c, c < 192 → G 2 c ≤ 60 := fun c hc => (hw.c hc).2.1
/-- a bit set of the first n numbers -/
def setI (f : Nat → Bool) : Nat → Int32
  | 0 => 0
  | n + 1 => setI f n ||| (if f n then (1 : Int32) <<< (nI n &&& 31) else 0)
/-- the first number from i on, among n, that is one of f; else the end -/
def fsB (f : Nat → Bool) : Nat → Nat → Nat
  | 0, i => i
  | n + 1, i => if f i then i else fsB f n (i + 1)
theorem fsB_spec (f : Nat → Bool) : ∀ n i, i ≤ fsB f n i ∧ fsB f n i ≤ i + n ∧ (∀ j, i ≤ j → j < fsB f n i → f j = false) ∧ (fsB f n i < i + n → f (fsB f n i) = true)
  | 0, i => ⟨Nat.le_refl _, Nat.le_refl _, fun j h1 h2 => absurd h1 (by unfold fsB at h2; omega), fun h => absurd h (by unfold fsB; omega)⟩
  | n + 1, i => by
    have ih := fsB_spec f n (i + 1)
    unfold fsB
    by_cases h : f i = true
    · rw [if_pos h]; exact ⟨by omega, by omega, fun j h1 h2 => by omega, fun _ => h⟩
    · rw [if_neg h]
      refine ⟨by omega, by omega, fun j h1 h2 => ?_, fun q => ih.2.2.2 (by omega)⟩
      rcases Nat.lt_or_ge i j with g | g
      · exact ih.2.2.1 j g h2
      · have : j = i := by omega
        subst this
        cases hf : f j
        · rfl
        · exact absurd hf h
/-- where feature k appears on the walk: the number of the place, or the walk's length -/
def apF (G : GN) (Hh : Nat → Nat) (k i : Nat) : Bool := plB G (G 5 i) && visB G Hh (G 5 i) k
def apN (G : GN) (Hh : Nat → Nat) (k : Nat) : Nat := fsB (apF G Hh k) (G 0 3) 0
theorem apN_le (G : GN) (Hh : Nat → Nat) (k : Nat) : apN G Hh k ≤ G 0 3 := by
  have := (fsB_spec (apF G Hh k) (G 0 3) 0).2.1
  unfold apN; omega
theorem or_0 (x : Int32) : x ||| 0 = x := by
  apply Int32.toBitVec_inj.1
  show x.toBitVec ||| 0#32 = x.toBitVec
  simp
def visSet (G : GN) (c : Nat) : Int32 := if plB G c then setI (visB G (G 2) c) (G 0 2) else 0
def F_sees (G : GN) (x y f : Int32) : Int32 := if vErr G x y f = 0 then (if visB G (G 2) (cN x y) (nN f) then 1 else 0) else vErr G x y f
def F_seen (G : GN) (x y : Int32) : Int32 := if pErr G x y = 0 then setI (visB G (G 2) (cN x y)) (G 0 2) else pErr G x y
def F_blockers (G : GN) (x y f : Int32) : Int32 := if vErr G x y f = 0 then nI (cntB (blk G (G 2) (cN x y) (nN f)) 192) else vErr G x y f
def F_appears (G : GN) (f : Int32) : Int32 := if ftB G f then (if apN G (G 2) (nN f) < G 0 3 then nI (apN G (G 2) (nN f)) else -7) else -2

set_option maxHeartbeats 4000000 in
set_option maxRecDepth 100000 in
theorem kX1_isVisible_3 {l : Launch} {D : va_G} {cy : ClassId} {hs : Nat → Nat} {X : va_W} (G : GN) (S : GS) (hw : wf G) (he : encC G S) (Hh : Nat → Nat) (hH : ∀ c, c < 192 → S 3 c = nI (Hh c)) (hH9 : ∀ c, c < 192 → Hh c ≤ 60) (p9 k : Nat) (hp : p9 < 192) (hk : k < G 0 2) (hpl : plB G p9 = true) : Ct l D cy (wC cy hs X) yX1_isVisible cX1_isVisible 4 (some .boolean) 4 93 (S) [.ref (hs 0), .int (nI p9), .int (nI k), .ref (hs 3)] (QI D (wC cy hs X) (fun r S' => r = (if visB G Hh p9 k then 1 else 0) ∧ fr13 S S')) := by
  refine Ct.of wC_adr (plainFor_of_name (by decide)) (Nat.le_of_ble_eq_true rfl) ?_
  intro p e s m below meth c ls C hl hG
  obtain ⟨hx, hb, hml, hown, hts, hr, hlk⟩ := C
  have hl : lv_has ls 4 [(0, .ref (hs 0)), (1, .int (nI p9)), (2, .int (nI k)), (3, .ref (hs 3))] := hl
  refine lv_aload_n hx hb dX1_isVisible_0 rfl (lv_at hl 0 rfl) ?_
  refine lv_iload_n hx hb dX1_isVisible_1 rfl (lv_at hl 1 rfl) ?_
  refine lv_iload_n hx hb dX1_isVisible_2 rfl (lv_at hl 2 rfl) ?_
  refine g_callvE wC_adr hG (g_runV (As := [.int (nI p9), .int (nI k)]) (rest := []) ⟨hx, hb, hml, hown, hts⟩ wC_adr (kX1_aim G S hw he p9 k hp hk) wyX1_aim q228 hG 0 rfl rfl ⟨by decide, by decide⟩ rfl rfl hl.1 (Nat.le_of_ble_eq_true rfl) ⟨Nat.le_refl 0, Nat.le_refl 0⟩ dX1_isVisible_3) (fun H locs hG => ?_)
  refine lv_aload_n hx hb dX1_isVisible_6 rfl (lv_at hl 0 rfl) ?_
  refine lv_aload_n hx hb dX1_isVisible_7 rfl (lv_at hl 3 rfl) ?_
  refine g_calliE wC_adr hG (g_runV (As := [.ref (hs 3)]) (rest := []) ⟨hx, hb, hml, hown, hts⟩ wC_adr (kX1_findNextBlocker_3 G S hw he.2.1 Hh hH hH9 p9 k 0 hp hk (Nat.zero_le _)) wyX1_findNextBlocker q252 hG 0 rfl rfl ⟨by decide, by decide⟩ rfl rfl hl.1 (Nat.le_of_ble_eq_true rfl) ⟨Nat.le_refl 0, Nat.le_refl 0⟩ dX1_isVisible_8) (fun H locs hG => ?_)
  refine lv_if_ne (tgt := 18) hx hb dX1_isVisible_11 (by decide) (fun c1 => ?_) (fun c1 => ?_)
  · refine lv_iconst (v := 0) hx hb dX1_isVisible_18 (by decide) ?_
    exact g_zret hx hb hr hlk hG rfl (⟨by rw [vis_iff hw hp hk hpl, decide_eq_false (fun q => c1 (ite01.mpr q))]; rfl, fr13_sc S _⟩) dX1_isVisible_19
  · refine lv_iconst (v := 1) hx hb dX1_isVisible_14 (by decide) ?_
    refine lv_goto (tgt := 19) hx hb dX1_isVisible_15 (by decide) ?_
    exact g_zret hx hb hr hlk hG rfl (⟨by rw [vis_iff hw hp hk hpl, decide_eq_true (ite01.mp c1)]; rfl, fr13_sc S _⟩) dX1_isVisible_19
set_option maxHeartbeats 4000000 in
set_option maxRecDepth 100000 in
theorem kX1_isVisible_12 {l : Launch} {D : va_G} {cy : ClassId} {hs : Nat → Nat} {X : va_W} (G : GN) (S : GS) (hw : wf G) (he : encC G S) (Hh : Nat → Nat) (hH : ∀ c, c < 192 → S 12 c = nI (Hh c)) (hH9 : ∀ c, c < 192 → Hh c ≤ 60) (p9 k : Nat) (hp : p9 < 192) (hk : k < G 0 2) (hpl : plB G p9 = true) : Ct l D cy (wC cy hs X) yX1_isVisible cX1_isVisible 4 (some .boolean) 4 93 (S) [.ref (hs 0), .int (nI p9), .int (nI k), .ref (hs 12)] (QI D (wC cy hs X) (fun r S' => r = (if visB G Hh p9 k then 1 else 0) ∧ fr13 S S')) := by
  refine Ct.of wC_adr (plainFor_of_name (by decide)) (Nat.le_of_ble_eq_true rfl) ?_
  intro p e s m below meth c ls C hl hG
  obtain ⟨hx, hb, hml, hown, hts, hr, hlk⟩ := C
  have hl : lv_has ls 4 [(0, .ref (hs 0)), (1, .int (nI p9)), (2, .int (nI k)), (3, .ref (hs 12))] := hl
  refine lv_aload_n hx hb dX1_isVisible_0 rfl (lv_at hl 0 rfl) ?_
  refine lv_iload_n hx hb dX1_isVisible_1 rfl (lv_at hl 1 rfl) ?_
  refine lv_iload_n hx hb dX1_isVisible_2 rfl (lv_at hl 2 rfl) ?_
  refine g_callvE wC_adr hG (g_runV (As := [.int (nI p9), .int (nI k)]) (rest := []) ⟨hx, hb, hml, hown, hts⟩ wC_adr (kX1_aim G S hw he p9 k hp hk) wyX1_aim q228 hG 0 rfl rfl ⟨by decide, by decide⟩ rfl rfl hl.1 (Nat.le_of_ble_eq_true rfl) ⟨Nat.le_refl 0, Nat.le_refl 0⟩ dX1_isVisible_3) (fun H locs hG => ?_)
  refine lv_aload_n hx hb dX1_isVisible_6 rfl (lv_at hl 0 rfl) ?_
  refine lv_aload_n hx hb dX1_isVisible_7 rfl (lv_at hl 3 rfl) ?_
  refine g_calliE wC_adr hG (g_runV (As := [.ref (hs 12)]) (rest := []) ⟨hx, hb, hml, hown, hts⟩ wC_adr (kX1_findNextBlocker_12 G S hw he.2.1 Hh hH hH9 p9 k 0 hp hk (Nat.zero_le _)) wyX1_findNextBlocker q252 hG 0 rfl rfl ⟨by decide, by decide⟩ rfl rfl hl.1 (Nat.le_of_ble_eq_true rfl) ⟨Nat.le_refl 0, Nat.le_refl 0⟩ dX1_isVisible_8) (fun H locs hG => ?_)
  refine lv_if_ne (tgt := 18) hx hb dX1_isVisible_11 (by decide) (fun c1 => ?_) (fun c1 => ?_)
  · refine lv_iconst (v := 0) hx hb dX1_isVisible_18 (by decide) ?_
    exact g_zret hx hb hr hlk hG rfl (⟨by rw [vis_iff hw hp hk hpl, decide_eq_false (fun q => c1 (ite01.mpr q))]; rfl, fr13_sc S _⟩) dX1_isVisible_19
  · refine lv_iconst (v := 1) hx hb dX1_isVisible_14 (by decide) ?_
    refine lv_goto (tgt := 19) hx hb dX1_isVisible_15 (by decide) ?_
    exact g_zret hx hb hr hlk hG rfl (⟨by rw [vis_iff hw hp hk hpl, decide_eq_true (ite01.mp c1)]; rfl, fr13_sc S _⟩) dX1_isVisible_19
set_option maxHeartbeats 4000000 in
set_option maxRecDepth 100000 in
theorem kX1_sees {l : Launch} {D : va_G} {cy : ClassId} {hs : Nat → Nat} {X : va_W} (G : GN) (S : GS) (hw : wf G) (he : encC G S) (x y f : Int32) : Ct l D cy (wC cy hs X) yX1_sees cX1_sees 5 (some .int) 5 116 (S) [.ref (hs 0), .int x, .int y, .int f] (QI D (wC cy hs X) (fun r S' => r = F_sees G x y f ∧ fr13 S S')) := by
  refine Ct.of wC_adr (plainFor_of_name (by decide)) (Nat.le_of_ble_eq_true rfl) ?_
  intro p e s m below meth c ls C hl hG
  obtain ⟨hx, hb, hml, hown, hts, hr, hlk⟩ := C
  have hl : lv_has ls 5 [(0, .ref (hs 0)), (1, .int x), (2, .int y), (3, .int f)] := hl
  refine lv_aload_n hx hb dX1_sees_0 rfl (lv_at hl 0 rfl) ?_
  refine lv_iload_n hx hb dX1_sees_1 rfl (lv_at hl 1 rfl) ?_
  refine lv_iload_n hx hb dX1_sees_2 rfl (lv_at hl 2 rfl) ?_
  refine lv_iload_n hx hb dX1_sees_3 rfl (lv_at hl 3 rfl) ?_
  refine g_calliE wC_adr hG (g_runV (As := [.int x, .int y, .int f]) (rest := []) ⟨hx, hb, hml, hown, hts⟩ wC_adr (kX1_viewError S x y f) wyX1_viewError q205 hG 0 rfl rfl ⟨by decide, by decide⟩ rfl rfl hl.1 (Nat.le_of_ble_eq_true rfl) ⟨Nat.le_refl 0, Nat.le_refl 0⟩ dX1_sees_4) (fun H locs hG => ?_)
  refine g_top (y := vErr G x y f) (vErrC hw he x y f) ?_
  refine lv_istore (lv' := [(4, .int (vErr G x y f)), (0, .ref (hs 0)), (1, .int x), (2, .int y), (3, .int f)]) hx hb dX1_sees_7 hl (by decide) rfl (fun ls hl => ?_)
  refine lv_iload hx hb dX1_sees_9 (lv_at hl 0 rfl) ?_
  refine lv_if_eq (tgt := 17) hx hb dX1_sees_11 (by decide) (fun c_e => ?_) (fun c_e => ?_)
  · obtain ⟨h1, h2, h3⟩ := vErr_0 c_e
    have hc := has_c hw h1
    have hfe := (ft_k h2).1
    have hk := (ft_k h2).2
    have hl : lv_has ls 5 [(4, .int (vErr G x y f)), (0, .ref (hs 0)), (1, .int x), (2, .int y), (3, .int (nI (nN f)))] := by rw [← hfe]; exact hl
    refine lv_aload_n hx hb dX1_sees_17 rfl (lv_at hl 1 rfl) ?_
    refine lv_iload_n hx hb dX1_sees_18 rfl (lv_at hl 2 rfl) ?_
    refine lv_iload_n hx hb dX1_sees_19 rfl (lv_at hl 3 rfl) ?_
    refine g_stat (As := [.int x, .int y]) (rest := [.ref (hs 0)]) ⟨hx, hb, hml, hown, hts⟩ (kX1_cellAt x y) wyX1_cellAt q170 hG ⟨by decide, by decide⟩ rfl rfl hl.1 (Nat.le_of_ble_eq_true rfl) ⟨Nat.le_refl 0, Nat.le_refl 0⟩ dX1_sees_20 (fun H locs hG => ?_)
    refine g_top (y := nI (cN x y)) (cellC h1) ?_
    refine lv_iload_n hx hb dX1_sees_23 rfl (lv_at hl 4 rfl) ?_
    refine lv_aload_n hx hb dX1_sees_24 rfl (lv_at hl 1 rfl) ?_
    refine g_get hx hb hts hown hG inX1 0 rfl rfl 3 (by decide) q108 (v := .ref (hs 3)) rfl dX1_sees_25 ?_
    refine g_calli wC_adr hG (g_runV (As := [.int (nI (cN x y)), .int (nI (nN f)), .ref (hs 3)]) (rest := []) ⟨hx, hb, hml, hown, hts⟩ wC_adr (kX1_isVisible_3 G S hw he (G 2) he.2.2.1 (hG2 hw) (cN x y) (nN f) hc hk h3) wyX1_isVisible q224 hG 0 rfl rfl ⟨by decide, by decide⟩ rfl rfl hl.1 (Nat.le_of_ble_eq_true rfl) ⟨Nat.le_refl 0, Nat.le_refl 0⟩ dX1_sees_28) (fun r2 S1 H locs hp hG => ?_)
    obtain ⟨rfl, hfr⟩ := hp
    refine lv_if_eq (tgt := 38) hx hb dX1_sees_31 (by decide) (fun c9 => ?_) (fun c9 => ?_)
    · refine lv_iconst (v := 0) hx hb dX1_sees_38 (by decide) ?_
      exact g_iret hx hb hr hlk hG (⟨by unfold F_sees; rw [if_pos c_e]; rw [if_neg (ite10.mp c9)], hfr⟩) dX1_sees_39
    · refine lv_iconst (v := 1) hx hb dX1_sees_34 (by decide) ?_
      refine lv_goto (tgt := 39) hx hb dX1_sees_35 (by decide) ?_
      exact g_iret hx hb hr hlk hG (⟨by unfold F_sees; rw [if_pos c_e]; rw [if_pos (Classical.byContradiction (fun q => c9 (ite10.mpr q)))], hfr⟩) dX1_sees_39
  · refine lv_iload hx hb dX1_sees_14 (lv_at hl 0 rfl) ?_
    exact g_iret hx hb hr hlk hG (⟨by unfold F_sees; rw [if_neg c_e], fr13.rf⟩) dX1_sees_16
set_option maxHeartbeats 4000000 in
set_option maxRecDepth 100000 in
theorem kX1_visibleFrom {l : Launch} {D : va_G} {cy : ClassId} {hs : Nat → Nat} {X : va_W} (G : GN) (S : GS) (hw : wf G) (he : encC G S) (c9 : Nat) (hc : c9 < 192) : Ct l D cy (wC cy hs X) yX1_visibleFrom cX1_visibleFrom 4 (some .int) 5 116 (S) [.ref (hs 0), .int (nI c9)] (QI D (wC cy hs X) (fun r S' => r = visSet G c9 ∧ fr13 S S')) := by
  refine Ct.of wC_adr (plainFor_of_name (by decide)) (Nat.le_of_ble_eq_true rfl) ?_
  intro p e s m below meth c ls C hl hG
  obtain ⟨hx, hb, hml, hown, hts, hr, hlk⟩ := C
  have hl : lv_has ls 4 [(0, .ref (hs 0)), (1, .int (nI c9))] := hl
  refine lv_iconst (v := 0) hx hb dX1_visibleFrom_0 (by decide) ?_
  refine lv_istore_n (lv' := [(2, .int 0), (0, .ref (hs 0)), (1, .int (nI c9))]) hx hb dX1_visibleFrom_1 rfl hl (by decide) rfl (fun ls hl => ?_)
  refine lv_aload_n hx hb dX1_visibleFrom_2 rfl (lv_at hl 1 rfl) ?_
  refine lv_iload_n hx hb dX1_visibleFrom_3 rfl (lv_at hl 2 rfl) ?_
  refine g_calliE wC_adr hG (g_runV (As := [.int (nI c9)]) (rest := []) ⟨hx, hb, hml, hown, hts⟩ wC_adr (kX1_isPlace S (nI c9)) wyX1_isPlace q217 hG 0 rfl rfl ⟨by decide, by decide⟩ rfl rfl hl.1 (Nat.le_of_ble_eq_true rfl) ⟨Nat.le_refl 0, Nat.le_refl 0⟩ dX1_visibleFrom_4) (fun H locs hG => ?_)
  refine g_top (y := if plB G c9 then 1 else 0) (placeC hw he hc) ?_
  refine lv_if_eq (tgt := 45) hx hb dX1_visibleFrom_7 (by decide) (fun cpl => ?_) (fun cpl => ?_)
  · refine lv_iload_n hx hb dX1_visibleFrom_45 rfl (lv_at hl 0 rfl) ?_
    exact g_iret hx hb hr hlk hG (⟨by unfold visSet; rw [if_neg (ite10.mp cpl)], fr13.rf⟩) dX1_visibleFrom_46
  · have hpl : plB G c9 = true := Classical.byContradiction (fun q => cpl (ite10.mpr q))
    refine lv_iconst (v := 0) hx hb dX1_visibleFrom_10 (by decide) ?_
    refine lv_istore_n (lv' := [(3, .int 0), (2, .int 0), (0, .ref (hs 0)), (1, .int (nI c9))]) hx hb dX1_visibleFrom_11 rfl hl (by decide) rfl (fun ls hl => ?_)
    refine g_rec (τ := Nat × Int32) (fun j S9 => fr13 S S9 ∧ j.1 ≤ G 0 2 ∧ j.2 = setI (visB G (G 2) c9) j.1) (fun j => 100 - j.1) (fun j => [(0, .ref (hs 0)), (1, .int (nI c9)), (2, .int j.2), (3, .int (nI j.1))]) 12 4 ?_ (0, 0) _ _ _ _ (⟨fr13.rf, Nat.zero_le _, rfl⟩) hG (lv_sub hl [2, 3, 1, 0] (rfl))
    intro x9 S9 H locs ls hI hG hl ih
    obtain ⟨j, v⟩ := x9
    obtain ⟨hfr0, hj, hv⟩ := hI
    replace hj : j ≤ G 0 2 := hj
    replace hv : v = setI (visB G (G 2) c9) j := hv
    subst hv
    have he9 := he.fr hfr0
    have hnf := hw.1.2.2.2.2.1
    refine lv_iload_n hx hb dX1_visibleFrom_12 rfl (lv_at hl 3 rfl) ?_
    refine lv_aload_n hx hb dX1_visibleFrom_13 rfl (lv_at hl 0 rfl) ?_
    refine g_get hx hb hts hown hG inX1 0 rfl rfl 4 (by decide) q109 (v := .int (S9 0 4)) rfl dX1_visibleFrom_14 ?_
    refine g_top (y := nI (G 0 2)) (he9.1.2.2.1) ?_
    refine lv_icmp_ge (tgt := 45) hx hb dX1_visibleFrom_17 (by decide) (fun cge => ?_) (fun cge => ?_)
    · have hjl : G 0 2 ≤ j := (nI_leI (by omega) (by omega)).mp cge
      refine lv_iload_n hx hb dX1_visibleFrom_45 rfl (lv_at hl 2 rfl) ?_
      exact g_iret hx hb hr hlk hG (⟨by unfold visSet; rw [if_pos hpl, show G 0 2 = j by omega], hfr0⟩) dX1_visibleFrom_46
    · have hjl : j < G 0 2 := Nat.lt_of_not_le (fun q => cge (nI_le q (by omega)))
      refine lv_aload_n hx hb dX1_visibleFrom_20 rfl (lv_at hl 0 rfl) ?_
      refine lv_iload_n hx hb dX1_visibleFrom_21 rfl (lv_at hl 1 rfl) ?_
      refine lv_iload_n hx hb dX1_visibleFrom_22 rfl (lv_at hl 3 rfl) ?_
      refine lv_aload_n hx hb dX1_visibleFrom_23 rfl (lv_at hl 0 rfl) ?_
      refine g_get hx hb hts hown hG inX1 0 rfl rfl 3 (by decide) q108 (v := .ref (hs 3)) rfl dX1_visibleFrom_24 ?_
      refine g_calli wC_adr hG (g_runV (As := [.int (nI c9), .int (nI j), .ref (hs 3)]) (rest := []) ⟨hx, hb, hml, hown, hts⟩ wC_adr (kX1_isVisible_3 G S9 hw he9 (G 2) he9.2.2.1 (hG2 hw) c9 j hc hjl hpl) wyX1_isVisible q224 hG 0 rfl rfl ⟨by decide, by decide⟩ rfl rfl hl.1 (Nat.le_of_ble_eq_true rfl) ⟨Nat.le_refl 0, Nat.le_refl 0⟩ dX1_visibleFrom_27) (fun r2 S1 H locs hp hG => ?_)
      obtain ⟨rfl, hfr⟩ := hp
      refine lv_if_eq (tgt := 39) hx hb dX1_visibleFrom_30 (by decide) (fun c3 => ?_) (fun c3 => ?_)
      · refine lv_iinc (v := nI (j + 1)) (lv' := [(3, .int (nI (j + 1))), (0, .ref (hs 0)), (1, .int (nI c9)), (2, .int (setI (visB G (G 2) c9) j))]) hx hb dX1_visibleFrom_39 hl (k := 3) rfl (nI_1 j) (by decide) rfl (fun ls hl => ?_)
        refine lv_goto (tgt := 12) hx hb dX1_visibleFrom_42 (by decide) ?_
        exact ih (j + 1, _) _ _ _ _ (by show 100 - (j + 1) < 100 - j; omega) ⟨hfr0.tr hfr, hjl, by show _ = setI _ j ||| _; rw [if_neg (ite10.mp c3), or_0]⟩ hG (lv_sub hl [1, 2, 3, 0] rfl)
      · refine lv_iload_n hx hb dX1_visibleFrom_33 rfl (lv_at hl 2 rfl) ?_
        refine lv_iconst (v := 1) hx hb dX1_visibleFrom_34 (by decide) ?_
        refine lv_iload_n hx hb dX1_visibleFrom_35 rfl (lv_at hl 3 rfl) ?_
        refine lv_ishl hx hb dX1_visibleFrom_36 ?_
        refine lv_ior hx hb dX1_visibleFrom_37 ?_
        refine lv_istore_n (lv' := [(2, .int ((setI (visB G (G 2) c9) j) ||| (1 <<< ((nI j) &&& 31)))), (0, .ref (hs 0)), (1, .int (nI c9)), (3, .int (nI j))]) hx hb dX1_visibleFrom_38 rfl hl (by decide) rfl (fun ls hl => ?_)
        refine lv_iinc (v := nI (j + 1)) (lv' := [(3, .int (nI (j + 1))), (2, .int ((setI (visB G (G 2) c9) j) ||| (1 <<< ((nI j) &&& 31)))), (0, .ref (hs 0)), (1, .int (nI c9))]) hx hb dX1_visibleFrom_39 hl (k := 3) rfl (nI_1 j) (by decide) rfl (fun ls hl => ?_)
        refine lv_goto (tgt := 12) hx hb dX1_visibleFrom_42 (by decide) ?_
        exact ih (j + 1, _) _ _ _ _ (by show 100 - (j + 1) < 100 - j; omega) ⟨hfr0.tr hfr, hjl, by show _ = setI _ j ||| _; rw [if_pos (Classical.byContradiction (fun q => c3 (ite10.mpr q)))]⟩ hG (lv_sub hl [2, 3, 1, 0] rfl)
set_option maxHeartbeats 4000000 in
set_option maxRecDepth 100000 in
theorem kX1_seen {l : Launch} {D : va_G} {cy : ClassId} {hs : Nat → Nat} {X : va_W} (G : GN) (S : GS) (hw : wf G) (he : encC G S) (x y : Int32) : Ct l D cy (wC cy hs X) yX1_seen cX1_seen 4 (some .int) 6 139 (S) [.ref (hs 0), .int x, .int y] (QI D (wC cy hs X) (fun r S' => r = F_seen G x y ∧ fr13 S S')) := by
  refine Ct.of wC_adr (plainFor_of_name (by decide)) (Nat.le_of_ble_eq_true rfl) ?_
  intro p e s m below meth c ls C hl hG
  obtain ⟨hx, hb, hml, hown, hts, hr, hlk⟩ := C
  have hl : lv_has ls 4 [(0, .ref (hs 0)), (1, .int x), (2, .int y)] := hl
  refine lv_aload_n hx hb dX1_seen_0 rfl (lv_at hl 0 rfl) ?_
  refine lv_iload_n hx hb dX1_seen_1 rfl (lv_at hl 1 rfl) ?_
  refine lv_iload_n hx hb dX1_seen_2 rfl (lv_at hl 2 rfl) ?_
  refine g_calliE wC_adr hG (g_runV (As := [.int x, .int y]) (rest := []) ⟨hx, hb, hml, hown, hts⟩ wC_adr (kX1_placeError S x y) wyX1_placeError q213 hG 0 rfl rfl ⟨by decide, by decide⟩ rfl rfl hl.1 (Nat.le_of_ble_eq_true rfl) ⟨Nat.le_refl 0, Nat.le_refl 0⟩ dX1_seen_3) (fun H locs hG => ?_)
  refine g_top (y := pErr G x y) (pErrC hw he x y) ?_
  refine lv_istore_n (lv' := [(3, .int (pErr G x y)), (0, .ref (hs 0)), (1, .int x), (2, .int y)]) hx hb dX1_seen_6 rfl hl (by decide) rfl (fun ls hl => ?_)
  refine lv_iload_n hx hb dX1_seen_7 rfl (lv_at hl 0 rfl) ?_
  refine lv_if_eq (tgt := 13) hx hb dX1_seen_8 (by decide) (fun c_e => ?_) (fun c_e => ?_)
  · obtain ⟨h1, h3⟩ := pErr_0 c_e
    have hc := has_c hw h1
    refine lv_aload_n hx hb dX1_seen_13 rfl (lv_at hl 1 rfl) ?_
    refine lv_iload_n hx hb dX1_seen_14 rfl (lv_at hl 2 rfl) ?_
    refine lv_iload_n hx hb dX1_seen_15 rfl (lv_at hl 3 rfl) ?_
    refine g_stat (As := [.int x, .int y]) (rest := [.ref (hs 0)]) ⟨hx, hb, hml, hown, hts⟩ (kX1_cellAt x y) wyX1_cellAt q170 hG ⟨by decide, by decide⟩ rfl rfl hl.1 (Nat.le_of_ble_eq_true rfl) ⟨Nat.le_refl 0, Nat.le_refl 0⟩ dX1_seen_16 (fun H locs hG => ?_)
    refine g_top (y := nI (cN x y)) (cellC h1) ?_
    refine g_calli wC_adr hG (g_runV (As := [.int (nI (cN x y))]) (rest := []) ⟨hx, hb, hml, hown, hts⟩ wC_adr (kX1_visibleFrom G S hw he (cN x y) hc) wyX1_visibleFrom q279 hG 0 rfl rfl ⟨by decide, by decide⟩ rfl rfl hl.1 (Nat.le_of_ble_eq_true rfl) ⟨Nat.le_refl 0, Nat.le_refl 0⟩ dX1_seen_19) (fun r2 S1 H locs hp hG => ?_)
    obtain ⟨rfl, hfr⟩ := hp
    exact g_iret hx hb hr hlk hG (⟨by unfold F_seen visSet; rw [if_pos c_e, if_pos h3], hfr⟩) dX1_seen_22
  · refine lv_iload_n hx hb dX1_seen_11 rfl (lv_at hl 0 rfl) ?_
    exact g_iret hx hb hr hlk hG (⟨by unfold F_seen; rw [if_neg c_e], fr13.rf⟩) dX1_seen_12
set_option maxHeartbeats 4000000 in
set_option maxRecDepth 100000 in
theorem kX1_firstAppearance_3 {l : Launch} {D : va_G} {cy : ClassId} {hs : Nat → Nat} {X : va_W} (G : GN) (S : GS) (hw : wf G) (he : encC G S) (Hh : Nat → Nat) (hH : ∀ c, c < 192 → S 3 c = nI (Hh c)) (hH9 : ∀ c, c < 192 → Hh c ≤ 60) (k : Nat) (hk : k < G 0 2) : Ct l D cy (wC cy hs X) yX1_firstAppearance cX1_firstAppearance 4 (some .int) 5 116 (S) [.ref (hs 0), .int (nI k), .ref (hs 3)] (QI D (wC cy hs X) (fun r S' => r = (if apN G Hh k < G 0 3 then nI (apN G Hh k) else -7) ∧ fr13 S S')) := by
  refine Ct.of wC_adr (plainFor_of_name (by decide)) (Nat.le_of_ble_eq_true rfl) ?_
  intro p e s m below meth c ls C hl hG
  obtain ⟨hx, hb, hml, hown, hts, hr, hlk⟩ := C
  have hl : lv_has ls 4 [(0, .ref (hs 0)), (1, .int (nI k)), (2, .ref (hs 3))] := hl
  refine lv_iconst (v := 0) hx hb dX1_firstAppearance_0 (by decide) ?_
  refine lv_istore_n (lv' := [(3, .int 0), (0, .ref (hs 0)), (1, .int (nI k)), (2, .ref (hs 3))]) hx hb dX1_firstAppearance_1 rfl hl (by decide) rfl (fun ls hl => ?_)
  refine g_rec (τ := Nat) (fun j S9 => fr13 S S9 ∧ j ≤ G 0 3 ∧ fsB (apF G Hh k) (G 0 3 - j) j = apN G Hh k) (fun j => 100 - j) (fun j => [(0, .ref (hs 0)), (1, .int (nI k)), (2, .ref (hs 3)), (3, .int (nI j))]) 2 4 ?_ 0 _ _ _ _ (⟨fr13.rf, Nat.zero_le _, rfl⟩) hG (lv_sub hl [1, 2, 3, 0] (rfl))
  intro x9 S9 H locs ls hI hG hl ih
  obtain ⟨hfr0, hj, hap⟩ := hI
  have he9 := he.fr hfr0
  have hnw := hw.1.2.2.2.2.2.1
  refine lv_iload_n hx hb dX1_firstAppearance_2 rfl (lv_at hl 3 rfl) ?_
  refine lv_aload_n hx hb dX1_firstAppearance_3 rfl (lv_at hl 0 rfl) ?_
  refine g_get hx hb hts hown hG inX1 0 rfl rfl 7 (by decide) q112 (v := .int (S9 0 7)) rfl dX1_firstAppearance_4 ?_
  refine g_top (y := nI (G 0 3)) (he9.1.2.2.2.1) ?_
  refine lv_icmp_ge (tgt := 46) hx hb dX1_firstAppearance_7 (by decide) (fun cge => ?_) (fun cge => ?_)
  · have hjl : G 0 3 ≤ x9 := (nI_leI (by omega) (by omega)).mp cge
    refine lv_bipush (v := (-7)) hx hb dX1_firstAppearance_46 (by decide) ?_
    have e9 : apN G Hh k = G 0 3 := by rw [← hap, show G 0 3 - x9 = 0 by omega]; show x9 = _; omega
    exact g_iret hx hb hr hlk hG (⟨by rw [if_neg (by omega)], hfr0⟩) dX1_firstAppearance_48
  · have hjl : x9 < G 0 3 := Nat.lt_of_not_le (fun q => cge (nI_le q (by omega)))
    have hcw := hw.2.2.2.1 x9 hjl
    refine lv_aload_n hx hb dX1_firstAppearance_10 rfl (lv_at hl 0 rfl) ?_
    refine lv_aload_n hx hb dX1_firstAppearance_11 rfl (lv_at hl 0 rfl) ?_
    refine g_get hx hb hts hown hG inX1 0 rfl rfl 8 (by decide) q113 (v := .ref (hs 8)) rfl dX1_firstAppearance_12 ?_
    refine lv_iload_n hx hb dX1_firstAppearance_15 rfl (lv_at hl 3 rfl) ?_
    refine g_aldN (f := S9 8) hx hb hG 5 rfl (by decide) (x9) (rfl) (by omega) dX1_firstAppearance_16 ?_
    refine g_top (y := nI (G 5 x9)) (he9.2.2.2.2.1 x9 hjl) ?_
    refine g_calliE wC_adr hG (g_runV (As := [.int (nI (G 5 x9))]) (rest := []) ⟨hx, hb, hml, hown, hts⟩ wC_adr (kX1_isPlace S9 (nI (G 5 x9))) wyX1_isPlace q217 hG 0 rfl rfl ⟨by decide, by decide⟩ rfl rfl hl.1 (Nat.le_of_ble_eq_true rfl) ⟨Nat.le_refl 0, Nat.le_refl 0⟩ dX1_firstAppearance_17) (fun H locs hG => ?_)
    refine g_top (y := if plB G (G 5 x9) then 1 else 0) (placeC hw he9 hcw) ?_
    refine lv_if_eq (tgt := 40) hx hb dX1_firstAppearance_20 (by decide) (fun cpl => ?_) (fun cpl => ?_)
    · refine lv_iinc (v := nI (x9 + 1)) (lv' := [(3, .int (nI (x9 + 1))), (0, .ref (hs 0)), (1, .int (nI k)), (2, .ref (hs 3))]) hx hb dX1_firstAppearance_40 hl (k := 3) rfl (nI_1 x9) (by decide) rfl (fun ls hl => ?_)
      refine lv_goto (tgt := 2) hx hb dX1_firstAppearance_43 (by decide) ?_
      have hff : apF G Hh k x9 = false := by unfold apF; rw [show plB G (G 5 x9) = false from by simpa using ite10.mp cpl, Bool.false_and]
      exact ih (x9 + 1) _ _ _ _ (by omega) ⟨hfr0, hjl, by rw [← hap, show G 0 3 - x9 = (G 0 3 - (x9 + 1)) + 1 by omega]; rw [fsB, if_neg (by rw [hff]; decide)]⟩ hG (lv_sub hl [1, 2, 3, 0] rfl)
    · have hpl : plB G (G 5 x9) = true := Classical.byContradiction (fun q => cpl (ite10.mpr q))
      refine lv_aload_n hx hb dX1_firstAppearance_23 rfl (lv_at hl 0 rfl) ?_
      refine lv_aload_n hx hb dX1_firstAppearance_24 rfl (lv_at hl 0 rfl) ?_
      refine g_get hx hb hts hown hG inX1 0 rfl rfl 8 (by decide) q113 (v := .ref (hs 8)) rfl dX1_firstAppearance_25 ?_
      refine lv_iload_n hx hb dX1_firstAppearance_28 rfl (lv_at hl 3 rfl) ?_
      refine g_aldN (f := S9 8) hx hb hG 5 rfl (by decide) (x9) (rfl) (by omega) dX1_firstAppearance_29 ?_
      refine g_top (y := nI (G 5 x9)) (he9.2.2.2.2.1 x9 hjl) ?_
      refine lv_iload_n hx hb dX1_firstAppearance_30 rfl (lv_at hl 1 rfl) ?_
      refine lv_aload_n hx hb dX1_firstAppearance_31 rfl (lv_at hl 2 rfl) ?_
      refine g_calli wC_adr hG (g_runV (As := [.int (nI (G 5 x9)), .int (nI k), .ref (hs 3)]) (rest := []) ⟨hx, hb, hml, hown, hts⟩ wC_adr (kX1_isVisible_3 G S9 hw he9 Hh (fun c hc => by rw [hfr0 3 (by decide)]; exact hH c hc) hH9 (G 5 x9) k hcw hk hpl) wyX1_isVisible q224 hG 0 rfl rfl ⟨by decide, by decide⟩ rfl rfl hl.1 (Nat.le_of_ble_eq_true rfl) ⟨Nat.le_refl 0, Nat.le_refl 0⟩ dX1_firstAppearance_32) (fun r2 S1 H locs hp hG => ?_)
      obtain ⟨rfl, hfr⟩ := hp
      refine lv_if_eq (tgt := 40) hx hb dX1_firstAppearance_35 (by decide) (fun cvi => ?_) (fun cvi => ?_)
      · refine lv_iinc (v := nI (x9 + 1)) (lv' := [(3, .int (nI (x9 + 1))), (0, .ref (hs 0)), (1, .int (nI k)), (2, .ref (hs 3))]) hx hb dX1_firstAppearance_40 hl (k := 3) rfl (nI_1 x9) (by decide) rfl (fun ls hl => ?_)
        refine lv_goto (tgt := 2) hx hb dX1_firstAppearance_43 (by decide) ?_
        have hff : apF G Hh k x9 = false := by unfold apF; rw [show visB G Hh (G 5 x9) k = false from by simpa using ite10.mp cvi, Bool.and_false]
        exact ih (x9 + 1) _ _ _ _ (by omega) ⟨hfr0.tr hfr, hjl, by rw [← hap, show G 0 3 - x9 = (G 0 3 - (x9 + 1)) + 1 by omega]; rw [fsB, if_neg (by rw [hff]; decide)]⟩ hG (lv_sub hl [1, 2, 3, 0] rfl)
      · refine lv_iload_n hx hb dX1_firstAppearance_38 rfl (lv_at hl 3 rfl) ?_
        have hff : apF G Hh k x9 = true := by unfold apF; rw [hpl, show visB G Hh (G 5 x9) k = true from Classical.byContradiction (fun q => cvi (ite10.mpr q))]; rfl
        have e9 : apN G Hh k = x9 := by rw [← hap, show G 0 3 - x9 = (G 0 3 - (x9 + 1)) + 1 by omega]; rw [fsB, if_pos hff]
        exact g_iret hx hb hr hlk hG (⟨by rw [e9, if_pos hjl], hfr0.tr hfr⟩) dX1_firstAppearance_39
set_option maxHeartbeats 4000000 in
set_option maxRecDepth 100000 in
theorem kX1_firstAppearance_12 {l : Launch} {D : va_G} {cy : ClassId} {hs : Nat → Nat} {X : va_W} (G : GN) (S : GS) (hw : wf G) (he : encC G S) (Hh : Nat → Nat) (hH : ∀ c, c < 192 → S 12 c = nI (Hh c)) (hH9 : ∀ c, c < 192 → Hh c ≤ 60) (k : Nat) (hk : k < G 0 2) : Ct l D cy (wC cy hs X) yX1_firstAppearance cX1_firstAppearance 4 (some .int) 5 116 (S) [.ref (hs 0), .int (nI k), .ref (hs 12)] (QI D (wC cy hs X) (fun r S' => r = (if apN G Hh k < G 0 3 then nI (apN G Hh k) else -7) ∧ fr13 S S')) := by
  refine Ct.of wC_adr (plainFor_of_name (by decide)) (Nat.le_of_ble_eq_true rfl) ?_
  intro p e s m below meth c ls C hl hG
  obtain ⟨hx, hb, hml, hown, hts, hr, hlk⟩ := C
  have hl : lv_has ls 4 [(0, .ref (hs 0)), (1, .int (nI k)), (2, .ref (hs 12))] := hl
  refine lv_iconst (v := 0) hx hb dX1_firstAppearance_0 (by decide) ?_
  refine lv_istore_n (lv' := [(3, .int 0), (0, .ref (hs 0)), (1, .int (nI k)), (2, .ref (hs 12))]) hx hb dX1_firstAppearance_1 rfl hl (by decide) rfl (fun ls hl => ?_)
  refine g_rec (τ := Nat) (fun j S9 => fr13 S S9 ∧ j ≤ G 0 3 ∧ fsB (apF G Hh k) (G 0 3 - j) j = apN G Hh k) (fun j => 100 - j) (fun j => [(0, .ref (hs 0)), (1, .int (nI k)), (2, .ref (hs 12)), (3, .int (nI j))]) 2 4 ?_ 0 _ _ _ _ (⟨fr13.rf, Nat.zero_le _, rfl⟩) hG (lv_sub hl [1, 2, 3, 0] (rfl))
  intro x9 S9 H locs ls hI hG hl ih
  obtain ⟨hfr0, hj, hap⟩ := hI
  have he9 := he.fr hfr0
  have hnw := hw.1.2.2.2.2.2.1
  refine lv_iload_n hx hb dX1_firstAppearance_2 rfl (lv_at hl 3 rfl) ?_
  refine lv_aload_n hx hb dX1_firstAppearance_3 rfl (lv_at hl 0 rfl) ?_
  refine g_get hx hb hts hown hG inX1 0 rfl rfl 7 (by decide) q112 (v := .int (S9 0 7)) rfl dX1_firstAppearance_4 ?_
  refine g_top (y := nI (G 0 3)) (he9.1.2.2.2.1) ?_
  refine lv_icmp_ge (tgt := 46) hx hb dX1_firstAppearance_7 (by decide) (fun cge => ?_) (fun cge => ?_)
  · have hjl : G 0 3 ≤ x9 := (nI_leI (by omega) (by omega)).mp cge
    refine lv_bipush (v := (-7)) hx hb dX1_firstAppearance_46 (by decide) ?_
    have e9 : apN G Hh k = G 0 3 := by rw [← hap, show G 0 3 - x9 = 0 by omega]; show x9 = _; omega
    exact g_iret hx hb hr hlk hG (⟨by rw [if_neg (by omega)], hfr0⟩) dX1_firstAppearance_48
  · have hjl : x9 < G 0 3 := Nat.lt_of_not_le (fun q => cge (nI_le q (by omega)))
    have hcw := hw.2.2.2.1 x9 hjl
    refine lv_aload_n hx hb dX1_firstAppearance_10 rfl (lv_at hl 0 rfl) ?_
    refine lv_aload_n hx hb dX1_firstAppearance_11 rfl (lv_at hl 0 rfl) ?_
    refine g_get hx hb hts hown hG inX1 0 rfl rfl 8 (by decide) q113 (v := .ref (hs 8)) rfl dX1_firstAppearance_12 ?_
    refine lv_iload_n hx hb dX1_firstAppearance_15 rfl (lv_at hl 3 rfl) ?_
    refine g_aldN (f := S9 8) hx hb hG 5 rfl (by decide) (x9) (rfl) (by omega) dX1_firstAppearance_16 ?_
    refine g_top (y := nI (G 5 x9)) (he9.2.2.2.2.1 x9 hjl) ?_
    refine g_calliE wC_adr hG (g_runV (As := [.int (nI (G 5 x9))]) (rest := []) ⟨hx, hb, hml, hown, hts⟩ wC_adr (kX1_isPlace S9 (nI (G 5 x9))) wyX1_isPlace q217 hG 0 rfl rfl ⟨by decide, by decide⟩ rfl rfl hl.1 (Nat.le_of_ble_eq_true rfl) ⟨Nat.le_refl 0, Nat.le_refl 0⟩ dX1_firstAppearance_17) (fun H locs hG => ?_)
    refine g_top (y := if plB G (G 5 x9) then 1 else 0) (placeC hw he9 hcw) ?_
    refine lv_if_eq (tgt := 40) hx hb dX1_firstAppearance_20 (by decide) (fun cpl => ?_) (fun cpl => ?_)
    · refine lv_iinc (v := nI (x9 + 1)) (lv' := [(3, .int (nI (x9 + 1))), (0, .ref (hs 0)), (1, .int (nI k)), (2, .ref (hs 12))]) hx hb dX1_firstAppearance_40 hl (k := 3) rfl (nI_1 x9) (by decide) rfl (fun ls hl => ?_)
      refine lv_goto (tgt := 2) hx hb dX1_firstAppearance_43 (by decide) ?_
      have hff : apF G Hh k x9 = false := by unfold apF; rw [show plB G (G 5 x9) = false from by simpa using ite10.mp cpl, Bool.false_and]
      exact ih (x9 + 1) _ _ _ _ (by omega) ⟨hfr0, hjl, by rw [← hap, show G 0 3 - x9 = (G 0 3 - (x9 + 1)) + 1 by omega]; rw [fsB, if_neg (by rw [hff]; decide)]⟩ hG (lv_sub hl [1, 2, 3, 0] rfl)
    · have hpl : plB G (G 5 x9) = true := Classical.byContradiction (fun q => cpl (ite10.mpr q))
      refine lv_aload_n hx hb dX1_firstAppearance_23 rfl (lv_at hl 0 rfl) ?_
      refine lv_aload_n hx hb dX1_firstAppearance_24 rfl (lv_at hl 0 rfl) ?_
      refine g_get hx hb hts hown hG inX1 0 rfl rfl 8 (by decide) q113 (v := .ref (hs 8)) rfl dX1_firstAppearance_25 ?_
      refine lv_iload_n hx hb dX1_firstAppearance_28 rfl (lv_at hl 3 rfl) ?_
      refine g_aldN (f := S9 8) hx hb hG 5 rfl (by decide) (x9) (rfl) (by omega) dX1_firstAppearance_29 ?_
      refine g_top (y := nI (G 5 x9)) (he9.2.2.2.2.1 x9 hjl) ?_
      refine lv_iload_n hx hb dX1_firstAppearance_30 rfl (lv_at hl 1 rfl) ?_
      refine lv_aload_n hx hb dX1_firstAppearance_31 rfl (lv_at hl 2 rfl) ?_
      refine g_calli wC_adr hG (g_runV (As := [.int (nI (G 5 x9)), .int (nI k), .ref (hs 12)]) (rest := []) ⟨hx, hb, hml, hown, hts⟩ wC_adr (kX1_isVisible_12 G S9 hw he9 Hh (fun c hc => by rw [hfr0 12 (by decide)]; exact hH c hc) hH9 (G 5 x9) k hcw hk hpl) wyX1_isVisible q224 hG 0 rfl rfl ⟨by decide, by decide⟩ rfl rfl hl.1 (Nat.le_of_ble_eq_true rfl) ⟨Nat.le_refl 0, Nat.le_refl 0⟩ dX1_firstAppearance_32) (fun r2 S1 H locs hp hG => ?_)
      obtain ⟨rfl, hfr⟩ := hp
      refine lv_if_eq (tgt := 40) hx hb dX1_firstAppearance_35 (by decide) (fun cvi => ?_) (fun cvi => ?_)
      · refine lv_iinc (v := nI (x9 + 1)) (lv' := [(3, .int (nI (x9 + 1))), (0, .ref (hs 0)), (1, .int (nI k)), (2, .ref (hs 12))]) hx hb dX1_firstAppearance_40 hl (k := 3) rfl (nI_1 x9) (by decide) rfl (fun ls hl => ?_)
        refine lv_goto (tgt := 2) hx hb dX1_firstAppearance_43 (by decide) ?_
        have hff : apF G Hh k x9 = false := by unfold apF; rw [show visB G Hh (G 5 x9) k = false from by simpa using ite10.mp cvi, Bool.and_false]
        exact ih (x9 + 1) _ _ _ _ (by omega) ⟨hfr0.tr hfr, hjl, by rw [← hap, show G 0 3 - x9 = (G 0 3 - (x9 + 1)) + 1 by omega]; rw [fsB, if_neg (by rw [hff]; decide)]⟩ hG (lv_sub hl [1, 2, 3, 0] rfl)
      · refine lv_iload_n hx hb dX1_firstAppearance_38 rfl (lv_at hl 3 rfl) ?_
        have hff : apF G Hh k x9 = true := by unfold apF; rw [hpl, show visB G Hh (G 5 x9) k = true from Classical.byContradiction (fun q => cvi (ite10.mpr q))]; rfl
        have e9 : apN G Hh k = x9 := by rw [← hap, show G 0 3 - x9 = (G 0 3 - (x9 + 1)) + 1 by omega]; rw [fsB, if_pos hff]
        exact g_iret hx hb hr hlk hG (⟨by rw [e9, if_pos hjl], hfr0.tr hfr⟩) dX1_firstAppearance_39
set_option maxHeartbeats 4000000 in
set_option maxRecDepth 100000 in
theorem kX1_appears {l : Launch} {D : va_G} {cy : ClassId} {hs : Nat → Nat} {X : va_W} (G : GN) (S : GS) (hw : wf G) (he : encC G S) (f : Int32) : Ct l D cy (wC cy hs X) yX1_appears cX1_appears 2 (some .int) 6 139 (S) [.ref (hs 0), .int f] (QI D (wC cy hs X) (fun r S' => r = F_appears G f ∧ fr13 S S')) := by
  refine Ct.of wC_adr (plainFor_of_name (by decide)) (Nat.le_of_ble_eq_true rfl) ?_
  intro p e s m below meth c ls C hl hG
  obtain ⟨hx, hb, hml, hown, hts, hr, hlk⟩ := C
  have hl : lv_has ls 2 [(0, .ref (hs 0)), (1, .int f)] := hl
  refine lv_aload_n hx hb dX1_appears_0 rfl (lv_at hl 0 rfl) ?_
  refine lv_iload_n hx hb dX1_appears_1 rfl (lv_at hl 1 rfl) ?_
  refine g_calliE wC_adr hG (g_runV (As := [.int f]) (rest := []) ⟨hx, hb, hml, hown, hts⟩ wC_adr (kX1_hasFeature S f) wyX1_hasFeature q209 hG 0 rfl rfl ⟨by decide, by decide⟩ rfl rfl hl.1 (Nat.le_of_ble_eq_true rfl) ⟨Nat.le_refl 0, Nat.le_refl 0⟩ dX1_appears_2) (fun H locs hG => ?_)
  refine g_top (y := if ftB G f then 1 else 0) (ftC hw he f) ?_
  refine lv_if_ne (tgt := 11) hx hb dX1_appears_5 (by decide) (fun c_e => ?_) (fun c_e => ?_)
  · have h2 : ftB G f = true := Classical.byContradiction (fun q => c_e (ite10.mpr q))
    have hfe := (ft_k h2).1
    have hk := (ft_k h2).2
    have hl : lv_has ls 2 [(0, .ref (hs 0)), (1, .int (nI (nN f)))] := by rw [← hfe]; exact hl
    refine lv_aload_n hx hb dX1_appears_11 rfl (lv_at hl 0 rfl) ?_
    refine lv_iload_n hx hb dX1_appears_12 rfl (lv_at hl 1 rfl) ?_
    refine lv_aload_n hx hb dX1_appears_13 rfl (lv_at hl 0 rfl) ?_
    refine g_get hx hb hts hown hG inX1 0 rfl rfl 3 (by decide) q108 (v := .ref (hs 3)) rfl dX1_appears_14 ?_
    refine g_calli wC_adr hG (g_runV (As := [.int (nI (nN f)), .ref (hs 3)]) (rest := []) ⟨hx, hb, hml, hown, hts⟩ wC_adr (kX1_firstAppearance_3 G S hw he (G 2) he.2.2.1 (hG2 hw) (nN f) hk) wyX1_firstAppearance q332 hG 0 rfl rfl ⟨by decide, by decide⟩ rfl rfl hl.1 (Nat.le_of_ble_eq_true rfl) ⟨Nat.le_refl 0, Nat.le_refl 0⟩ dX1_appears_17) (fun r2 S1 H locs hp hG => ?_)
    obtain ⟨rfl, hfr⟩ := hp
    exact g_iret hx hb hr hlk hG (⟨by unfold F_appears; rw [if_pos h2], hfr⟩) dX1_appears_20
  · refine lv_bipush (v := (-2)) hx hb dX1_appears_8 (by decide) ?_
    exact g_iret hx hb hr hlk hG (⟨by unfold F_appears; rw [if_neg (ite10.mp c_e)], fr13.rf⟩) dX1_appears_10
