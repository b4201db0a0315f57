/-! ===== the class: the view of a feature ===== -/
theorem GW.to13 {D : va_G} {cy : ClassId} {hs : Nat → Nat} {X : va_W} {A : Nat → Prop} {s : State} {S : GS} {H : Heap} {locs : List Loc} (h : GW D cy (wC cy hs X) A s S H locs) : GW D cy (wC cy hs X) A s (sc S 13 (S 13)) H locs := h
def lnG (G : GN) (p k n : Nat) : Nat → Int32 := lineF p (G 3 k) (eyN G p) (G 2 (G 3 k)) n
def NG (G : GN) (p k : Nat) : Nat := vN p (G 3 k)
def csG (G : GN) (p k n : Nat) : Nat := cs p (G 3 k) n
def bkS (G : GN) (Hh : Nat → Nat) (p k n : Nat) : Bool := blk G Hh p k (csG G p k n)
def nxB (bk : Nat → Bool) : Nat → Nat → Nat
  | 0, n => n
  | 1, n => n + 1
  | f + 2, n => if bk (n + 1) then n + 1 else nxB bk (f + 1) (n + 1)
/-- the next step that is one of bk, or the end -/
def nxt (bk : Nat → Bool) (N n : Nat) : Nat := nxB bk (N - n) n
theorem nxt_N (bk : Nat → Bool) (N : Nat) : nxt bk N N = N := by unfold nxt; rw [Nat.sub_self]; rfl
theorem nxt_last {bk : Nat → Bool} {N n : Nat} (h : n + 1 = N) : nxt bk N n = N := by unfold nxt; rw [show N - n = 1 by omega]; exact h
theorem nxt_hit {bk : Nat → Bool} {N n : Nat} (h : n + 1 < N) (hb : bk (n + 1) = true) : nxt bk N n = n + 1 := by
  unfold nxt; rw [show N - n = (N - n - 2) + 2 by omega]; unfold nxB; rw [if_pos hb]
theorem nxt_miss {bk : Nat → Bool} {N n : Nat} (h : n + 1 < N) (hb : bk (n + 1) = false) : nxt bk N n = nxt bk N (n + 1) := by
  unfold nxt; rw [show N - n = (N - n - 2) + 2 by omega, show N - (n + 1) = (N - n - 2) + 1 by omega]; rw [nxB]; rw [if_neg (by rw [hb]; decide)]
theorem wf.f {G : GN} (h : wf G) {k : Nat} (hk : k < G 0 2) : G 3 k < 192 ∧ G 1 (G 3 k) = 4 ∧ G 4 k ≤ 9 := h.2.2.1 k hk
theorem wf.c {G : GN} (h : wf G) {c : Nat} (hc : c < 192) : G 1 c ≤ 4 ∧ G 2 c ≤ 60 ∧ (G 1 c = 2 → 1 ≤ G 2 c ∧ G 2 c ≤ 40) ∧ (G 1 c ≠ 2 → G 1 c ≠ 4 → G 2 c = 0) := h.2.1 c hc
theorem NG_le {G : GN} (h : wf G) {p k : Nat} (hp : p < 192) (hk : k < G 0 2) : NG G p k ≤ 26 := vN_le hp (h.f hk).1
theorem bkS_iff {G : GN} (h : wf G) {Hh : Nat → Nat} {p k n : Nat} (hp : p < 192) (hk : k < G 0 2) (hn : n ≤ NG G p k) : bkS G Hh p k n = (decide (G 1 (csG G p k n) = 2) && decide (wn p (G 3 k) (eyN G p) (G 2 (G 3 k)) n < Hh (csG G p k n))) := by
  have hX := cs_X (e := eyN G p) (u := G 2 (G 3 k)) hp (h.f hk).1 hn
  unfold bkS blk blB LK csG
  rw [hX.1, hX.2, Bool.true_and]
  by_cases c : G 1 (cs p (G 3 k) n) = 2
  · rw [if_pos c]; simp [c]
  · rw [if_neg c]; simp [c]
theorem icn_nI {k : Nat} (h : k < 192) : fX1_isCellNumber (nI k) = 1 := by
  unfold fX1_isCellNumber
  rw [if_neg (nI_pos (by omega)), if_neg (show ¬ (192 : Int32) ≤ nI k from nI_ge h (by decide))]
theorem eye_nI {G : GN} {S : GS} (he : encC G S) (hw : wf G) {p : Nat} (hp : p < 192) : (if S 2 p = 3 then (11 : Int32) else 16) = nI (eyN G p) := by
  have h := (hw.c hp).1
  rw [he.2.1 p hp]
  unfold eyN
  by_cases c : G 1 p = 3
  · rw [if_pos c, if_pos (by rw [c]; rfl)]; rfl
  · rw [if_neg c, if_neg (show ¬ nI (G 1 p) = 3 from fun q => c ((nI_eq (by omega) (by decide)).mp (show nI (G 1 p) = nI 3 from q)))]; rfl

set_option maxHeartbeats 4000000 in
set_option maxRecDepth 100000 in
theorem kX1_aim {l : Launch} {D : va_G} {cy : ClassId} {hs : Nat → Nat} {X : va_W} (G : GN) (S : GS) (hw : wf G) (he : encC G S) (p9 k : Nat) (hp : p9 < 192) (hk : k < G 0 2) : Ct l D cy (wC cy hs X) yX1_aim cX1_aim 5 none 3 69 (S) [.ref (hs 0), .int (nI p9), .int (nI k)] (QV D (wC cy hs X) (exV (sc S 13 (lnG G p9 k 0)))) := by
  refine Ct.of wC_adr (plainFor_of_name (by decide)) (Nat.le_of_ble_eq_true rfl) ?_
  intro p e s m below meth c ls C hl hG
  obtain ⟨hx, hb, hml, hown, hts, hr, hlk⟩ := C
  have hl : lv_has ls 5 [(0, .ref (hs 0)), (1, .int (nI p9)), (2, .int (nI k))] := hl
  refine lv_aload_n hx hb dX1_aim_0 rfl (lv_at hl 0 rfl) ?_
  refine g_get hx hb hts hown hG inX1 0 rfl rfl 5 (by decide) q110 (v := .ref (hs 5)) rfl dX1_aim_1 ?_
  refine lv_iload_n hx hb dX1_aim_4 rfl (lv_at hl 2 rfl) ?_
  refine g_aldN (f := S 5) hx hb hG 3 rfl (by decide) (k) (rfl) (by have := hw.1.2.2.2.2.1; omega) dX1_aim_5 ?_
  refine g_top (y := nI (G 3 k)) ((he.2.2.2.1 k hk).1) ?_
  refine lv_istore_n (lv' := [(3, .int (nI (G 3 k))), (0, .ref (hs 0)), (1, .int (nI p9)), (2, .int (nI k))]) hx hb dX1_aim_6 rfl hl (by decide) rfl (fun ls hl => ?_)
  refine lv_aload_n hx hb dX1_aim_7 rfl (lv_at hl 1 rfl) ?_
  refine g_get hx hb hts hown hG inX1 0 rfl rfl 2 (by decide) q107 (v := .ref (hs 2)) rfl dX1_aim_8 ?_
  refine lv_iload_n hx hb dX1_aim_11 rfl (lv_at hl 2 rfl) ?_
  refine g_aldN (f := S 2) hx hb hG 1 rfl (by decide) (p9) (rfl) (hp) dX1_aim_12 ?_
  refine lv_iconst (v := 3) hx hb dX1_aim_13 (by decide) ?_
  refine g_dia (P := S 2 p9 = 3) (J := 24) (A9 := 11) (B9 := 16) (ls9 := ls) (rest9 := []) (fun ka2 kb3 => ?_) ?_
  · refine lv_icmp_ne (tgt := 22) hx hb dX1_aim_14 (by decide) (fun c1 => ?_) (fun c1 => ?_)
    · refine lv_bipush (v := 16) hx hb dX1_aim_22 (by decide) ?_
      exact kb3 c1
    · refine lv_bipush (v := 11) hx hb dX1_aim_17 (by decide) ?_
      refine lv_goto (tgt := 24) hx hb dX1_aim_19 (by decide) ?_
      exact ka2 c1
  refine g_top (y := nI (eyN G p9)) (eye_nI he hw hp) ?_
  refine lv_istore (lv' := [(4, .int (nI (eyN G p9))), (3, .int (nI (G 3 k))), (0, .ref (hs 0)), (1, .int (nI p9)), (2, .int (nI k))]) hx hb dX1_aim_24 hl (by decide) rfl (fun ls hl => ?_)
  refine lv_aload_n hx hb dX1_aim_26 rfl (lv_at hl 2 rfl) ?_
  refine g_get hx hb hts hown hG inX1 0 rfl rfl 13 (by decide) q118 (v := .ref (hs 13)) rfl dX1_aim_27 ?_
  refine lv_iload_n hx hb dX1_aim_30 rfl (lv_at hl 3 rfl) ?_
  refine lv_iload hx hb dX1_aim_31 (lv_at hl 0 rfl) ?_
  refine lv_iload_n hx hb dX1_aim_33 rfl (lv_at hl 1 rfl) ?_
  refine lv_aload_n hx hb dX1_aim_34 rfl (lv_at hl 2 rfl) ?_
  refine g_get hx hb hts hown hG inX1 0 rfl rfl 3 (by decide) q108 (v := .ref (hs 3)) rfl dX1_aim_35 ?_
  refine lv_iload_n hx hb dX1_aim_38 rfl (lv_at hl 1 rfl) ?_
  refine g_aldN (f := S 3) hx hb hG 2 rfl (by decide) (G 3 k) (rfl) ((hw.f hk).1) dX1_aim_39 ?_
  refine g_top (y := nI (G 2 (G 3 k))) (he.2.2.1 _ (hw.f hk).1) ?_
  have hG := hG.to13
  refine g_callvE wC_adr hG (g_runV (As := [.int (nI p9), .int (nI (eyN G p9)), .int (nI (G 3 k)), .int (nI (G 2 (G 3 k)))]) (rest := []) ⟨hx, hb, hml, hown, hts⟩ wC_adr (kX0_aim S (S 13) (nI p9) (nI (eyN G p9)) (nI (G 3 k)) (nI (G 2 (G 3 k)))) wyX0_aim q232 hG 9 rfl rfl ⟨by decide, by decide⟩ rfl rfl hl.1 (Nat.le_of_ble_eq_true rfl) ⟨Nat.le_refl 0, Nat.le_refl 0⟩ dX1_aim_40) (fun H locs hG => ?_)
  exact g_vret hx hb hr hlk hG (by show sc S 13 _ = _; rw [aim_F hp (hw.f hk).1]; rfl) dX1_aim_43
theorem wn_le {p t e u n : Nat} (hp : p < 192) (ht : t < 192) (he : e ≤ 60) (hu : u ≤ 60) (hn : n ≤ vN p t) : wn p t e u n ≤ 2 ^ 20 := by
  have h := geo_in (dXn_lt p t) (dYn_lt hp ht) hn
  have hl : edN (dXn p t) (dYn p t) (tv p t n).1 (tv p t n).2.1 ≤ prt p t := ed_le _ _ _ _
  have hb : bgN (dXn p t) (dYn p t) (tv p t n).1 (tv p t n).2.1 ≤ prt p t := by
    have h4 : bgN (dXn p t) (dYn p t) (tv p t n).1 (tv p t n).2.1 < edN (dXn p t) (dYn p t) (tv p t n).1 (tv p t n).2.1 := h.2.2.2.1
    omega
  have := clN_lt (l := edN (dXn p t) (dYn p t) (tv p t n).1 (tv p t n).2.1) he hu (prt_le hp ht) hb
  exact Nat.le_trans (Nat.div_le_self _ _) (Nat.le_of_lt this)
set_option maxHeartbeats 4000000 in
set_option maxRecDepth 100000 in
theorem kX1_findNextBlocker_3 {l : Launch} {D : va_G} {cy : ClassId} {hs : Nat → Nat} {X : va_W} (G : GN) (S : GS) (hw : wf G) (hK : ∀ c, c < 192 → S 2 c = nI (G 1 c)) (Hh : Nat → Nat) (hH : ∀ c, c < 192 → S 3 c = nI (Hh c)) (hH9 : ∀ c, c < 192 → Hh c ≤ 60) (p9 k n : Nat) (hp : p9 < 192) (hk : k < G 0 2) (hn : n ≤ NG G p9 k) : Ct l D cy (wC cy hs X) yX1_findNextBlocker cX1_findNextBlocker 4 (some .boolean) 3 63 (sc S 13 (lnG G p9 k n)) [.ref (hs 0), .ref (hs 3)] (QI D (wC cy hs X) (exI (if nxt (bkS G Hh p9 k) (NG G p9 k) n = NG G p9 k then 0 else 1) (sc S 13 (lnG G p9 k (nxt (bkS G Hh p9 k) (NG G p9 k) n))))) := by
  refine Ct.of wC_adr (plainFor_of_name (by decide)) (Nat.le_of_ble_eq_true rfl) ?_
  intro p e s m below meth c ls C hl hG
  obtain ⟨hx, hb, hml, hown, hts, hr, hlk⟩ := C
  have hl : lv_has ls 4 [(0, .ref (hs 0)), (1, .ref (hs 3))] := hl
  refine lv_iconst (v := 0) hx hb dX1_findNextBlocker_0 (by decide) ?_
  refine lv_istore_n (lv' := [(2, .int 0), (0, .ref (hs 0)), (1, .ref (hs 3))]) hx hb dX1_findNextBlocker_1 rfl hl (by decide) rfl (fun ls hl => ?_)
  refine g_rec (τ := Nat) (fun j S9 => S9 = sc S 13 (lnG G p9 k (n + j)) ∧ n + j ≤ NG G p9 k ∧ nxt (bkS G Hh p9 k) (NG G p9 k) (n + j) = nxt (bkS G Hh p9 k) (NG G p9 k) n) (fun j => 100 - j) (fun j => [(0, .ref (hs 0)), (1, .ref (hs 3)), (2, .int (nI j))]) 2 4 ?_ 0 _ _ _ _ (⟨rfl, hn, rfl⟩) hG (lv_sub hl [1, 2, 0] (rfl))
  intro x9 S9 H locs ls hI hG hl ih
  obtain ⟨rfl, hj, hnx⟩ := hI
  have hN9 := NG_le hw hp hk
  have hj26 : x9 ≤ 26 := by omega
  refine lv_iload_n hx hb dX1_findNextBlocker_2 rfl (lv_at hl 2 rfl) ?_
  refine lv_bipush (v := 28) hx hb dX1_findNextBlocker_3 (by decide) ?_
  refine lv_icmp_ge (tgt := 64) hx hb dX1_findNextBlocker_5 (by decide) (fun c1 => absurd c1 (nI_ge (b := 28) (by omega) (by decide))) (fun c1 => ?_)
  refine lv_aload_n hx hb dX1_findNextBlocker_8 rfl (lv_at hl 0 rfl) ?_
  refine g_get hx hb hts hown hG inX1 0 rfl rfl 13 (by decide) q118 (v := .ref (hs 13)) rfl dX1_findNextBlocker_9 ?_
  refine g_calliE wC_adr hG (g_runV (As := []) (rest := []) ⟨hx, hb, hml, hown, hts⟩ wC_adr (kX0_advance S (lnG G p9 k (n + x9)) ) wyX0_advance q256 hG 9 rfl rfl ⟨by decide, by decide⟩ rfl rfl hl.1 (Nat.le_of_ble_eq_true rfl) ⟨Nat.le_refl 0, Nat.le_refl 0⟩ dX1_findNextBlocker_12) (fun H locs hG => ?_)
  by_cases h1 : n + x9 = NG G p9 k
  · have e1 : nxt (bkS G Hh p9 k) (NG G p9 k) n = NG G p9 k := by rw [← hnx, h1, nxt_N]
    refine g_top (y := 0) (by show fX0_advance (lineF _ _ _ _ _) = 0; rw [h1]; exact (end_F hp (hw.f hk).1).1) ?_
    replace hG := hG.st (S' := sc S 13 (lnG G p9 k (nxt (bkS G Hh p9 k) (NG G p9 k) n))) (by rw [e1]; show sc S 13 (gX0_advance (lineF _ _ _ _ _)) = sc S 13 (lineF _ _ _ _ _); rw [h1]; exact congrArg (sc S 13) (end_F hp (hw.f hk).1).2)
    refine lv_if_eq (tgt := 64) hx hb dX1_findNextBlocker_15 (by decide) (fun c2 => ?_) (fun c2 => absurd (rfl) c2)
    refine lv_iconst (v := 0) hx hb dX1_findNextBlocker_64 (by decide) ?_
    exact g_zret hx hb hr hlk hG rfl ⟨by rw [if_pos e1], rfl⟩ dX1_findNextBlocker_65
  · by_cases h2 : n + x9 + 1 = NG G p9 k
    · have e1 : nxt (bkS G Hh p9 k) (NG G p9 k) n = NG G p9 k := by rw [← hnx]; exact nxt_last h2
      have h3 := adv_F (e := eyN G p9) (u := G 2 (G 3 k)) hp (hw.f hk).1 (show n + x9 < vN p9 (G 3 k) by unfold NG at *; omega)
      refine g_top (y := 0) (h3.2.trans (if_pos h2)) ?_
      replace hG := hG.st (S' := sc S 13 (lnG G p9 k (nxt (bkS G Hh p9 k) (NG G p9 k) n))) (by rw [e1, ← h2]; exact congrArg (sc S 13) h3.1)
      refine lv_if_eq (tgt := 64) hx hb dX1_findNextBlocker_15 (by decide) (fun c3 => ?_) (fun c3 => absurd (rfl) c3)
      refine lv_iconst (v := 0) hx hb dX1_findNextBlocker_64 (by decide) ?_
      exact g_zret hx hb hr hlk hG rfl ⟨by rw [if_pos e1], rfl⟩ dX1_findNextBlocker_65
    · have h2 : n + x9 + 1 < NG G p9 k := by omega
      have h3 := adv_F (e := eyN G p9) (u := G 2 (G 3 k)) hp (hw.f hk).1 (show n + x9 < vN p9 (G 3 k) by unfold NG at *; omega)
      refine g_top (y := 1) (h3.2.trans (if_neg (show ¬ n + x9 + 1 = vN p9 (G 3 k) by unfold NG at *; omega))) ?_
      replace hG := hG.st (S' := sc S 13 (lnG G p9 k (n + x9 + 1))) (congrArg (sc S 13) h3.1)
      have hc : csG G p9 k (n + x9 + 1) < 192 := cs_lt hp (hw.f hk).1 (Nat.le_of_lt h2)
      have hbi := bkS_iff hw (Hh := Hh) hp hk (Nat.le_of_lt h2)
      refine lv_if_eq (tgt := 64) hx hb dX1_findNextBlocker_15 (by decide) (fun c4 => absurd c4 (by decide)) (fun c4 => ?_)
      refine lv_aload_n hx hb dX1_findNextBlocker_18 rfl (lv_at hl 0 rfl) ?_
      refine g_get hx hb hts hown hG inX1 0 rfl rfl 13 (by decide) q118 (v := .ref (hs 13)) rfl dX1_findNextBlocker_19 ?_
      refine g_calliE wC_adr hG (g_runV (As := []) (rest := []) ⟨hx, hb, hml, hown, hts⟩ wC_adr (kX0_crossedCell S (lnG G p9 k (n + x9 + 1)) ) wyX0_crossedCell q264 hG 9 rfl rfl ⟨by decide, by decide⟩ rfl rfl hl.1 (Nat.le_of_ble_eq_true rfl) ⟨Nat.le_refl 0, Nat.le_refl 0⟩ dX1_findNextBlocker_22) (fun H locs hG => ?_)
      refine g_top (y := nI (csG G p9 k (n + x9 + 1))) (cross_F hp (hw.f hk).1 (Nat.le_of_lt h2)) ?_
      refine lv_istore_n (lv' := [(3, .int (nI (csG G p9 k (n + x9 + 1)))), (0, .ref (hs 0)), (1, .ref (hs 3)), (2, .int (nI x9))]) hx hb dX1_findNextBlocker_25 rfl hl (by decide) rfl (fun ls hl => ?_)
      refine lv_iload_n hx hb dX1_findNextBlocker_26 rfl (lv_at hl 0 rfl) ?_
      refine g_stat (As := [.int (nI (csG G p9 k (n + x9 + 1)))]) (rest := []) ⟨hx, hb, hml, hown, hts⟩ (kX1_isCellNumber (nI (csG G p9 k (n + x9 + 1)))) wyX1_isCellNumber q221 hG ⟨by decide, by decide⟩ rfl rfl hl.1 (Nat.le_of_ble_eq_true rfl) ⟨Nat.le_refl 0, Nat.le_refl 0⟩ dX1_findNextBlocker_27 (fun H locs hG => ?_)
      refine g_top (y := 1) (icn_nI hc) ?_
      refine lv_if_eq (tgt := 58) hx hb dX1_findNextBlocker_30 (by decide) (fun c5 => absurd c5 (by decide)) (fun c5 => ?_)
      refine lv_aload_n hx hb dX1_findNextBlocker_33 rfl (lv_at hl 1 rfl) ?_
      refine g_get hx hb hts hown hG inX1 0 rfl rfl 2 (by decide) q107 (v := .ref (hs 2)) rfl dX1_findNextBlocker_34 ?_
      refine lv_iload_n hx hb dX1_findNextBlocker_37 rfl (lv_at hl 0 rfl) ?_
      refine g_aldN (f := S 2) hx hb hG 1 rfl (by decide) (csG G p9 k (n + x9 + 1)) (rfl) (hc) dX1_findNextBlocker_38 ?_
      refine g_top (y := nI (G 1 (csG G p9 k (n + x9 + 1)))) (hK _ hc) ?_
      refine lv_iconst (v := 2) hx hb dX1_findNextBlocker_39 (by decide) ?_
      refine lv_icmp_ne (tgt := 58) hx hb dX1_findNextBlocker_40 (by decide) (fun c40 => ?_) (fun c40 => ?_)
      · have hbk : bkS G Hh p9 k (n + x9 + 1) = false := by rw [hbi, decide_eq_false (fun q => c40 (by rw [q]; rfl)), Bool.false_and]
        refine lv_iinc (v := nI (x9 + 1)) (lv' := [(2, .int (nI (x9 + 1))), (3, .int (nI (csG G p9 k (n + x9 + 1)))), (0, .ref (hs 0)), (1, .ref (hs 3))]) hx hb dX1_findNextBlocker_58 hl (k := 3) rfl (nI_1 x9) (by decide) rfl (fun ls hl => ?_)
        refine lv_goto (tgt := 2) hx hb dX1_findNextBlocker_61 (by decide) ?_
        exact ih (x9 + 1) _ _ _ _ (by omega) ⟨by rw [Nat.add_assoc], by omega, by rw [← hnx, nxt_miss h2 hbk, Nat.add_assoc]⟩ hG (lv_sub hl [2, 3, 0] rfl)
      · have hkd : G 1 (csG G p9 k (n + x9 + 1)) = 2 := (nI_eq (by have := (hw.c hc).1; omega) (by decide)).mp (show nI _ = nI 2 from c40)
        refine lv_aload_n hx hb dX1_findNextBlocker_43 rfl (lv_at hl 2 rfl) ?_
        refine lv_iload_n hx hb dX1_findNextBlocker_44 rfl (lv_at hl 0 rfl) ?_
        refine g_aldN (f := S 3) hx hb hG 2 rfl (by decide) (csG G p9 k (n + x9 + 1)) (rfl) (hc) dX1_findNextBlocker_45 ?_
        refine g_top (y := nI (Hh (csG G p9 k (n + x9 + 1)))) (hH _ hc) ?_
        refine lv_aload_n hx hb dX1_findNextBlocker_46 rfl (lv_at hl 1 rfl) ?_
        refine g_get hx hb hts hown hG inX1 0 rfl rfl 13 (by decide) q118 (v := .ref (hs 13)) rfl dX1_findNextBlocker_47 ?_
        refine g_calliE wC_adr hG (g_runV (As := []) (rest := [.int (nI (Hh (csG G p9 k (n + x9 + 1))))]) ⟨hx, hb, hml, hown, hts⟩ wC_adr (kX0_wholeClearance S (lnG G p9 k (n + x9 + 1))  (prt_ne hp (hw.f hk).1)) wyX0_wholeClearance q268 hG 9 rfl rfl ⟨by decide, by decide⟩ rfl rfl hl.1 (Nat.le_of_ble_eq_true rfl) ⟨Nat.le_refl 0, Nat.le_refl 0⟩ dX1_findNextBlocker_50) (fun H locs hG => ?_)
        refine g_top (y := nI (wn p9 (G 3 k) (eyN G p9) (G 2 (G 3 k)) (n + x9 + 1))) (whole_F hp (hw.f hk).1 (eyN_le G p9) (hw.c (hw.f hk).1).2.1 h2) ?_
        refine lv_icmp_le (tgt := 58) hx hb dX1_findNextBlocker_53 (by decide) (fun c53 => ?_) (fun c53 => ?_)
        · have hbk : bkS G Hh p9 k (n + x9 + 1) = false := by
            have q1 := hH9 _ hc
            have q2 := wn_le (t := G 3 k) (n := n + x9 + 1) hp (hw.f hk).1 (eyN_le G p9) (hw.c (hw.f hk).1).2.1 (Nat.le_of_lt h2)
            rw [hbi, decide_eq_true hkd, Bool.true_and, decide_eq_false (fun q => nI_ge q (by omega) c53)]
          refine lv_iinc (v := nI (x9 + 1)) (lv' := [(2, .int (nI (x9 + 1))), (3, .int (nI (csG G p9 k (n + x9 + 1)))), (0, .ref (hs 0)), (1, .ref (hs 3))]) hx hb dX1_findNextBlocker_58 hl (k := 3) rfl (nI_1 x9) (by decide) rfl (fun ls hl => ?_)
          refine lv_goto (tgt := 2) hx hb dX1_findNextBlocker_61 (by decide) ?_
          exact ih (x9 + 1) _ _ _ _ (by omega) ⟨by rw [Nat.add_assoc], by omega, by rw [← hnx, nxt_miss h2 hbk, Nat.add_assoc]⟩ hG (lv_sub hl [2, 3, 0] rfl)
        · have hbk : bkS G Hh p9 k (n + x9 + 1) = true := by
            have q1 := hH9 _ hc
            rw [hbi, decide_eq_true hkd, Bool.true_and]
            exact decide_eq_true (Nat.lt_of_not_le (fun q => c53 (nI_le q (by have := wn_le (t := G 3 k) (n := n + x9 + 1) hp (hw.f hk).1 (eyN_le G p9) (hw.c (hw.f hk).1).2.1 (Nat.le_of_lt h2); omega))))
          have e1 : nxt (bkS G Hh p9 k) (NG G p9 k) n = n + x9 + 1 := by rw [← hnx]; exact nxt_hit h2 hbk
          refine lv_iconst (v := 1) hx hb dX1_findNextBlocker_56 (by decide) ?_
          exact g_zret hx hb hr hlk hG rfl ⟨by rw [if_neg (by omega)], by rw [e1]⟩ dX1_findNextBlocker_57
set_option maxHeartbeats 4000000 in
set_option maxRecDepth 100000 in
theorem kX1_findNextBlocker_12 {l : Launch} {D : va_G} {cy : ClassId} {hs : Nat → Nat} {X : va_W} (G : GN) (S : GS) (hw : wf G) (hK : ∀ c, c < 192 → S 2 c = nI (G 1 c)) (Hh : Nat → Nat) (hH : ∀ c, c < 192 → S 12 c = nI (Hh c)) (hH9 : ∀ c, c < 192 → Hh c ≤ 60) (p9 k n : Nat) (hp : p9 < 192) (hk : k < G 0 2) (hn : n ≤ NG G p9 k) : Ct l D cy (wC cy hs X) yX1_findNextBlocker cX1_findNextBlocker 4 (some .boolean) 3 63 (sc S 13 (lnG G p9 k n)) [.ref (hs 0), .ref (hs 12)] (QI D (wC cy hs X) (exI (if nxt (bkS G Hh p9 k) (NG G p9 k) n = NG G p9 k then 0 else 1) (sc S 13 (lnG G p9 k (nxt (bkS G Hh p9 k) (NG G p9 k) n))))) := by
  refine Ct.of wC_adr (plainFor_of_name (by decide)) (Nat.le_of_ble_eq_true rfl) ?_
  intro p e s m below meth c ls C hl hG
  obtain ⟨hx, hb, hml, hown, hts, hr, hlk⟩ := C
  have hl : lv_has ls 4 [(0, .ref (hs 0)), (1, .ref (hs 12))] := hl
  refine lv_iconst (v := 0) hx hb dX1_findNextBlocker_0 (by decide) ?_
  refine lv_istore_n (lv' := [(2, .int 0), (0, .ref (hs 0)), (1, .ref (hs 12))]) hx hb dX1_findNextBlocker_1 rfl hl (by decide) rfl (fun ls hl => ?_)
  refine g_rec (τ := Nat) (fun j S9 => S9 = sc S 13 (lnG G p9 k (n + j)) ∧ n + j ≤ NG G p9 k ∧ nxt (bkS G Hh p9 k) (NG G p9 k) (n + j) = nxt (bkS G Hh p9 k) (NG G p9 k) n) (fun j => 100 - j) (fun j => [(0, .ref (hs 0)), (1, .ref (hs 12)), (2, .int (nI j))]) 2 4 ?_ 0 _ _ _ _ (⟨rfl, hn, rfl⟩) hG (lv_sub hl [1, 2, 0] (rfl))
  intro x9 S9 H locs ls hI hG hl ih
  obtain ⟨rfl, hj, hnx⟩ := hI
  have hN9 := NG_le hw hp hk
  have hj26 : x9 ≤ 26 := by omega
  refine lv_iload_n hx hb dX1_findNextBlocker_2 rfl (lv_at hl 2 rfl) ?_
  refine lv_bipush (v := 28) hx hb dX1_findNextBlocker_3 (by decide) ?_
  refine lv_icmp_ge (tgt := 64) hx hb dX1_findNextBlocker_5 (by decide) (fun c1 => absurd c1 (nI_ge (b := 28) (by omega) (by decide))) (fun c1 => ?_)
  refine lv_aload_n hx hb dX1_findNextBlocker_8 rfl (lv_at hl 0 rfl) ?_
  refine g_get hx hb hts hown hG inX1 0 rfl rfl 13 (by decide) q118 (v := .ref (hs 13)) rfl dX1_findNextBlocker_9 ?_
  refine g_calliE wC_adr hG (g_runV (As := []) (rest := []) ⟨hx, hb, hml, hown, hts⟩ wC_adr (kX0_advance S (lnG G p9 k (n + x9)) ) wyX0_advance q256 hG 9 rfl rfl ⟨by decide, by decide⟩ rfl rfl hl.1 (Nat.le_of_ble_eq_true rfl) ⟨Nat.le_refl 0, Nat.le_refl 0⟩ dX1_findNextBlocker_12) (fun H locs hG => ?_)
  by_cases h1 : n + x9 = NG G p9 k
  · have e1 : nxt (bkS G Hh p9 k) (NG G p9 k) n = NG G p9 k := by rw [← hnx, h1, nxt_N]
    refine g_top (y := 0) (by show fX0_advance (lineF _ _ _ _ _) = 0; rw [h1]; exact (end_F hp (hw.f hk).1).1) ?_
    replace hG := hG.st (S' := sc S 13 (lnG G p9 k (nxt (bkS G Hh p9 k) (NG G p9 k) n))) (by rw [e1]; show sc S 13 (gX0_advance (lineF _ _ _ _ _)) = sc S 13 (lineF _ _ _ _ _); rw [h1]; exact congrArg (sc S 13) (end_F hp (hw.f hk).1).2)
    refine lv_if_eq (tgt := 64) hx hb dX1_findNextBlocker_15 (by decide) (fun c2 => ?_) (fun c2 => absurd (rfl) c2)
    refine lv_iconst (v := 0) hx hb dX1_findNextBlocker_64 (by decide) ?_
    exact g_zret hx hb hr hlk hG rfl ⟨by rw [if_pos e1], rfl⟩ dX1_findNextBlocker_65
  · by_cases h2 : n + x9 + 1 = NG G p9 k
    · have e1 : nxt (bkS G Hh p9 k) (NG G p9 k) n = NG G p9 k := by rw [← hnx]; exact nxt_last h2
      have h3 := adv_F (e := eyN G p9) (u := G 2 (G 3 k)) hp (hw.f hk).1 (show n + x9 < vN p9 (G 3 k) by unfold NG at *; omega)
      refine g_top (y := 0) (h3.2.trans (if_pos h2)) ?_
      replace hG := hG.st (S' := sc S 13 (lnG G p9 k (nxt (bkS G Hh p9 k) (NG G p9 k) n))) (by rw [e1, ← h2]; exact congrArg (sc S 13) h3.1)
      refine lv_if_eq (tgt := 64) hx hb dX1_findNextBlocker_15 (by decide) (fun c3 => ?_) (fun c3 => absurd (rfl) c3)
      refine lv_iconst (v := 0) hx hb dX1_findNextBlocker_64 (by decide) ?_
      exact g_zret hx hb hr hlk hG rfl ⟨by rw [if_pos e1], rfl⟩ dX1_findNextBlocker_65
    · have h2 : n + x9 + 1 < NG G p9 k := by omega
      have h3 := adv_F (e := eyN G p9) (u := G 2 (G 3 k)) hp (hw.f hk).1 (show n + x9 < vN p9 (G 3 k) by unfold NG at *; omega)
      refine g_top (y := 1) (h3.2.trans (if_neg (show ¬ n + x9 + 1 = vN p9 (G 3 k) by unfold NG at *; omega))) ?_
      replace hG := hG.st (S' := sc S 13 (lnG G p9 k (n + x9 + 1))) (congrArg (sc S 13) h3.1)
      have hc : csG G p9 k (n + x9 + 1) < 192 := cs_lt hp (hw.f hk).1 (Nat.le_of_lt h2)
      have hbi := bkS_iff hw (Hh := Hh) hp hk (Nat.le_of_lt h2)
      refine lv_if_eq (tgt := 64) hx hb dX1_findNextBlocker_15 (by decide) (fun c4 => absurd c4 (by decide)) (fun c4 => ?_)
      refine lv_aload_n hx hb dX1_findNextBlocker_18 rfl (lv_at hl 0 rfl) ?_
      refine g_get hx hb hts hown hG inX1 0 rfl rfl 13 (by decide) q118 (v := .ref (hs 13)) rfl dX1_findNextBlocker_19 ?_
      refine g_calliE wC_adr hG (g_runV (As := []) (rest := []) ⟨hx, hb, hml, hown, hts⟩ wC_adr (kX0_crossedCell S (lnG G p9 k (n + x9 + 1)) ) wyX0_crossedCell q264 hG 9 rfl rfl ⟨by decide, by decide⟩ rfl rfl hl.1 (Nat.le_of_ble_eq_true rfl) ⟨Nat.le_refl 0, Nat.le_refl 0⟩ dX1_findNextBlocker_22) (fun H locs hG => ?_)
      refine g_top (y := nI (csG G p9 k (n + x9 + 1))) (cross_F hp (hw.f hk).1 (Nat.le_of_lt h2)) ?_
      refine lv_istore_n (lv' := [(3, .int (nI (csG G p9 k (n + x9 + 1)))), (0, .ref (hs 0)), (1, .ref (hs 12)), (2, .int (nI x9))]) hx hb dX1_findNextBlocker_25 rfl hl (by decide) rfl (fun ls hl => ?_)
      refine lv_iload_n hx hb dX1_findNextBlocker_26 rfl (lv_at hl 0 rfl) ?_
      refine g_stat (As := [.int (nI (csG G p9 k (n + x9 + 1)))]) (rest := []) ⟨hx, hb, hml, hown, hts⟩ (kX1_isCellNumber (nI (csG G p9 k (n + x9 + 1)))) wyX1_isCellNumber q221 hG ⟨by decide, by decide⟩ rfl rfl hl.1 (Nat.le_of_ble_eq_true rfl) ⟨Nat.le_refl 0, Nat.le_refl 0⟩ dX1_findNextBlocker_27 (fun H locs hG => ?_)
      refine g_top (y := 1) (icn_nI hc) ?_
      refine lv_if_eq (tgt := 58) hx hb dX1_findNextBlocker_30 (by decide) (fun c5 => absurd c5 (by decide)) (fun c5 => ?_)
      refine lv_aload_n hx hb dX1_findNextBlocker_33 rfl (lv_at hl 1 rfl) ?_
      refine g_get hx hb hts hown hG inX1 0 rfl rfl 2 (by decide) q107 (v := .ref (hs 2)) rfl dX1_findNextBlocker_34 ?_
      refine lv_iload_n hx hb dX1_findNextBlocker_37 rfl (lv_at hl 0 rfl) ?_
      refine g_aldN (f := S 2) hx hb hG 1 rfl (by decide) (csG G p9 k (n + x9 + 1)) (rfl) (hc) dX1_findNextBlocker_38 ?_
      refine g_top (y := nI (G 1 (csG G p9 k (n + x9 + 1)))) (hK _ hc) ?_
      refine lv_iconst (v := 2) hx hb dX1_findNextBlocker_39 (by decide) ?_
      refine lv_icmp_ne (tgt := 58) hx hb dX1_findNextBlocker_40 (by decide) (fun c40 => ?_) (fun c40 => ?_)
      · have hbk : bkS G Hh p9 k (n + x9 + 1) = false := by rw [hbi, decide_eq_false (fun q => c40 (by rw [q]; rfl)), Bool.false_and]
        refine lv_iinc (v := nI (x9 + 1)) (lv' := [(2, .int (nI (x9 + 1))), (3, .int (nI (csG G p9 k (n + x9 + 1)))), (0, .ref (hs 0)), (1, .ref (hs 12))]) hx hb dX1_findNextBlocker_58 hl (k := 3) rfl (nI_1 x9) (by decide) rfl (fun ls hl => ?_)
        refine lv_goto (tgt := 2) hx hb dX1_findNextBlocker_61 (by decide) ?_
        exact ih (x9 + 1) _ _ _ _ (by omega) ⟨by rw [Nat.add_assoc], by omega, by rw [← hnx, nxt_miss h2 hbk, Nat.add_assoc]⟩ hG (lv_sub hl [2, 3, 0] rfl)
      · have hkd : G 1 (csG G p9 k (n + x9 + 1)) = 2 := (nI_eq (by have := (hw.c hc).1; omega) (by decide)).mp (show nI _ = nI 2 from c40)
        refine lv_aload_n hx hb dX1_findNextBlocker_43 rfl (lv_at hl 2 rfl) ?_
        refine lv_iload_n hx hb dX1_findNextBlocker_44 rfl (lv_at hl 0 rfl) ?_
        refine g_aldN (f := S 12) hx hb hG 8 rfl (by decide) (csG G p9 k (n + x9 + 1)) (rfl) (hc) dX1_findNextBlocker_45 ?_
        refine g_top (y := nI (Hh (csG G p9 k (n + x9 + 1)))) (hH _ hc) ?_
        refine lv_aload_n hx hb dX1_findNextBlocker_46 rfl (lv_at hl 1 rfl) ?_
        refine g_get hx hb hts hown hG inX1 0 rfl rfl 13 (by decide) q118 (v := .ref (hs 13)) rfl dX1_findNextBlocker_47 ?_
        refine g_calliE wC_adr hG (g_runV (As := []) (rest := [.int (nI (Hh (csG G p9 k (n + x9 + 1))))]) ⟨hx, hb, hml, hown, hts⟩ wC_adr (kX0_wholeClearance S (lnG G p9 k (n + x9 + 1))  (prt_ne hp (hw.f hk).1)) wyX0_wholeClearance q268 hG 9 rfl rfl ⟨by decide, by decide⟩ rfl rfl hl.1 (Nat.le_of_ble_eq_true rfl) ⟨Nat.le_refl 0, Nat.le_refl 0⟩ dX1_findNextBlocker_50) (fun H locs hG => ?_)
        refine g_top (y := nI (wn p9 (G 3 k) (eyN G p9) (G 2 (G 3 k)) (n + x9 + 1))) (whole_F hp (hw.f hk).1 (eyN_le G p9) (hw.c (hw.f hk).1).2.1 h2) ?_
        refine lv_icmp_le (tgt := 58) hx hb dX1_findNextBlocker_53 (by decide) (fun c53 => ?_) (fun c53 => ?_)
        · have hbk : bkS G Hh p9 k (n + x9 + 1) = false := by
            have q1 := hH9 _ hc
            have q2 := wn_le (t := G 3 k) (n := n + x9 + 1) hp (hw.f hk).1 (eyN_le G p9) (hw.c (hw.f hk).1).2.1 (Nat.le_of_lt h2)
            rw [hbi, decide_eq_true hkd, Bool.true_and, decide_eq_false (fun q => nI_ge q (by omega) c53)]
          refine lv_iinc (v := nI (x9 + 1)) (lv' := [(2, .int (nI (x9 + 1))), (3, .int (nI (csG G p9 k (n + x9 + 1)))), (0, .ref (hs 0)), (1, .ref (hs 12))]) hx hb dX1_findNextBlocker_58 hl (k := 3) rfl (nI_1 x9) (by decide) rfl (fun ls hl => ?_)
          refine lv_goto (tgt := 2) hx hb dX1_findNextBlocker_61 (by decide) ?_
          exact ih (x9 + 1) _ _ _ _ (by omega) ⟨by rw [Nat.add_assoc], by omega, by rw [← hnx, nxt_miss h2 hbk, Nat.add_assoc]⟩ hG (lv_sub hl [2, 3, 0] rfl)
        · have hbk : bkS G Hh p9 k (n + x9 + 1) = true := by
            have q1 := hH9 _ hc
            rw [hbi, decide_eq_true hkd, Bool.true_and]
            exact decide_eq_true (Nat.lt_of_not_le (fun q => c53 (nI_le q (by have := wn_le (t := G 3 k) (n := n + x9 + 1) hp (hw.f hk).1 (eyN_le G p9) (hw.c (hw.f hk).1).2.1 (Nat.le_of_lt h2); omega))))
          have e1 : nxt (bkS G Hh p9 k) (NG G p9 k) n = n + x9 + 1 := by rw [← hnx]; exact nxt_hit h2 hbk
          refine lv_iconst (v := 1) hx hb dX1_findNextBlocker_56 (by decide) ?_
          exact g_zret hx hb hr hlk hG rfl ⟨by rw [if_neg (by omega)], by rw [e1]⟩ dX1_findNextBlocker_57
