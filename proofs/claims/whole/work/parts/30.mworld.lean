/-! ===== the reference: its scratch, and what its loops count ===== -/
def sF (S : GS) : Nat → Int32 := fun i => S 0 (i + 8)
theorem sm_sF (S : GS) : sm S (sF S) = S := by
  funext b k
  unfold sm sF
  by_cases h : b = 0
  · subst h
    rw [if_pos rfl]
    show (if 8 ≤ k ∧ k < 17 then S 0 (k - 8 + 8) else S 0 k) = S 0 k
    split
    · rename_i g; rw [show k - 8 + 8 = k by omega]
    · rfl
  · rw [if_neg h]
theorem sm_ne (S : GS) (F : Nat → Int32) {j : Nat} (hj : j ≠ 0) : sm S F j = S j := by unfold sm; rw [if_neg hj]
theorem sm_0 (S : GS) (F : Nat → Int32) {k : Nat} (hk : ¬ (8 ≤ k ∧ k < 17)) : sm S F 0 k = S 0 k := by
  unfold sm
  rw [if_pos rfl]
  show (if 8 ≤ k ∧ k < 17 then F (k - 8) else S 0 k) = S 0 k
  rw [if_neg hk]
theorem sm_sm (S : GS) (F F' : Nat → Int32) : sm (sm S F) F' = sm S F' := by
  funext b k
  by_cases h : b = 0
  · subst h
    by_cases g : 8 ≤ k ∧ k < 17
    · show (if 8 ≤ k ∧ k < 17 then F' (k - 8) else _) = (if 8 ≤ k ∧ k < 17 then F' (k - 8) else _)
      rw [if_pos g, if_pos g]
    · rw [sm_0 _ _ g, sm_0 _ _ g, sm_0 _ _ g]
  · rw [sm_ne _ _ h, sm_ne _ _ h, sm_ne _ _ h]
/-- but for the scratch fields -/
def frV (S S' : GS) : Prop := ∃ F, S' = sm S F
theorem frV.rf {S : GS} : frV S S := ⟨sF S, (sm_sF S).symm⟩
theorem frV.tr {S S1 S2 : GS} (h1 : frV S S1) (h2 : frV S1 S2) : frV S S2 := by
  obtain ⟨F, rfl⟩ := h1
  obtain ⟨F', rfl⟩ := h2
  exact ⟨F', sm_sm S F F'⟩
theorem frV.ne {S S' : GS} (h : frV S S') {j : Nat} (hj : j ≠ 0) : S' j = S j := by
  obtain ⟨F, rfl⟩ := h
  exact sm_ne S F hj
theorem encM.sm {G : GN} {S : GS} {F : Nat → Int32} (h : encM G S) : encM G (sm S F) := by
  unfold encM
  rw [sm_0 S F (k := 0) (by omega), sm_0 S F (k := 1) (by omega), sm_0 S F (k := 4) (by omega), sm_0 S F (k := 18) (by omega), sm_0 S F (k := 22) (by omega), sm_ne S F (j := 2) (by decide), sm_ne S F (j := 3) (by decide), sm_ne S F (j := 5) (by decide), sm_ne S F (j := 6) (by decide), sm_ne S F (j := 7) (by decide), sm_ne S F (j := 19) (by decide), sm_ne S F (j := 20) (by decide), sm_ne S F (j := 23) (by decide), sm_ne S F (j := 24) (by decide), sm_ne S F (j := 25) (by decide)]
  exact h
theorem encM.fv {G : GN} {S S' : GS} (h : encM G S) (hf : frV S S') : encM G S' := by
  obtain ⟨F, rfl⟩ := hf
  exact h.sm
/-- but for one cell -/
def frB (b : Nat) (S S' : GS) : Prop := ∀ j, j ≠ b → S' j = S j
theorem frB.rf {b : Nat} {S : GS} : frB b S S := fun _ _ => rfl
theorem frB.tr {b : Nat} {S S1 S2 : GS} (h1 : frB b S S1) (h2 : frB b S1 S2) : frB b S S2 := fun j hj => (h2 j hj).trans (h1 j hj)
theorem encM.fb {G : GN} {S S' : GS} {b : Nat} (h : encM G S) (hb : b = 17 ∨ b = 21 ∨ b = 26) (hf : frB b S S') : encM G S' := by
  unfold encM
  rw [hf 0 (by omega), hf 2 (by omega), hf 3 (by omega), hf 5 (by omega), hf 6 (by omega), hf 7 (by omega), hf 19 (by omega), hf 20 (by omega), hf 23 (by omega), hf 24 (by omega), hf 25 (by omega)]
  exact h
/-- the heights that are looked at -/
def LkM (G : GN) (Hh : Nat → Nat) (S : GS) : Prop := ∀ c, c < 192 → S 17 c = nI (LK G Hh c)
theorem LkM.fv {G : GN} {Hh : Nat → Nat} {S S' : GS} (h : LkM G Hh S) (hf : frV S S') : LkM G Hh S' := fun c hc => by rw [hf.ne (by decide)]; exact h c hc
theorem lk_I {G : GN} (hw : wf G) {c : Nat} (hc : c < 192) : (if nI (G 1 c) = 2 then nI (G 2 c) else 0) = nI (LK G (G 2) c) := by
  unfold LK
  have h := (hw.c hc).1
  by_cases g : G 1 c = 2
  · rw [if_pos g, if_pos (by rw [g]; rfl)]
  · rw [if_neg g, if_neg (show ¬ nI (G 1 c) = 2 from fun q => g ((nI_eq (b := 2) (by omega) (by decide)).mp q))]; rfl
theorem LK_60 {G : GN} {Hh : Nat → Nat} {c : Nat} (h : Hh c ≤ 60) : LK G Hh c ≤ 60 := by unfold LK; split <;> omega
/-- the view of feature k from p, as the reference lays it -/
def lkG (G : GN) (p k : Nat) (x7 x8 : Int32) : Nat → Int32 := lkF p (G 3 k) (eyN G p) (G 2 (G 3 k)) x7 x8
theorem eyM {G : GN} {S : GS} (hw : wf G) (he : encM G S) {p : Nat} (hp : p < 192) : (if S 2 p = 3 then (11 : Int32) else 16) = nI (eyN G p) := by
  have h := (hw.c hp).1
  rw [he.2.1 p hp]
  unfold eyN
  by_cases g : G 1 p = 3
  · rw [if_pos g, if_pos (by rw [g]; rfl)]; rfl
  · rw [if_neg g, if_neg (show ¬ nI (G 1 p) = 3 from fun q => g ((nI_eq (b := 3) (by omega) (by decide)).mp q))]; rfl
theorem look_G {G : GN} {S : GS} {F : Nat → Int32} (hw : wf G) (he : encM G S) {p k : Nat} (hp : p < 192) (hk : k < G 0 2) : gX2_look S F (p % 16) (p / 16) k (G 3 k % 16) (G 3 k / 16) = lkG G p k (F 7) (F 8) :=
  look_F hp (hw.f hk).1 (eyM hw he hp) (he.2.2.1 _ (hw.f hk).1)
theorem lkG_6 {G : GN} (hw : wf G) {p k : Nat} {x7 x8 : Int32} (hp : p < 192) (hk : k < G 0 2) : ¬ lkG G p k x7 x8 6 = 0 := by
  have h1 := prt_pos p (G 3 k)
  have h2 := prt_le hp (hw.f hk).1
  show ¬ nI (prt p (G 3 k)) = 0
  exact nI_ne0 (by omega) (by omega)
theorem nr_lm (S : GS) (F : Nat → Int32) (a b : Int32) : ∃ y7 y8, gX2_narrow S F a b = lm (F 0) (F 1) (F 2) (F 3) (F 4) (F 5) (F 6) y7 y8 := by
  unfold gX2_narrow
  split
  · exact ⟨_, _, rfl⟩
  · exact ⟨_, _, rfl⟩
theorem cl_lm (S : GS) (F : Nat → Int32) (x y : Int32) : ∃ y7 y8, gX2_clearance S F x y = lm (F 0) (F 1) (F 2) (F 3) (F 4) (F 5) (F 6) y7 y8 := by
  rw [cl_g]
  unfold nr2
  obtain ⟨a7, a8, e⟩ := nr_lm S (lm (F 0) (F 1) (F 2) (F 3) (F 4) (F 5) (F 6) 0 (F 6)) (x - F 0) (F 2)
  rw [e]
  obtain ⟨b7, b8, e2⟩ := nr_lm S (lm (F 0) (F 1) (F 2) (F 3) (F 4) (F 5) (F 6) a7 a8) (y - F 1) (F 3)
  exact ⟨b7, b8, e2⟩
theorem low_gE (S : GS) (G : GN) (p k : Nat) (x7 x8 : Int32) (c : Nat) : ∃ y7 y8, gX2_loweredTo S (lkG G p k x7 x8) c = lkG G p k y7 y8 := by
  obtain ⟨a7, a8, e⟩ := cl_lm S (lkG G p k x7 x8) (nI (c % 16)) (nI (c / 16))
  have e2 : gX2_clearance S (lkG G p k x7 x8) (nI (c % 16)) (nI (c / 16)) = lkG G p k a7 a8 := e
  unfold gX2_loweredTo
  split
  · exact ⟨x7, x8, rfl⟩
  · split
    · exact ⟨a7, a8, e2⟩
    · split
      · exact ⟨a7, a8, e2⟩
      · exact ⟨a7, a8, e2⟩
/-- to which height the reference lowers -/
def loI (G : GN) (Hh : Nat → Nat) (p k c : Nat) : Int32 := if blk G Hh p k c then nI (wck G p k c) else -1
theorem low_I {G : GN} {S : GS} {Hh : Nat → Nat} (hw : wf G) (hL : LkM G Hh S) (hH9 : ∀ c, c < 192 → Hh c ≤ 60) {p k c : Nat} (hp : p < 192) (hk : k < G 0 2) (hc : c < 192) {x7 x8 : Int32} : fX2_loweredTo S (lkG G p k x7 x8) c = loI G Hh p k c :=
  low_spec hp (hw.f hk).1 hc (eyN_le G p) (hG2 hw _ (hw.f hk).1) (hL c hc) (LK_60 (hH9 c hc))
theorem lo_pos {G : GN} {Hh : Nat → Nat} {p k c : Nat} (h : Hh c ≤ 60) : (loI G Hh p k c < 0 ↔ ¬ blk G Hh p k c = true) ∧ (0 ≤ loI G Hh p k c ↔ blk G Hh p k c = true) := by
  unfold loI
  by_cases g : blk G Hh p k c = true
  · have h2 := (blk_lt g).1
    rw [if_pos g]
    have h3 : ¬ nI (wck G p k c) < 0 := nI_pos (by omega)
    have h4 : 0 ≤ nI (wck G p k c) := by rw [Int32.lt_iff_toInt_lt] at h3; rw [Int32.le_iff_toInt_le]; omega
    exact ⟨⟨fun q => absurd q h3, fun q => absurd g q⟩, ⟨fun _ => g, fun _ => h4⟩⟩
  · rw [if_neg g]
    exact ⟨⟨fun _ => g, fun _ => by decide⟩, ⟨fun q => absurd q (by decide), fun q => absurd q g⟩⟩
theorem cnt_stepM {G : GN} {Hh : Nat → Nat} {p k c : Nat} (h : Hh c ≤ 60) : nI (cntB (blk G Hh p k) c) + (if loI G Hh p k c < 0 then 0 else 1) = nI (cntB (blk G Hh p k) (c + 1)) := by
  have h1 := lo_pos (G := G) (p := p) (k := k) h
  show _ = nI (cntB (blk G Hh p k) c + (if blk G Hh p k c then 1 else 0))
  by_cases g : blk G Hh p k c = true
  · rw [if_neg (fun q => h1.1.mp q g), if_pos g]; exact nI_1 _
  · rw [if_pos (h1.1.mpr g), if_neg g]; exact nI_add _ 0
theorem op_stepM {G : GN} {Hh : Nat → Nat} {p k c : Nat} (h : Hh c ≤ 60) : (if loI G Hh p k c < 0 then opB (blk G Hh p k) c else nI c) = opB (blk G Hh p k) (c + 1) := by
  have h1 := lo_pos (G := G) (p := p) (k := k) h
  show _ = if blk G Hh p k c then nI c else opB (blk G Hh p k) c
  by_cases g : blk G Hh p k c = true
  · rw [if_neg (fun q => h1.1.mp q g), if_pos g]
  · rw [if_pos (h1.1.mpr g), if_neg g]
def cfN (G : GN) (Hh : Nat → Nat) (p k c : Nat) : Nat := if blk G Hh p k c then Hh c - wck G p k c else 0
theorem cost_stepM {G : GN} {Hh : Nat → Nat} {p k c : Nat} (h : Hh c ≤ 60) : nI (sumN (cfN G Hh p k) c) + (if 0 ≤ loI G Hh p k c then nI (LK G Hh c) - loI G Hh p k c else 0) = nI (sumN (cfN G Hh p k) (c + 1)) := by
  have h1 := lo_pos (G := G) (p := p) (k := k) h
  show _ = nI (sumN (cfN G Hh p k) c + cfN G Hh p k c)
  rw [← nI_add]
  congr 1
  unfold cfN
  by_cases g : blk G Hh p k c = true
  · have h2 := blk_lt g
    rw [if_pos (h1.2.mpr g), if_pos g]
    unfold loI LK
    rw [if_pos g, if_pos h2.2]
    exact pk_sub (by omega)
  · rw [if_neg (fun q => g (h1.2.mp q)), if_neg g]; rfl
theorem vErr_ge {G : GN} {x y f : Int32} : (0 ≤ vErr G x y f) ↔ vErr G x y f = 0 := by
  unfold vErr
  split
  · split
    · split
      · exact ⟨fun _ => rfl, fun _ => by decide⟩
      · exact ⟨fun q => absurd q (by decide), fun q => absurd q (by decide)⟩
    · exact ⟨fun q => absurd q (by decide), fun q => absurd q (by decide)⟩
  · exact ⟨fun q => absurd q (by decide), fun q => absurd q (by decide)⟩
theorem xM {G : GN} (hw : wf G) {x y : Int32} (h : hasB G x y = true) : x = nI (cN x y % 16) := by
  rw [(has_xy hw h).1]; exact (has_x h).1
theorem yM {G : GN} (hw : wf G) {x y : Int32} (h : hasB G x y = true) : y = nI (cN x y / 16) := by
  rw [(has_xy hw h).2]; exact (has_x h).2.1
theorem idx_c (c : Nat) : 16 * nI (c / 16) + nI (c % 16) = nI c := by rw [idx_nI, cellE]
theorem vp_c {c : Nat} (hc : c < 192) : vp_in (16 * nI (c / 16) + nI (c % 16)) 192 := by rw [idx_c]; exact vp_in_nI hc (by decide)
theorem vp_h {G : GN} (hw : wf G) {x y : Int32} (h : hasB G x y = true) : vp_in (16 * y + x) 192 := by rw [cellM h]; exact vp_in_nI (has_c hw h) (by decide)
theorem vis_0 {G : GN} {Hh : Nat → Nat} {p k : Nat} : nI (cntB (blk G Hh p k) 192) = 0 ↔ visB G Hh p k = true := by
  unfold visB
  rw [decide_eq_true_eq]
  have := cntB_le (blk G Hh p k) 192
  exact nI_eq (b := 0) (by omega) (by decide)
theorem set_step (f : Nat → Bool) (n : Nat) : setI f n ||| (if (if f n then (1 : Int32) else 0) = 0 then 0 else (1 : Int32) <<< (nI n &&& 31)) = setI f (n + 1) := by
  show _ = setI f n ||| (if f n then (1 : Int32) <<< (nI n &&& 31) else 0)
  congr 1
  cases f n <;> rfl
/-! where a feature appears, as the reference says it -/
def apI (G : GN) (Hh : Nat → Nat) (k : Nat) : Int32 := if apN G Hh k < G 0 3 then nI (apN G Hh k) else 99
def apJ (G : GN) (Hh : Nat → Nat) (k : Nat) : Nat := if apN G Hh k < G 0 3 then apN G Hh k else 99
theorem apI_J (G : GN) (Hh : Nat → Nat) (k : Nat) : apI G Hh k = nI (apJ G Hh k) := by unfold apI apJ; split <;> rfl
theorem apJ_le {G : GN} (hw : wf G) (Hh : Nat → Nat) (k : Nat) : apJ G Hh k ≤ 99 := by
  have := hw.1.2.2.2.2.2.1
  unfold apJ; split <;> omega
theorem apJ_lt {G : GN} (hw : wf G) {H1 H2 : Nat → Nat} {k j : Nat} : apJ G H1 k < apJ G H2 j ↔ apN G H1 k < apN G H2 j := by
  have h := hw.1.2.2.2.2.2.1
  have h1 := apN_le G H1 k
  have h2 := apN_le G H2 j
  unfold apJ
  split <;> split <;> omega
theorem apJ_eq {G : GN} (hw : wf G) {H1 H2 : Nat → Nat} {k j : Nat} : apJ G H1 k = apJ G H2 j ↔ apN G H1 k = apN G H2 j := by
  have h := hw.1.2.2.2.2.2.1
  have h1 := apN_le G H1 k
  have h2 := apN_le G H2 j
  unfold apJ
  split <;> split <;> omega
theorem apI_99 {G : GN} (hw : wf G) {Hh : Nat → Nat} {k : Nat} : apI G Hh k = 99 ↔ ¬ apN G Hh k < G 0 3 := by
  have h := hw.1.2.2.2.2.2.1
  have h1 := apJ_le hw Hh k
  rw [apI_J, show (99 : Int32) = nI 99 from rfl, nI_eq (by omega) (by decide)]
  unfold apJ
  split <;> omega
theorem apI_q {G : GN} (hw : wf G) {Hh : Nat → Nat} {k q : Nat} (hq : q < G 0 3) : apI G Hh k = nI q ↔ apN G Hh k = q := by
  have h := hw.1.2.2.2.2.2.1
  have h1 := apJ_le hw Hh k
  have h2 := apN_le G Hh k
  rw [apI_J, nI_eq (by omega) (by omega)]
  unfold apJ
  split <;> omega
theorem ap_hit {G : GN} {Hh : Nat → Nat} {k i : Nat} (hi : i < G 0 3) (hno : ∀ j, j < i → apF G Hh k j = false) (h : apF G Hh k i = true) : apI G Hh k = nI i := by
  have hs := fsB_spec (apF G Hh k) (G 0 3) 0
  have e : apN G Hh k = i := by
    unfold apN
    rcases Nat.lt_trichotomy (fsB (apF G Hh k) (G 0 3) 0) i with g | g | g
    · have h1 := hno _ g
      rw [hs.2.2.2 (by omega)] at h1; exact absurd h1 (by decide)
    · exact g
    · have h1 := hs.2.2.1 i (by omega) g
      rw [h] at h1; exact absurd h1 (by decide)
  unfold apI; rw [e, if_pos hi]
theorem ap_none {G : GN} {Hh : Nat → Nat} {k : Nat} (hno : ∀ j, j < G 0 3 → apF G Hh k j = false) : apI G Hh k = 99 := by
  have hs := fsB_spec (apF G Hh k) (G 0 3) 0
  unfold apI
  rw [if_neg]
  intro q
  unfold apN at q
  have h1 := hno _ q
  rw [hs.2.2.2 (by omega)] at h1; exact absurd h1 (by decide)
/-- how many of the first j features come before f -/
def befJ (G : GN) (f j : Nat) : Nat := cntB (fun x => decide (apN G (G 2) x < apN G (G 2) f) || (decide (apN G (G 2) x = apN G (G 2) f) && decide (x < f))) j
theorem befJ_end (G : GN) (f : Nat) : befJ G f (G 0 2) = ahd G f := rfl
theorem befJ_hit {G : GN} {f j : Nat} (h : apN G (G 2) j < apN G (G 2) f ∨ (apN G (G 2) j = apN G (G 2) f ∧ j < f)) : befJ G f (j + 1) = befJ G f j + 1 := by
  show befJ G f j + (if _ then 1 else 0) = _
  rw [if_pos]
  simp only [Bool.or_eq_true, Bool.and_eq_true, decide_eq_true_eq]
  exact h
theorem befJ_miss {G : GN} {f j : Nat} (h : ¬ (apN G (G 2) j < apN G (G 2) f ∨ (apN G (G 2) j = apN G (G 2) f ∧ j < f))) : befJ G f (j + 1) = befJ G f j := by
  show befJ G f j + (if _ then 1 else 0) = _
  rw [if_neg]
  · rfl
  · simp only [Bool.or_eq_true, Bool.and_eq_true, decide_eq_true_eq]
    exact h
/-! the wishes -/
theorem wish_step {G : GN} {Hh : Nat → Nat} {p k c : Nat} (h9 : G 2 c ≤ 60) (hle : Hh c ≤ G 2 c) : (if loI G (G 2) p k c < 0 then nI (LK G Hh c) else (if nI (LK G Hh c) ≤ loI G (G 2) p k c then nI (LK G Hh c) else loI G (G 2) p k c)) = nI (LK G (lowN G Hh p k) c) := by
  have h1 := lo_pos (G := G) (Hh := G 2) (p := p) (k := k) h9
  by_cases g : blk G (G 2) p k c = true
  · have h2 := blk_lt g
    rw [if_neg (fun q => h1.1.mp q g)]
    unfold loI LK
    rw [if_pos g, if_pos h2.2, if_pos h2.2]
    unfold lowN
    by_cases u : wck G p k c < Hh c
    · rw [if_neg (nI_ge u (by omega)), if_pos]
      have g2 := g
      unfold blk blB at g2 ⊢
      rw [Bool.and_eq_true] at g2 ⊢
      refine ⟨g2.1, decide_eq_true ?_⟩
      unfold LK; rw [if_pos h2.2]; exact u
    · rw [if_pos (nI_le (by omega) (by omega)), if_neg (fun q => u (blk_lt q).1)]
  · rw [if_pos (h1.1.mpr g)]
    have g2 : ¬ blk G Hh p k c = true := by
      intro q
      apply g
      have h2 := blk_lt q
      unfold blk blB at q ⊢
      rw [Bool.and_eq_true, decide_eq_true_eq] at q ⊢
      refine ⟨q.1, ?_⟩
      have := q.2
      unfold LK at this ⊢
      rw [if_pos h2.2] at this ⊢
      omega
    unfold LK lowN
    rw [if_neg g2]
theorem sum_add (f g : Nat → Nat) : ∀ n, sumN (fun c => f c + g c) n = sumN f n + sumN g n
  | 0 => rfl
  | n + 1 => by unfold sumN; rw [sum_add f g n]; omega
theorem LK_le {G : GN} {H1 H2 : Nat → Nat} {c : Nat} (h : H1 c ≤ H2 c) : LK G H1 c ≤ LK G H2 c := by unfold LK; split <;> omega
/-- what all wishes cost: by the present heights -/
theorem wcs_sum (G : GN) : ∀ n, sumN (fun c => LK G (G 2) c - LK G (wpl G n) c) 192 = wcs G n
  | 0 => by
    have : ∀ n, sumN (fun c => LK G (G 2) c - LK G (wpl G 0) c) n = 0 := by
      intro n
      induction n with
      | zero => rfl
      | succ n ih => unfold sumN; rw [ih]; show 0 + (LK G (G 2) n - LK G (G 2) n) = 0; omega
    exact this 192
  | n + 1 => by
    have ih := wcs_sum G n
    by_cases g : plB G (G 6 n) = true
    · have e1 : wpl G (n + 1) = lowN G (wpl G n) (G 6 n) (G 7 n) := if_pos g
      have e2 : wcs G (n + 1) = wcs G n + costN G (wpl G n) (G 6 n) (G 7 n) := if_pos g
      rw [e1, e2, ← ih]
      unfold costN
      rw [← sum_add]
      refine sumN_congr _ (fun c _ => ?_)
      have a1 := LK_le (G := G) (wpl_le G c n)
      show LK G (G 2) c - LK G (lowN G (wpl G n) (G 6 n) (G 7 n)) c = LK G (G 2) c - LK G (wpl G n) c + _
      by_cases b : blk G (wpl G n) (G 6 n) (G 7 n) c = true
      · have h2 := blk_lt b
        rw [if_pos b]
        unfold LK at a1 ⊢
        unfold lowN
        rw [if_pos h2.2, if_pos h2.2] at a1
        rw [if_pos h2.2, if_pos h2.2, if_pos h2.2, if_pos b]
        omega
      · rw [if_neg b]
        have : LK G (lowN G (wpl G n) (G 6 n) (G 7 n)) c = LK G (wpl G n) c := by unfold LK lowN; rw [if_neg b]
        rw [this]; rfl
    · have e1 : wpl G (n + 1) = wpl G n := if_neg g
      have e2 : wcs G (n + 1) = wcs G n := if_neg g
      rw [e1, e2, ih]
/-! the best place -/
theorem bp_skip {G : GN} {d a : Nat} : ∀ b, a ≤ b → (∀ c, a ≤ c → c < b → ¬ bpI G d c = true) → bpL G d b = bpL G d a
  | 0, h, _ => by rw [show a = 0 by omega]
  | b + 1, h, hno => by
    rcases Nat.lt_or_ge b a with g | g
    · rw [show a = b + 1 by omega]
    · rw [bp_no (hno b g (by omega)), bp_skip b g (fun c h1 h2 => hno c h1 (by omega))]
theorem bp_row {G : GN} (hw : wf G) {d y : Nat} : bpL G d (16 * y + G 0 0) = bpL G d (16 * (y + 1)) := by
  have h := hw.1
  refine (bp_skip _ (by omega) (fun c h1 h2 q => ?_)).symm
  unfold bpI at q
  simp only [Bool.and_eq_true, decide_eq_true_eq] at q
  omega
theorem bp_all {G : GN} (hw : wf G) {d : Nat} : bpL G d (16 * G 0 1) = bpL G d 192 := by
  have h := hw.1
  refine (bp_skip _ (by omega) (fun c h1 h2 q => ?_)).symm
  unfold bpI at q
  simp only [Bool.and_eq_true, decide_eq_true_eq] at q
  omega
