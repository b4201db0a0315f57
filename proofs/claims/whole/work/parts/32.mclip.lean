/-! ===== the reference: clip, appearances, wishes ===== -/
theorem clip_2 {G : GN} {p k c : Nat} (h : blk G (G 2) p k c = true) : loI G (G 2) p k c = nI (lowN G (G 2) p k c) := by unfold loI lowN; rw [if_pos h, if_pos h]
theorem clip_1 {G : GN} {p k c : Nat} (h9 : G 2 c ≤ 60) (h : blk G (G 2) p k c = true) : (if loI G (G 2) p k c = 0 then (0 : Int32) else 2) = nI (T_clip G p k 1 c) := by
  have h2 := blk_lt h
  have hl := lowN_le (G := G) (Hh := G 2) (p := p) (k := k) (c := c)
  rw [clip_2 h, T_clip_1]
  by_cases g : lowN G (G 2) p k c = 0
  · rw [if_pos (show nI (lowN G (G 2) p k c) = 0 by rw [g]; rfl), if_pos ⟨h2.2, g⟩]; rfl
  · rw [if_neg (show ¬ nI (lowN G (G 2) p k c) = 0 from nI_ne0 (by omega) (by omega)), if_neg (fun q => g q.2), h2.2]; rfl
theorem clip_n {G : GN} (hw : wf G) {p k c : Nat} (hc : c < 192) (h : ¬ blk G (G 2) p k c = true) : lowN G (G 2) p k c = G 2 c ∧ T_clip G p k 1 c = G 1 c := by
  have e : lowN G (G 2) p k c = G 2 c := by unfold lowN; rw [if_neg h]
  refine ⟨e, ?_⟩
  rw [T_clip_1, e, if_neg]
  intro q
  have := (hw.c hc).2.2.1 q.1
  omega
theorem encM_clip {G : GN} {S S' : GS} (he : encM G S) {p k : Nat} (h1 : ∀ c, c < 192 → S' 2 c = nI (T_clip G p k 1 c)) (h2 : ∀ c, c < 192 → S' 3 c = nI (lowN G (G 2) p k c)) (hz : ∀ i, i ≠ 2 → i ≠ 3 → S' i = S i) : encM (T_clip G p k) S' := by
  unfold encM
  rw [T_clip_o (a := 0) (by decide) (by decide), T_clip_o (a := 3) (by decide) (by decide), T_clip_o (a := 4) (by decide) (by decide), T_clip_o (a := 5) (by decide) (by decide), T_clip_o (a := 6) (by decide) (by decide), T_clip_o (a := 7) (by decide) (by decide), hz 0 (by decide) (by decide), hz 5 (by decide) (by decide), hz 6 (by decide) (by decide), hz 7 (by decide) (by decide), hz 19 (by decide) (by decide), hz 20 (by decide) (by decide), hz 23 (by decide) (by decide), hz 24 (by decide) (by decide), hz 25 (by decide) (by decide)]
  exact ⟨he.1, h1, fun c hc => by rw [h2 c hc]; rfl, he.2.2.2.1, he.2.2.2.2.1, he.2.2.2.2.2⟩
theorem app_I {G : GN} (hw : wf G) {k : Nat} : (if apI G (G 2) k = 99 then (-7 : Int32) else apI G (G 2) k) = if apN G (G 2) k < G 0 3 then nI (apN G (G 2) k) else -7 := by
  by_cases g : apN G (G 2) k < G 0 3
  · rw [if_neg (fun q => (apI_99 hw).mp q g), if_pos g]; unfold apI; rw [if_pos g]
  · rw [if_pos ((apI_99 hw).mpr g), if_neg g]
theorem sur_stepM {G : GN} (hw : wf G) {q : Nat} (hq : q < G 0 3) (n : Nat) : setI (fun k => decide (apN G (G 2) k = q)) n ||| (if apI G (G 2) n = nI q then (1 : Int32) <<< (nI n &&& 31) else 0) = setI (fun k => decide (apN G (G 2) k = q)) (n + 1) := by
  show _ = setI _ n ||| (if decide (apN G (G 2) n = q) then (1 : Int32) <<< (nI n &&& 31) else 0)
  congr 1
  by_cases g : apN G (G 2) n = q
  · rw [if_pos ((apI_q hw hq).mpr g), decide_eq_true g]; rfl
  · rw [if_neg (fun z => g ((apI_q hw hq).mp z)), decide_eq_false g]; rfl
def dW (G : GN) (c : Nat) : Nat := LK G (G 2) c - LK G (wpl G (G 0 4)) c
theorem dW_step (G : GN) (c : Nat) : nI (sumN (dW G) c) + (nI (LK G (G 2) c) - nI (LK G (wpl G (G 0 4)) c)) = nI (sumN (dW G) (c + 1)) := by
  rw [pk_sub (LK_le (wpl_le G c _)), nI_add]; rfl
theorem sp_stepM {G : GN} (hw : wf G) (k : Nat) : nI (cntB (spF G) k) + (if apI G (G 2) k ≤ apI G (wpl G (G 0 4)) k then 0 else 1) = nI (cntB (spF G) (k + 1)) := by
  show _ = nI (cntB (spF G) k + (if spF G k then 1 else 0))
  have h1 := apJ_le hw (G 2) k
  have h2 := apJ_le hw (wpl G (G 0 4)) k
  rw [apI_J, apI_J]
  unfold spF
  by_cases g : apN G (wpl G (G 0 4)) k < apN G (G 2) k
  · rw [if_neg (nI_ge ((apJ_lt hw).mpr g) (by omega)), decide_eq_true g]; exact nI_1 _
  · rw [if_pos (nI_le (Nat.le_of_not_lt (fun q => g ((apJ_lt hw).mp q))) (by omega)), decide_eq_false g]; exact nI_add _ 0
set_option maxHeartbeats 4000000 in
set_option maxRecDepth 100000 in
theorem kX2_clip {l : Launch} {D : va_G} {cy : ClassId} {hs : Nat → Nat} {X : va_W} (G : GN) (S : GS) (hw : wf G) (he : encM G S) (x y f : Int32) : Ct l D cy (wM cy hs X) yX2_clip cX2_clip 8 (some .int) 5 115 (S) [.ref (hs 0), .int x, .int y, .int f] (QI D (wM cy hs X) (fun r S' => r = F_clip G x y f ∧ encM (Tf_clip G x y f) S')) := by
  refine Ct.of wM_adr (plainFor_of_name (by decide)) (Nat.le_of_ble_eq_true rfl) ?_
  intro p e s m below meth c ls C hl hG
  obtain ⟨hx, hb, hml, hown, hts, hr, hlk⟩ := C
  have hl : lv_has ls 8 [(0, .ref (hs 0)), (1, .int x), (2, .int y), (3, .int f)] := hl
  refine lv_aload_n hx hb dX2_clip_0 rfl (lv_at hl 0 rfl) ?_
  refine lv_iload_n hx hb dX2_clip_1 rfl (lv_at hl 1 rfl) ?_
  refine lv_iload_n hx hb dX2_clip_2 rfl (lv_at hl 2 rfl) ?_
  refine lv_iload_n hx hb dX2_clip_3 rfl (lv_at hl 3 rfl) ?_
  refine g_calli wM_adr hG (g_runV (As := [.int x, .int y, .int f]) (rest := []) ⟨hx, hb, hml, hown, hts⟩ wM_adr (kX2_begins G S hw he x y f) wyX2_begins q517 hG 0 rfl rfl ⟨by decide, by decide⟩ rfl rfl hl.1 (Nat.le_of_ble_eq_true rfl) ⟨Nat.le_refl 0, Nat.le_refl 0⟩ dX2_clip_4) (fun r2 S1 H locs hp hG => ?_)
  obtain ⟨rfl, hno, hyes⟩ := hp
  refine lv_istore (lv' := [(4, .int (vErr G x y f)), (0, .ref (hs 0)), (1, .int x), (2, .int y), (3, .int f)]) hx hb dX2_clip_7 hl (by decide) rfl (fun ls hl => ?_)
  refine lv_iload hx hb dX2_clip_9 (lv_at hl 0 rfl) ?_
  refine lv_if_ge (tgt := 17) hx hb dX2_clip_11 (by decide) (fun c_g => ?_) (fun c_g => ?_)
  · have c_e := vErr_ge.mp c_g
    obtain ⟨h1, h2, h3⟩ := vErr_0 c_e
    have hc := has_c hw h1
    have hk := (ft_k h2).2
    obtain ⟨S1, x7, x8, hf1, hL1, rfl⟩ := hyes c_e
    have he1 := he.fb (Or.inl rfl) hf1
    refine lv_aload_n hx hb dX2_clip_17 rfl (lv_at hl 1 rfl) ?_
    refine g_calli wM_adr hG (g_runV (As := []) (rest := []) ⟨hx, hb, hml, hown, hts⟩ wM_adr (kX2_costNow G S1 hw he1 (G 2) hL1 (hG2 hw) (cN x y) (nN f) hc hk x7 x8) wyX2_costNow q583 hG 0 rfl rfl ⟨by decide, by decide⟩ rfl rfl hl.1 (Nat.le_of_ble_eq_true rfl) ⟨Nat.le_refl 0, Nat.le_refl 0⟩ dX2_clip_18) (fun r4 S3 H locs hp hG => ?_)
    obtain ⟨rfl, v5, v6, rfl⟩ := hp
    refine lv_istore (lv' := [(5, .int (nI (costN G (G 2) (cN x y) (nN f)))), (4, .int (vErr G x y f)), (0, .ref (hs 0)), (1, .int x), (2, .int y), (3, .int f)]) hx hb dX2_clip_21 hl (by decide) rfl (fun ls hl => ?_)
    refine lv_iconst (v := 0) hx hb dX2_clip_23 (by decide) ?_
    refine lv_istore (lv' := [(6, .int 0), (5, .int (nI (costN G (G 2) (cN x y) (nN f)))), (4, .int (vErr G x y f)), (0, .ref (hs 0)), (1, .int x), (2, .int y), (3, .int f)]) hx hb dX2_clip_24 hl (by decide) rfl (fun ls hl => ?_)
    refine g_rec (τ := Nat) (fun j S9 => j ≤ 192 ∧ ∃ S8 x7 x8, S9 = sm S8 (lkG G (cN x y) (nN f) x7 x8) ∧ (∀ c, c < 192 → S8 2 c = nI (if c < j then T_clip G (cN x y) (nN f) 1 c else G 1 c)) ∧ (∀ c, c < 192 → S8 3 c = nI (if c < j then lowN G (G 2) (cN x y) (nN f) c else G 2 c)) ∧ ∀ i, i ≠ 2 → i ≠ 3 → S8 i = S1 i) (fun j => 200 - j) (fun j => [(0, .ref (hs 0)), (5, .int (nI (costN G (G 2) (cN x y) (nN f)))), (6, .int (nI j))]) 26 8 ?_ 0 _ _ _ _ (⟨by decide, _, _, _, rfl, fun c hc => by rw [if_neg (by omega)]; exact he1.2.1 c hc, fun c hc => by rw [if_neg (by omega)]; exact he1.2.2.1 c hc, fun _ _ _ => rfl⟩) hG (lv_sub hl [3, 1, 0] (rfl))
    intro x9 S9 H locs ls hI hG hl ih
    obtain ⟨hj, S8, x7, x8, rfl, hA2, hA3, hz⟩ := hI
    have hL8 : LkM G (G 2) S8 := fun c hc => by rw [hz 17 (by decide) (by decide)]; exact hL1 c hc
    refine lv_iload hx hb dX2_clip_26 (lv_at hl 2 rfl) ?_
    refine lv_sipush (v := 192) hx hb dX2_clip_28 (by decide) ?_
    refine lv_icmp_ge (tgt := 79) hx hb dX2_clip_31 (by decide) (fun c31 => ?_) (fun c31 => ?_)
    · have hjl : 192 ≤ x9 := (nI_leI (a := 192) (by omega) (by omega)).mp c31
      refine lv_iload hx hb dX2_clip_79 (lv_at hl 1 rfl) ?_
      exact g_iret hx hb hr hlk hG ⟨by unfold F_clip F_clipCost; rw [if_pos c_e], by unfold Tf_clip; rw [if_pos c_e]; exact (encM_clip he1 (fun c hc => by rw [hA2 c hc, if_pos (by omega)]) (fun c hc => by rw [hA3 c hc, if_pos (by omega)]) hz).sm⟩ dX2_clip_81
    · have hjl : x9 < 192 := Nat.lt_of_not_le (fun q => c31 (nI_le (a := 192) q (by omega)))
      refine lv_aload_n hx hb dX2_clip_34 rfl (lv_at hl 0 rfl) ?_
      refine lv_iload hx hb dX2_clip_35 (lv_at hl 2 rfl) ?_
      refine g_calliE wM_adr hG (g_runV (As := [.int (nI x9)]) (rest := []) ⟨hx, hb, hml, hown, hts⟩ wM_adr (kX2_loweredTo S8 (lkG G (cN x y) (nN f) x7 x8) x9 hjl (lkG_6 hw hc hk)) wyX2_loweredTo q551 hG 0 rfl rfl ⟨by decide, by decide⟩ rfl rfl hl.1 (Nat.le_of_ble_eq_true rfl) ⟨Nat.le_refl 0, Nat.le_refl 0⟩ dX2_clip_37) (fun H locs hG => ?_)
      refine g_top (y := loI G (G 2) (cN x y) (nN f) x9) (low_I hw hL8 (hG2 hw) hc hk hjl) ?_
      obtain ⟨u7, u8, e7⟩ := low_gE S8 G (cN x y) (nN f) x7 x8 x9
      replace hG := hG.st (S' := sm S8 (lkG G (cN x y) (nN f) u7 u8)) (congrArg (sm S8) e7)
      refine lv_istore (lv' := [(7, .int (loI G (G 2) (cN x y) (nN f) x9)), (0, .ref (hs 0)), (5, .int (nI (costN G (G 2) (cN x y) (nN f)))), (6, .int (nI x9))]) hx hb dX2_clip_40 hl (by decide) rfl (fun ls hl => ?_)
      refine lv_iload hx hb dX2_clip_42 (lv_at hl 0 rfl) ?_
      refine lv_if_lt (tgt := 73) hx hb dX2_clip_44 (by decide) (fun c44 => ?_) (fun c44 => ?_)
      · have hbk : ¬ blk G (G 2) (cN x y) (nN f) x9 = true := (lo_pos (hG2 hw _ hjl)).1.mp c44
        refine lv_iinc (v := nI (x9 + 1)) (lv' := [(6, .int (nI (x9 + 1))), (7, .int (loI G (G 2) (cN x y) (nN f) x9)), (0, .ref (hs 0)), (5, .int (nI (costN G (G 2) (cN x y) (nN f))))]) hx hb dX2_clip_73 hl (k := 3) rfl (nI_1 x9) (by decide) rfl (fun ls hl => ?_)
        refine lv_goto (tgt := 26) hx hb dX2_clip_76 (by decide) ?_
        have hcn := clip_n hw hjl hbk
        refine ih (x9 + 1) _ _ _ _ (by omega) ⟨hjl, _, _, _, rfl, fun c hc => ?_, fun c hc => ?_, hz⟩ hG (lv_sub hl [2, 3, 0] rfl)
        · rw [hA2 c hc]
          by_cases g : c = x9
          · subst g; rw [if_neg (by omega), if_pos (by omega), hcn.2]
          · simp only [show (c < x9 + 1) = (c < x9) from propext (by omega)]
        · rw [hA3 c hc]
          by_cases g : c = x9
          · subst g; rw [if_neg (by omega), if_pos (by omega), hcn.1]
          · simp only [show (c < x9 + 1) = (c < x9) from propext (by omega)]
      · have hbk : blk G (G 2) (cN x y) (nN f) x9 = true := Classical.byContradiction (fun q => c44 ((lo_pos (hG2 hw _ hjl)).1.mpr q))
        refine lv_aload_n hx hb dX2_clip_47 rfl (lv_at hl 1 rfl) ?_
        refine g_get hx hb hts hown hG inX2 0 rfl rfl 3 (by decide) q395 (v := .ref (hs 3)) rfl dX2_clip_48 ?_
        refine lv_iload hx hb dX2_clip_51 (lv_at hl 3 rfl) ?_
        refine lv_iload hx hb dX2_clip_53 (lv_at hl 0 rfl) ?_
        refine g_astN (f := S8 3) hx hb hG 2 rfl (by decide) (x9) (rfl) (hjl) (sm (up2 S8 3 x9 (loI G (G 2) (cN x y) (nN f) x9)) (lkG G (cN x y) (nN f) u7 u8)) (rfl) dX2_clip_55 (fun H locs hG => ?_)
        refine lv_aload_n hx hb dX2_clip_56 rfl (lv_at hl 1 rfl) ?_
        refine g_get hx hb hts hown hG inX2 0 rfl rfl 2 (by decide) q394 (v := .ref (hs 2)) rfl dX2_clip_57 ?_
        refine lv_iload hx hb dX2_clip_60 (lv_at hl 3 rfl) ?_
        refine lv_iload hx hb dX2_clip_62 (lv_at hl 0 rfl) ?_
        refine g_dia (P := loI G (G 2) (cN x y) (nN f) x9 = 0) (J := 72) (A9 := 0) (B9 := 2) (ls9 := ls) (rest9 := [.int (nI x9), .ref (hs 2)]) (fun ka10 kb11 => ?_) ?_
        · refine lv_if_ne (tgt := 71) hx hb dX2_clip_64 (by decide) (fun c9 => ?_) (fun c9 => ?_)
          · refine lv_iconst (v := 2) hx hb dX2_clip_71 (by decide) ?_
            exact kb11 c9
          · refine lv_iconst (v := 0) hx hb dX2_clip_67 (by decide) ?_
            refine lv_goto (tgt := 72) hx hb dX2_clip_68 (by decide) ?_
            exact ka10 c9
        refine g_top (y := nI (T_clip G (cN x y) (nN f) 1 x9)) (clip_1 (hG2 hw _ hjl) hbk) ?_
        refine g_astN (f := (up2 S8 3 x9 (loI G (G 2) (cN x y) (nN f) x9)) 2) hx hb hG 1 rfl (by decide) (x9) (rfl) (hjl) (sm (up2 (up2 S8 3 x9 (loI G (G 2) (cN x y) (nN f) x9)) 2 x9 (nI (T_clip G (cN x y) (nN f) 1 x9))) (lkG G (cN x y) (nN f) u7 u8)) (rfl) dX2_clip_72 (fun H locs hG => ?_)
        refine lv_iinc (v := nI (x9 + 1)) (lv' := [(6, .int (nI (x9 + 1))), (7, .int (loI G (G 2) (cN x y) (nN f) x9)), (0, .ref (hs 0)), (5, .int (nI (costN G (G 2) (cN x y) (nN f))))]) hx hb dX2_clip_73 hl (k := 3) rfl (nI_1 x9) (by decide) rfl (fun ls hl => ?_)
        refine lv_goto (tgt := 26) hx hb dX2_clip_76 (by decide) ?_
        refine ih (x9 + 1) _ _ _ _ (by omega) ⟨hjl, _, _, _, rfl, fun c hc => ?_, fun c hc => ?_, fun i h2 h3 => by rw [up2_ne _ _ _ _ h2, up2_ne _ _ _ _ h3]; exact hz i h2 h3⟩ hG (lv_sub hl [2, 3, 0] rfl)
        · rw [up2_eq]; unfold upd
          by_cases g : c = x9
          · rw [if_pos g, if_pos (by omega), g]
          · rw [if_neg g, up2_ne _ _ _ _ (by decide), hA2 c hc]; simp only [show (c < x9 + 1) = (c < x9) from propext (by omega)]
        · rw [up2_ne _ _ _ _ (by decide), up2_eq]; unfold upd
          by_cases g : c = x9
          · rw [if_pos g, if_pos (by omega), g, clip_2 hbk]
          · rw [if_neg g, hA3 c hc]; simp only [show (c < x9 + 1) = (c < x9) from propext (by omega)]
  · have c_n : ¬ vErr G x y f = 0 := fun q => c_g (vErr_ge.mpr q)
    replace hG := hG.st (hno c_n)
    refine lv_iload hx hb dX2_clip_14 (lv_at hl 0 rfl) ?_
    exact g_iret hx hb hr hlk hG ⟨by unfold F_clip F_clipCost; rw [if_neg c_n], by unfold Tf_clip; rw [if_neg c_n]; exact he⟩ dX2_clip_16
set_option maxHeartbeats 4000000 in
set_option maxRecDepth 100000 in
theorem kX2_appearsAt {l : Launch} {D : va_G} {cy : ClassId} {hs : Nat → Nat} {X : va_W} (G : GN) (S : GS) (hw : wf G) (he : encM G S) (Hh : Nat → Nat) (hL : LkM G Hh S) (hH9 : ∀ c, c < 192 → Hh c ≤ 60) (k : Nat) (hk : k < G 0 2) : Ct l D cy (wM cy hs X) yX2_appearsAt cX2_appearsAt 3 (some .int) 6 137 (S) [.ref (hs 0), .int (nI k)] (QI D (wM cy hs X) (fun r S' => r = apI G Hh k ∧ frV S S')) := by
  refine Ct.of wM_adr (plainFor_of_name (by decide)) (Nat.le_of_ble_eq_true rfl) ?_
  intro p e s m below meth c ls C hl hG
  obtain ⟨hx, hb, hml, hown, hts, hr, hlk⟩ := C
  have hl : lv_has ls 3 [(0, .ref (hs 0)), (1, .int (nI k))] := hl
  refine lv_iconst (v := 0) hx hb dX2_appearsAt_0 (by decide) ?_
  refine lv_istore_n (lv' := [(2, .int 0), (0, .ref (hs 0)), (1, .int (nI k))]) hx hb dX2_appearsAt_1 rfl hl (by decide) rfl (fun ls hl => ?_)
  refine g_rec (τ := Nat) (fun j S9 => j ≤ G 0 3 ∧ frV S S9 ∧ ∀ i, i < j → apF G Hh k i = false) (fun j => 100 - j) (fun j => [(0, .ref (hs 0)), (1, .int (nI k)), (2, .int (nI j))]) 2 3 ?_ 0 _ _ _ _ (⟨Nat.zero_le _, frV.rf, fun i hi => absurd hi (by omega)⟩) hG (lv_sub hl [1, 2, 0] (rfl))
  intro x9 S9 H locs ls hI hG hl ih
  obtain ⟨hj, hfr, hno⟩ := hI
  have he9 := he.fv hfr
  have hL9 := hL.fv hfr
  have hnw := hw.1.2.2.2.2.2.1
  refine lv_iload_n hx hb dX2_appearsAt_2 rfl (lv_at hl 2 rfl) ?_
  refine lv_aload_n hx hb dX2_appearsAt_3 rfl (lv_at hl 0 rfl) ?_
  refine g_get hx hb hts hown hG inX2 0 rfl rfl 18 (by decide) q410 (v := .int (S9 0 18)) rfl dX2_appearsAt_4 ?_
  refine g_top (y := nI (G 0 3)) (he9.1.2.2.2.1) ?_
  refine lv_icmp_ge (tgt := 57) hx hb dX2_appearsAt_7 (by decide) (fun c7 => ?_) (fun c7 => ?_)
  · have hjl : G 0 3 ≤ x9 := (nI_leI (by omega) (by omega)).mp c7
    refine lv_bipush (v := 99) hx hb dX2_appearsAt_57 (by decide) ?_
    exact g_iret hx hb hr hlk hG ⟨(ap_none (fun j h => hno j (by omega))).symm, hfr⟩ dX2_appearsAt_59
  · have hjl : x9 < G 0 3 := Nat.lt_of_not_le (fun q => c7 (nI_le q (by omega)))
    refine lv_aload_n hx hb dX2_appearsAt_10 rfl (lv_at hl 0 rfl) ?_
    refine lv_aload_n hx hb dX2_appearsAt_11 rfl (lv_at hl 0 rfl) ?_
    refine g_get hx hb hts hown hG inX2 0 rfl rfl 19 (by decide) q411 (v := .ref (hs 19)) rfl dX2_appearsAt_12 ?_
    refine lv_iload_n hx hb dX2_appearsAt_15 rfl (lv_at hl 2 rfl) ?_
    refine g_aldN (f := S9 19) hx hb hG 7 rfl (by decide) (x9) (rfl) (by omega) dX2_appearsAt_16 ?_
    refine g_top (y := nI (G 5 x9 % 16)) ((he9.2.2.2.2.1 _ hjl).1) ?_
    refine lv_aload_n hx hb dX2_appearsAt_17 rfl (lv_at hl 0 rfl) ?_
    refine g_get hx hb hts hown hG inX2 0 rfl rfl 20 (by decide) q412 (v := .ref (hs 20)) rfl dX2_appearsAt_18 ?_
    refine lv_iload_n hx hb dX2_appearsAt_21 rfl (lv_at hl 2 rfl) ?_
    refine g_aldN (f := S9 20) hx hb hG 8 rfl (by decide) (x9) (rfl) (by omega) dX2_appearsAt_22 ?_
    refine g_top (y := nI (G 5 x9 / 16)) ((he9.2.2.2.2.1 _ hjl).2) ?_
    refine g_calliE wM_adr hG (g_runV (As := [.int (nI (G 5 x9 % 16)), .int (nI (G 5 x9 / 16))]) (rest := []) ⟨hx, hb, hml, hown, hts⟩ wM_adr (kX2_isPlace S9 (nI (G 5 x9 % 16)) (nI (G 5 x9 / 16)) (vp_c (hw.2.2.2.1 _ hjl))) wyX2_isPlace q529 hG 0 rfl rfl ⟨by decide, by decide⟩ rfl rfl hl.1 (Nat.le_of_ble_eq_true rfl) ⟨Nat.le_refl 0, Nat.le_refl 0⟩ dX2_appearsAt_23) (fun H locs hG => ?_)
    refine g_top (y := if plB G (G 5 x9) then 1 else 0) (placeM hw he9 (hw.2.2.2.1 _ hjl) (idx_c _)) ?_
    refine lv_if_eq (tgt := 51) hx hb dX2_appearsAt_26 (by decide) (fun c26 => ?_) (fun c26 => ?_)
    · refine lv_iinc (v := nI (x9 + 1)) (lv' := [(2, .int (nI (x9 + 1))), (0, .ref (hs 0)), (1, .int (nI k))]) hx hb dX2_appearsAt_51 hl (k := 2) rfl (nI_1 x9) (by decide) rfl (fun ls hl => ?_)
      refine lv_goto (tgt := 2) hx hb dX2_appearsAt_54 (by decide) ?_
      have hap : apF G Hh k x9 = false := by
        unfold apF; rw [show plB G (G 5 x9) = false from by simpa using ite10.mp c26, Bool.false_and]
      exact ih (x9 + 1) _ _ _ _ (by omega) ⟨hjl, hfr, fun i hi => by
        rcases Nat.lt_or_ge i x9 with g | g
        · exact hno i g
        · rw [show i = x9 by omega]; exact hap⟩ hG (lv_sub hl [1, 2, 0] rfl)
    · refine lv_aload_n hx hb dX2_appearsAt_29 rfl (lv_at hl 0 rfl) ?_
      refine lv_aload_n hx hb dX2_appearsAt_30 rfl (lv_at hl 0 rfl) ?_
      refine g_get hx hb hts hown hG inX2 0 rfl rfl 19 (by decide) q411 (v := .ref (hs 19)) rfl dX2_appearsAt_31 ?_
      refine lv_iload_n hx hb dX2_appearsAt_34 rfl (lv_at hl 2 rfl) ?_
      refine g_aldN (f := S9 19) hx hb hG 7 rfl (by decide) (x9) (rfl) (by omega) dX2_appearsAt_35 ?_
      refine g_top (y := nI (G 5 x9 % 16)) ((he9.2.2.2.2.1 _ hjl).1) ?_
      refine lv_aload_n hx hb dX2_appearsAt_36 rfl (lv_at hl 0 rfl) ?_
      refine g_get hx hb hts hown hG inX2 0 rfl rfl 20 (by decide) q412 (v := .ref (hs 20)) rfl dX2_appearsAt_37 ?_
      refine lv_iload_n hx hb dX2_appearsAt_40 rfl (lv_at hl 2 rfl) ?_
      refine g_aldN (f := S9 20) hx hb hG 8 rfl (by decide) (x9) (rfl) (by omega) dX2_appearsAt_41 ?_
      refine g_top (y := nI (G 5 x9 / 16)) ((he9.2.2.2.2.1 _ hjl).2) ?_
      refine lv_iload_n hx hb dX2_appearsAt_42 rfl (lv_at hl 1 rfl) ?_
      refine g_calli wM_adr hG (g_runV (As := [.int (nI (G 5 x9 % 16)), .int (nI (G 5 x9 / 16)), .int (nI k)]) (rest := []) ⟨hx, hb, hml, hown, hts⟩ wM_adr (kX2_isSeen G S9 hw he9 Hh hL9 hH9 (G 5 x9) k (hw.2.2.2.1 _ hjl) hk) wyX2_isSeen q571 hG 0 rfl rfl ⟨by decide, by decide⟩ rfl rfl hl.1 (Nat.le_of_ble_eq_true rfl) ⟨Nat.le_refl 0, Nat.le_refl 0⟩ dX2_appearsAt_43) (fun r2 S1 H locs hp hG => ?_)
      obtain ⟨rfl, v3, v4, hS⟩ := hp
      have hfv : frV S9 S1 := ⟨_, hS⟩
      refine lv_if_eq (tgt := 51) hx hb dX2_appearsAt_46 (by decide) (fun c46 => ?_) (fun c46 => ?_)
      · refine lv_iinc (v := nI (x9 + 1)) (lv' := [(2, .int (nI (x9 + 1))), (0, .ref (hs 0)), (1, .int (nI k))]) hx hb dX2_appearsAt_51 hl (k := 2) rfl (nI_1 x9) (by decide) rfl (fun ls hl => ?_)
        refine lv_goto (tgt := 2) hx hb dX2_appearsAt_54 (by decide) ?_
        have hap : apF G Hh k x9 = false := by
          unfold apF; rw [show visB G Hh (G 5 x9) k = false from by simpa using ite10.mp c46, Bool.and_false]
        exact ih (x9 + 1) _ _ _ _ (by omega) ⟨hjl, hfr.tr hfv, fun i hi => by
          rcases Nat.lt_or_ge i x9 with g | g
          · exact hno i g
          · rw [show i = x9 by omega]; exact hap⟩ hG (lv_sub hl [1, 2, 0] rfl)
      · refine lv_iload_n hx hb dX2_appearsAt_49 rfl (lv_at hl 2 rfl) ?_
        have hap : apF G Hh k x9 = true := by
          unfold apF; rw [show plB G (G 5 x9) = true from Classical.byContradiction (fun q => c26 (ite10.mpr q)), show visB G Hh (G 5 x9) k = true from Classical.byContradiction (fun q => c46 (ite10.mpr q))]; rfl
        exact g_iret hx hb hr hlk hG ⟨(ap_hit hjl hno hap).symm, hfr.tr hfv⟩ dX2_appearsAt_50
set_option maxHeartbeats 4000000 in
set_option maxRecDepth 100000 in
theorem kX2_appears {l : Launch} {D : va_G} {cy : ClassId} {hs : Nat → Nat} {X : va_W} (G : GN) (S : GS) (hw : wf G) (he : encM G S) (f : Int32) : Ct l D cy (wM cy hs X) yX2_appears cX2_appears 3 (some .int) 7 159 (S) [.ref (hs 0), .int f] (QI D (wM cy hs X) (fun r S' => r = F_appears G f ∧ encM G S')) := by
  refine Ct.of wM_adr (plainFor_of_name (by decide)) (Nat.le_of_ble_eq_true rfl) ?_
  intro p e s m below meth c ls C hl hG
  obtain ⟨hx, hb, hml, hown, hts, hr, hlk⟩ := C
  have hl : lv_has ls 3 [(0, .ref (hs 0)), (1, .int f)] := hl
  refine lv_aload_n hx hb dX2_appears_0 rfl (lv_at hl 0 rfl) ?_
  refine lv_iload_n hx hb dX2_appears_1 rfl (lv_at hl 1 rfl) ?_
  refine g_calliE wM_adr hG (g_runV (As := [.int f]) (rest := []) ⟨hx, hb, hml, hown, hts⟩ wM_adr (kX2_noFeature S f) wyX2_noFeature q525 hG 0 rfl rfl ⟨by decide, by decide⟩ rfl rfl hl.1 (Nat.le_of_ble_eq_true rfl) ⟨Nat.le_refl 0, Nat.le_refl 0⟩ dX2_appears_2) (fun H locs hG => ?_)
  refine g_top (y := if ftB G f then 0 else 1) (noF hw he f) ?_
  refine lv_if_eq (tgt := 11) hx hb dX2_appears_5 (by decide) (fun c5 => ?_) (fun c5 => ?_)
  · have h2 : ftB G f = true := no01.mp c5
    have hfe := (ft_k h2).1
    have hk := (ft_k h2).2
    have hl : lv_has ls 3 [(0, .ref (hs 0)), (1, .int (nI (nN f)))] := by rw [← hfe]; exact hl
    refine lv_aload_n hx hb dX2_appears_11 rfl (lv_at hl 0 rfl) ?_
    refine g_callv wM_adr hG (g_runV (As := []) (rest := []) ⟨hx, hb, hml, hown, hts⟩ wM_adr (kX2_takeHeights G S hw he) wyX2_takeHeights q533 hG 0 rfl rfl ⟨by decide, by decide⟩ rfl rfl hl.1 (Nat.le_of_ble_eq_true rfl) ⟨Nat.le_refl 0, Nat.le_refl 0⟩ dX2_appears_12) (fun S1 H locs hp hG => ?_)
    obtain ⟨hLt, hft⟩ := hp
    have het := he.fb (Or.inl rfl) hft
    refine lv_aload_n hx hb dX2_appears_15 rfl (lv_at hl 0 rfl) ?_
    refine lv_iload_n hx hb dX2_appears_16 rfl (lv_at hl 1 rfl) ?_
    refine g_calli wM_adr hG (g_runV (As := [.int (nI (nN f))]) (rest := []) ⟨hx, hb, hml, hown, hts⟩ wM_adr (kX2_appearsAt G S1 hw het (G 2) hLt (hG2 hw) (nN f) hk) wyX2_appearsAt q607 hG 0 rfl rfl ⟨by decide, by decide⟩ rfl rfl hl.1 (Nat.le_of_ble_eq_true rfl) ⟨Nat.le_refl 0, Nat.le_refl 0⟩ dX2_appears_17) (fun r3 S2 H locs hp hG => ?_)
    obtain ⟨rfl, hfv⟩ := hp
    refine lv_istore_n (lv' := [(2, .int (apI G (G 2) (nN f))), (0, .ref (hs 0)), (1, .int (nI (nN f)))]) hx hb dX2_appears_20 rfl hl (by decide) rfl (fun ls hl => ?_)
    refine lv_iload_n hx hb dX2_appears_21 rfl (lv_at hl 0 rfl) ?_
    refine lv_bipush (v := 99) hx hb dX2_appears_22 (by decide) ?_
    refine g_dia (P := apI G (G 2) (nN f) = 99) (J := 33) (A9 := (-7)) (B9 := apI G (G 2) (nN f)) (ls9 := ls) (rest9 := []) (fun ka5 kb6 => ?_) ?_
    · refine lv_icmp_ne (tgt := 32) hx hb dX2_appears_24 (by decide) (fun c4 => ?_) (fun c4 => ?_)
      · refine lv_iload_n hx hb dX2_appears_32 rfl (lv_at hl 0 rfl) ?_
        exact kb6 c4
      · refine lv_bipush (v := (-7)) hx hb dX2_appears_27 (by decide) ?_
        refine lv_goto (tgt := 33) hx hb dX2_appears_29 (by decide) ?_
        exact ka5 c4
    exact g_iret hx hb hr hlk hG ⟨by unfold F_appears; rw [if_pos h2]; exact app_I hw, het.fv hfv⟩ dX2_appears_33
  · have h2 : ¬ ftB G f = true := fun q => c5 (no01.mpr q)
    refine lv_bipush (v := (-2)) hx hb dX2_appears_8 (by decide) ?_
    exact g_iret hx hb hr hlk hG ⟨by unfold F_appears; rw [if_neg h2], he⟩ dX2_appears_10
set_option maxHeartbeats 4000000 in
set_option maxRecDepth 100000 in
theorem kX2_surprises {l : Launch} {D : va_G} {cy : ClassId} {hs : Nat → Nat} {X : va_W} (G : GN) (S : GS) (hw : wf G) (he : encM G S) (q9 : Int32) : Ct l D cy (wM cy hs X) yX2_surprises cX2_surprises 4 (some .int) 7 159 (S) [.ref (hs 0), .int q9] (QI D (wM cy hs X) (fun r S' => r = F_surprises G q9 ∧ encM G S')) := by
  refine Ct.of wM_adr (plainFor_of_name (by decide)) (Nat.le_of_ble_eq_true rfl) ?_
  intro p e s m below meth c ls C hl hG
  obtain ⟨hx, hb, hml, hown, hts, hr, hlk⟩ := C
  have hl : lv_has ls 4 [(0, .ref (hs 0)), (1, .int q9)] := hl
  refine lv_iload_n hx hb dX2_surprises_0 rfl (lv_at hl 1 rfl) ?_
  refine lv_iconst (v := 0) hx hb dX2_surprises_1 (by decide) ?_
  refine lv_aload_n hx hb dX2_surprises_2 rfl (lv_at hl 0 rfl) ?_
  refine g_get hx hb hts hown hG inX2 0 rfl rfl 18 (by decide) q410 (v := .int (S 0 18)) rfl dX2_surprises_3 ?_
  refine g_top (y := nI (G 0 3)) (he.1.2.2.2.1) ?_
  refine lv_iconst (v := 1) hx hb dX2_surprises_6 (by decide) ?_
  refine lv_isub hx hb dX2_surprises_7 ?_
  refine g_stat (As := [.int q9, .int 0, .int ((nI (G 0 3)) - 1)]) (rest := []) ⟨hx, hb, hml, hown, hts⟩ (kX2_in q9 0 ((nI (G 0 3)) - 1)) wyX2_in q478 hG ⟨by decide, by decide⟩ rfl rfl hl.1 (Nat.le_of_ble_eq_true rfl) ⟨Nat.le_refl 0, Nat.le_refl 0⟩ dX2_surprises_8 (fun H locs hG => ?_)
  refine g_top (y := if spB G q9 then 1 else 0) (in_m1 (by have := hw.1.2.2.2.2.2.1; omega)) ?_
  refine lv_if_ne (tgt := 17) hx hb dX2_surprises_11 (by decide) (fun c11 => ?_) (fun c11 => ?_)
  · have hsp : spB G q9 = true := Classical.byContradiction (fun q => c11 (ite10.mpr q))
    have hqn : 0 ≤ q9.toInt ∧ q9.toInt < (G 0 3 : Int) := by unfold spB at hsp; simpa using hsp
    have hqe : q9 = nI (nN q9) := nN_eq hqn.1
    have hq : nN q9 < G 0 3 := by unfold nN; omega
    have hl : lv_has ls 4 [(0, .ref (hs 0)), (1, .int (nI (nN q9)))] := by rw [← hqe]; exact hl
    refine lv_aload_n hx hb dX2_surprises_17 rfl (lv_at hl 0 rfl) ?_
    refine g_callv wM_adr hG (g_runV (As := []) (rest := []) ⟨hx, hb, hml, hown, hts⟩ wM_adr (kX2_takeHeights G S hw he) wyX2_takeHeights q533 hG 0 rfl rfl ⟨by decide, by decide⟩ rfl rfl hl.1 (Nat.le_of_ble_eq_true rfl) ⟨Nat.le_refl 0, Nat.le_refl 0⟩ dX2_surprises_18) (fun S1 H locs hp hG => ?_)
    obtain ⟨hLt, hft⟩ := hp
    have het := he.fb (Or.inl rfl) hft
    refine lv_iconst (v := 0) hx hb dX2_surprises_21 (by decide) ?_
    refine lv_istore_n (lv' := [(2, .int 0), (0, .ref (hs 0)), (1, .int (nI (nN q9)))]) hx hb dX2_surprises_22 rfl hl (by decide) rfl (fun ls hl => ?_)
    refine lv_iconst (v := 0) hx hb dX2_surprises_23 (by decide) ?_
    refine lv_istore_n (lv' := [(3, .int 0), (2, .int 0), (0, .ref (hs 0)), (1, .int (nI (nN q9)))]) hx hb dX2_surprises_24 rfl hl (by decide) rfl (fun ls hl => ?_)
    refine g_rec (τ := Nat) (fun j S9 => j ≤ G 0 2 ∧ frV S1 S9) (fun j => 100 - j) (fun j => [(0, .ref (hs 0)), (1, .int (nI (nN q9))), (2, .int (setI (fun k => decide (apN G (G 2) k = nN q9)) j)), (3, .int (nI j))]) 25 4 ?_ 0 _ _ _ _ (⟨Nat.zero_le _, frV.rf⟩) hG (lv_sub hl [2, 3, 1, 0] (rfl))
    intro x9 S9 H locs ls hI hG hl ih
    obtain ⟨hj, hfr⟩ := hI
    have he9 := het.fv hfr
    have hL9 := hLt.fv hfr
    have hnf := hw.1.2.2.2.2.1
    refine lv_iload_n hx hb dX2_surprises_25 rfl (lv_at hl 3 rfl) ?_
    refine lv_aload_n hx hb dX2_surprises_26 rfl (lv_at hl 0 rfl) ?_
    refine g_get hx hb hts hown hG inX2 0 rfl rfl 4 (by decide) q396 (v := .int (S9 0 4)) rfl dX2_surprises_27 ?_
    refine g_top (y := nI (G 0 2)) (he9.1.2.2.1) ?_
    refine lv_icmp_ge (tgt := 58) hx hb dX2_surprises_30 (by decide) (fun c30 => ?_) (fun c30 => ?_)
    · have hjl : G 0 2 ≤ x9 := (nI_leI (by omega) (by omega)).mp c30
      refine lv_iload_n hx hb dX2_surprises_58 rfl (lv_at hl 2 rfl) ?_
      exact g_iret hx hb hr hlk hG ⟨by unfold F_surprises surI; rw [if_pos hsp, show x9 = G 0 2 by omega], he9⟩ dX2_surprises_59
    · have hjl : x9 < G 0 2 := Nat.lt_of_not_le (fun q => c30 (nI_le q (by omega)))
      refine lv_iload_n hx hb dX2_surprises_33 rfl (lv_at hl 2 rfl) ?_
      refine lv_aload_n hx hb dX2_surprises_34 rfl (lv_at hl 0 rfl) ?_
      refine lv_iload_n hx hb dX2_surprises_35 rfl (lv_at hl 3 rfl) ?_
      refine g_calli wM_adr hG (g_runV (As := [.int (nI x9)]) (rest := [.int (setI (fun k => decide (apN G (G 2) k = nN q9)) x9)]) ⟨hx, hb, hml, hown, hts⟩ wM_adr (kX2_appearsAt G S9 hw he9 (G 2) hL9 (hG2 hw) x9 hjl) wyX2_appearsAt q607 hG 0 rfl rfl ⟨by decide, by decide⟩ rfl rfl hl.1 (Nat.le_of_ble_eq_true rfl) ⟨Nat.le_refl 0, Nat.le_refl 0⟩ dX2_surprises_36) (fun r3 S2 H locs hp hG => ?_)
      obtain ⟨rfl, hfv⟩ := hp
      refine lv_iload_n hx hb dX2_surprises_39 rfl (lv_at hl 1 rfl) ?_
      refine g_dia (P := apI G (G 2) x9 = nI (nN q9)) (J := 50) (A9 := 1 <<< ((nI x9) &&& 31)) (B9 := 0) (ls9 := ls) (rest9 := [.int (setI (fun k => decide (apN G (G 2) k = nN q9)) x9)]) (fun ka5 kb6 => ?_) ?_
      · refine lv_icmp_ne (tgt := 49) hx hb dX2_surprises_40 (by decide) (fun c4 => ?_) (fun c4 => ?_)
        · refine lv_iconst (v := 0) hx hb dX2_surprises_49 (by decide) ?_
          exact kb6 c4
        · refine lv_iconst (v := 1) hx hb dX2_surprises_43 (by decide) ?_
          refine lv_iload_n hx hb dX2_surprises_44 rfl (lv_at hl 3 rfl) ?_
          refine lv_ishl hx hb dX2_surprises_45 ?_
          refine lv_goto (tgt := 50) hx hb dX2_surprises_46 (by decide) ?_
          exact ka5 c4
      refine lv_ior hx hb dX2_surprises_50 ?_
      refine g_top (y := setI (fun k => decide (apN G (G 2) k = nN q9)) (x9 + 1)) (sur_stepM hw hq x9) ?_
      refine lv_istore_n (lv' := [(2, .int (setI (fun k => decide (apN G (G 2) k = nN q9)) (x9 + 1))), (0, .ref (hs 0)), (1, .int (nI (nN q9))), (3, .int (nI x9))]) hx hb dX2_surprises_51 rfl hl (by decide) rfl (fun ls hl => ?_)
      refine lv_iinc (v := nI (x9 + 1)) (lv' := [(3, .int (nI (x9 + 1))), (2, .int (setI (fun k => decide (apN G (G 2) k = nN q9)) (x9 + 1))), (0, .ref (hs 0)), (1, .int (nI (nN q9)))]) hx hb dX2_surprises_52 hl (k := 3) rfl (nI_1 x9) (by decide) rfl (fun ls hl => ?_)
      refine lv_goto (tgt := 25) hx hb dX2_surprises_55 (by decide) ?_
      exact ih (x9 + 1) _ _ _ _ (by omega) ⟨hjl, hfr.tr hfv⟩ hG (lv_sub hl [2, 3, 1, 0] rfl)
  · refine lv_bipush (v := (-4)) hx hb dX2_surprises_14 (by decide) ?_
    exact g_iret hx hb hr hlk hG ⟨by unfold F_surprises; rw [if_neg (ite10.mp c11)], he⟩ dX2_surprises_16
set_option maxHeartbeats 4000000 in
set_option maxRecDepth 100000 in
theorem kX2_shown {l : Launch} {D : va_G} {cy : ClassId} {hs : Nat → Nat} {X : va_W} (G : GN) (S : GS) (hw : wf G) (he : encM G S) (k9 : Int32) : Ct l D cy (wM cy hs X) yX2_shown cX2_shown 5 (some .int) 7 159 (S) [.ref (hs 0), .int k9] (QI D (wM cy hs X) (fun r S' => r = F_shown G k9 ∧ encM G S')) := by
  refine Ct.of wM_adr (plainFor_of_name (by decide)) (Nat.le_of_ble_eq_true rfl) ?_
  intro p e s m below meth c ls C hl hG
  obtain ⟨hx, hb, hml, hown, hts, hr, hlk⟩ := C
  have hl : lv_has ls 5 [(0, .ref (hs 0)), (1, .int k9)] := hl
  refine lv_iload_n hx hb dX2_shown_0 rfl (lv_at hl 1 rfl) ?_
  refine lv_if_ge (tgt := 7) hx hb dX2_shown_1 (by decide) (fun c1 => ?_) (fun c1 => ?_)
  · refine lv_aload_n hx hb dX2_shown_7 rfl (lv_at hl 0 rfl) ?_
    refine g_callv wM_adr hG (g_runV (As := []) (rest := []) ⟨hx, hb, hml, hown, hts⟩ wM_adr (kX2_takeHeights G S hw he) wyX2_takeHeights q533 hG 0 rfl rfl ⟨by decide, by decide⟩ rfl rfl hl.1 (Nat.le_of_ble_eq_true rfl) ⟨Nat.le_refl 0, Nat.le_refl 0⟩ dX2_shown_8) (fun S1 H locs hp hG => ?_)
    obtain ⟨hLt, hft⟩ := hp
    have het := he.fb (Or.inl rfl) hft
    refine lv_iconst (v := 0) hx hb dX2_shown_11 (by decide) ?_
    refine lv_istore_n (lv' := [(2, .int 0), (0, .ref (hs 0)), (1, .int k9)]) hx hb dX2_shown_12 rfl hl (by decide) rfl (fun ls hl => ?_)
    have hke : k9 = nI (nN k9) := nN_eq (by rw [Int32.le_iff_toInt_le, Int32.toInt_zero] at c1; exact c1)
    refine g_rec (τ := Nat) (fun j S9 => j ≤ G 0 2 ∧ (∀ i, i < j → S9 21 i = apI G (G 2) i) ∧ encM G S9 ∧ LkM G (G 2) S9) (fun j => 100 - j) (fun j => [(0, .ref (hs 0)), (1, .int k9), (2, .int (nI j))]) 13 5 ?_ 0 _ _ _ _ (⟨Nat.zero_le _, fun i hi => absurd hi (by omega), het, hLt⟩) hG (lv_sub hl [1, 2, 0] (rfl))
    intro x9 S9 H locs ls hI hG hl ih
    obtain ⟨hj, hP, he9, hL9⟩ := hI
    have hnf := hw.1.2.2.2.2.1
    refine lv_iload_n hx hb dX2_shown_13 rfl (lv_at hl 2 rfl) ?_
    refine lv_aload_n hx hb dX2_shown_14 rfl (lv_at hl 0 rfl) ?_
    refine g_get hx hb hts hown hG inX2 0 rfl rfl 4 (by decide) q396 (v := .int (S9 0 4)) rfl dX2_shown_15 ?_
    refine g_top (y := nI (G 0 2)) (he9.1.2.2.1) ?_
    refine lv_icmp_ge (tgt := 38) hx hb dX2_shown_18 (by decide) (fun c18 => ?_) (fun c18 => ?_)
    · have hjl : G 0 2 ≤ x9 := (nI_leI (by omega) (by omega)).mp c18
      refine lv_iconst (v := 0) hx hb dX2_shown_38 (by decide) ?_
      refine lv_istore_n (lv' := [(2, .int 0), (0, .ref (hs 0)), (1, .int k9)]) hx hb dX2_shown_39 rfl hl (by decide) rfl (fun ls hl => ?_)
      have hP' : ∀ i, i < G 0 2 → S9 21 i = nI (apJ G (G 2) i) := fun i hi => (hP i (by omega)).trans (apI_J _ _ _)
      refine g_rec (τ := Nat) (fun j S8 => j ≤ G 0 2 ∧ S8 = S9 ∧ ∀ f, f < j → apN G (G 2) f < G 0 3 → ahd G f ≠ nN k9) (fun j => 100 - j) (fun j => [(0, .ref (hs 0)), (1, .int k9), (2, .int (nI j))]) 40 5 ?_ 0 _ _ _ _ (⟨Nat.zero_le _, rfl, fun f h => absurd h (by omega)⟩) hG (lv_sub hl [1, 2, 0] (rfl))
      intro i9 S8 H locs ls hI hG hl ih1
      obtain ⟨hi, hS8, hno⟩ := hI
      replace hG := hG.st hS8
      refine lv_iload_n hx hb dX2_shown_40 rfl (lv_at hl 2 rfl) ?_
      refine lv_aload_n hx hb dX2_shown_41 rfl (lv_at hl 0 rfl) ?_
      refine g_get hx hb hts hown hG inX2 0 rfl rfl 4 (by decide) q396 (v := .int (S9 0 4)) rfl dX2_shown_42 ?_
      refine g_top (y := nI (G 0 2)) (he9.1.2.2.1) ?_
      refine lv_icmp_ge (tgt := 138) hx hb dX2_shown_45 (by decide) (fun c45 => ?_) (fun c45 => ?_)
      · have hil : G 0 2 ≤ i9 := (nI_leI (by omega) (by omega)).mp c45
        refine lv_bipush (v := (-7)) hx hb dX2_shown_138 (by decide) ?_
        exact g_iret hx hb hr hlk hG ⟨by unfold F_shown; rw [if_neg (by rw [Int32.le_iff_toInt_le, Int32.toInt_zero] at c1; rw [Int32.lt_iff_toInt_lt, Int32.toInt_zero]; omega), if_neg (sh_none (fun f h1 h2 => hno f (by omega) h2))], he9⟩ dX2_shown_140
      · have hil : i9 < G 0 2 := Nat.lt_of_not_le (fun q => c45 (nI_le q (by omega)))
        refine lv_iconst (v := 0) hx hb dX2_shown_48 (by decide) ?_
        refine lv_istore_n (lv' := [(3, .int 0), (0, .ref (hs 0)), (1, .int k9), (2, .int (nI i9))]) hx hb dX2_shown_49 rfl hl (by decide) rfl (fun ls hl => ?_)
        refine lv_iconst (v := 0) hx hb dX2_shown_50 (by decide) ?_
        refine lv_istore (lv' := [(4, .int 0), (3, .int 0), (0, .ref (hs 0)), (1, .int k9), (2, .int (nI i9))]) hx hb dX2_shown_51 hl (by decide) rfl (fun ls hl => ?_)
        refine g_rec (τ := Nat) (fun j S7 => j ≤ G 0 2 ∧ S7 = S9) (fun j => 100 - j) (fun j => [(0, .ref (hs 0)), (1, .int k9), (2, .int (nI i9)), (3, .int (nI (befJ G i9 j))), (4, .int (nI j))]) 53 5 ?_ 0 _ _ _ _ (⟨Nat.zero_le _, rfl⟩) hG (lv_sub hl [2, 3, 4, 1, 0] (rfl))
        intro j9 S7 H locs ls hI hG hl ih2
        obtain ⟨hj9, hS7⟩ := hI
        replace hG := hG.st hS7
        have hbl : befJ G i9 j9 ≤ j9 := cntB_le _ _
        have hJi := apJ_le hw (G 2) i9
        have hJj := apJ_le hw (G 2) j9
        refine lv_iload hx hb dX2_shown_53 (lv_at hl 4 rfl) ?_
        refine lv_aload_n hx hb dX2_shown_55 rfl (lv_at hl 0 rfl) ?_
        refine g_get hx hb hts hown hG inX2 0 rfl rfl 4 (by decide) q396 (v := .int (S9 0 4)) rfl dX2_shown_56 ?_
        refine g_top (y := nI (G 0 2)) (he9.1.2.2.1) ?_
        refine lv_icmp_ge (tgt := 114) hx hb dX2_shown_59 (by decide) (fun c59 => ?_) (fun c59 => ?_)
        · have hjj : G 0 2 ≤ j9 := (nI_leI (by omega) (by omega)).mp c59
          refine lv_aload_n hx hb dX2_shown_114 rfl (lv_at hl 0 rfl) ?_
          refine g_get hx hb hts hown hG inX2 0 rfl rfl 21 (by decide) q413 (v := .ref (hs 21)) rfl dX2_shown_115 ?_
          refine lv_iload_n hx hb dX2_shown_118 rfl (lv_at hl 2 rfl) ?_
          refine g_aldN (f := S9 21) hx hb hG 9 rfl (by decide) (i9) (rfl) (by omega) dX2_shown_119 ?_
          refine g_top (y := nI (apJ G (G 2) i9)) (hP' _ hil) ?_
          refine lv_bipush (v := 99) hx hb dX2_shown_120 (by decide) ?_
          refine lv_icmp_eq (tgt := 132) hx hb dX2_shown_122 (by decide) (fun c122 => ?_) (fun c122 => ?_)
          · refine lv_iinc (v := nI (i9 + 1)) (lv' := [(2, .int (nI (i9 + 1))), (0, .ref (hs 0)), (1, .int k9), (3, .int (nI (befJ G i9 j9))), (4, .int (nI j9))]) hx hb dX2_shown_132 hl (k := 2) rfl (nI_1 i9) (by decide) rfl (fun ls hl => ?_)
            refine lv_goto (tgt := 40) hx hb dX2_shown_135 (by decide) ?_
            exact ih1 (i9 + 1) _ _ _ _ (by omega) ⟨hil, rfl, fun f h1 h2 => by
              rcases Nat.lt_or_ge f i9 with g | g
              · exact hno f g h2
              · have hfe : f = i9 := by omega
                rw [hfe] at h2; exact absurd h2 ((apI_99 hw).mp ((apI_J _ _ _).trans c122))⟩ hG (lv_sub hl [1, 2, 0] rfl)
          · refine lv_iload_n hx hb dX2_shown_125 rfl (lv_at hl 3 rfl) ?_
            refine lv_iload_n hx hb dX2_shown_126 rfl (lv_at hl 1 rfl) ?_
            refine lv_icmp_ne (tgt := 132) hx hb dX2_shown_127 (by decide) (fun c127 => ?_) (fun c127 => ?_)
            · refine lv_iinc (v := nI (i9 + 1)) (lv' := [(2, .int (nI (i9 + 1))), (0, .ref (hs 0)), (1, .int k9), (3, .int (nI (befJ G i9 j9))), (4, .int (nI j9))]) hx hb dX2_shown_132 hl (k := 2) rfl (nI_1 i9) (by decide) rfl (fun ls hl => ?_)
              refine lv_goto (tgt := 40) hx hb dX2_shown_135 (by decide) ?_
              exact ih1 (i9 + 1) _ _ _ _ (by omega) ⟨hil, rfl, fun f h1 h2 => by
                rcases Nat.lt_or_ge f i9 with g | g
                · exact hno f g h2
                · have hfe : f = i9 := by omega
                  rw [hfe]; intro q; exact c127 (by rw [hke, ← q, ← befJ_end, show G 0 2 = j9 by omega])⟩ hG (lv_sub hl [1, 2, 0] rfl)
            · refine lv_iload_n hx hb dX2_shown_130 rfl (lv_at hl 2 rfl) ?_
              have hahd : ahd G i9 = nN k9 := by rw [← befJ_end, show G 0 2 = j9 by omega]; rw [hke] at c127; exact (nI_eq (by omega) (by unfold nN; have := Int32.toInt_lt k9; omega)).mp c127
              have hapi : apN G (G 2) i9 < G 0 3 := Classical.byContradiction (fun q => c122 ((apI_J _ _ _).symm.trans ((apI_99 hw).mpr q)))
              have hsh : shN G (nN k9) = i9 := sh_hit hil (by unfold shF; rw [decide_eq_true hapi, decide_eq_true hahd]; rfl)
              exact g_iret hx hb hr hlk hG ⟨by unfold F_shown; rw [if_neg (by rw [Int32.le_iff_toInt_le, Int32.toInt_zero] at c1; rw [Int32.lt_iff_toInt_lt, Int32.toInt_zero]; omega), hsh, if_pos hil], he9⟩ dX2_shown_131
        · have hjj : j9 < G 0 2 := Nat.lt_of_not_le (fun q => c59 (nI_le q (by omega)))
          refine lv_iload_n hx hb dX2_shown_62 rfl (lv_at hl 3 rfl) ?_
          refine lv_aload_n hx hb dX2_shown_63 rfl (lv_at hl 0 rfl) ?_
          refine g_get hx hb hts hown hG inX2 0 rfl rfl 21 (by decide) q413 (v := .ref (hs 21)) rfl dX2_shown_64 ?_
          refine lv_iload hx hb dX2_shown_67 (lv_at hl 4 rfl) ?_
          refine g_aldN (f := S9 21) hx hb hG 9 rfl (by decide) (j9) (rfl) (by omega) dX2_shown_69 ?_
          refine g_top (y := nI (apJ G (G 2) j9)) (hP' _ hjj) ?_
          refine lv_aload_n hx hb dX2_shown_70 rfl (lv_at hl 0 rfl) ?_
          refine g_get hx hb hts hown hG inX2 0 rfl rfl 21 (by decide) q413 (v := .ref (hs 21)) rfl dX2_shown_71 ?_
          refine lv_iload_n hx hb dX2_shown_74 rfl (lv_at hl 2 rfl) ?_
          refine g_aldN (f := S9 21) hx hb hG 9 rfl (by decide) (i9) (rfl) (by omega) dX2_shown_75 ?_
          refine g_top (y := nI (apJ G (G 2) i9)) (hP' _ hil) ?_
          refine lv_icmp_lt (tgt := 101) hx hb dX2_shown_76 (by decide) (fun c76 => ?_) (fun c76 => ?_)
          · have hlt : apN G (G 2) j9 < apN G (G 2) i9 := (apJ_lt hw).mp ((nI_ltI (by omega) (by omega)).mp c76)
            have hbb : (apN G (G 2) j9 < apN G (G 2) i9 ∨ (apN G (G 2) j9 = apN G (G 2) i9 ∧ j9 < i9)) := Or.inl hlt
            refine lv_iconst (v := 1) hx hb dX2_shown_101 (by decide) ?_
            refine lv_goto (tgt := 106) hx hb dX2_shown_102 (by decide) ?_
            refine lv_iadd hx hb dX2_shown_106 ?_
            refine g_top (y := nI (befJ G i9 (j9 + 1))) (by rw [befJ_hit hbb]; exact nI_1 _) ?_
            refine lv_istore_n (lv' := [(3, .int (nI (befJ G i9 (j9 + 1)))), (0, .ref (hs 0)), (1, .int k9), (2, .int (nI i9)), (4, .int (nI j9))]) hx hb dX2_shown_107 rfl hl (by decide) rfl (fun ls hl => ?_)
            refine lv_iinc (v := nI (j9 + 1)) (lv' := [(4, .int (nI (j9 + 1))), (3, .int (nI (befJ G i9 (j9 + 1)))), (0, .ref (hs 0)), (1, .int k9), (2, .int (nI i9))]) hx hb dX2_shown_108 hl (k := 4) rfl (nI_1 j9) (by decide) rfl (fun ls hl => ?_)
            refine lv_goto (tgt := 53) hx hb dX2_shown_111 (by decide) ?_
            exact ih2 (j9 + 1) _ _ _ _ (by omega) ⟨hjj, rfl⟩ hG (lv_sub hl [2, 3, 4, 1, 0] rfl)
          · have hlt : ¬ apN G (G 2) j9 < apN G (G 2) i9 := fun q => c76 ((nI_ltI (by omega) (by omega)).mpr ((apJ_lt hw).mpr q))
            refine lv_aload_n hx hb dX2_shown_79 rfl (lv_at hl 0 rfl) ?_
            refine g_get hx hb hts hown hG inX2 0 rfl rfl 21 (by decide) q413 (v := .ref (hs 21)) rfl dX2_shown_80 ?_
            refine lv_iload hx hb dX2_shown_83 (lv_at hl 4 rfl) ?_
            refine g_aldN (f := S9 21) hx hb hG 9 rfl (by decide) (j9) (rfl) (by omega) dX2_shown_85 ?_
            refine g_top (y := nI (apJ G (G 2) j9)) (hP' _ hjj) ?_
            refine lv_aload_n hx hb dX2_shown_86 rfl (lv_at hl 0 rfl) ?_
            refine g_get hx hb hts hown hG inX2 0 rfl rfl 21 (by decide) q413 (v := .ref (hs 21)) rfl dX2_shown_87 ?_
            refine lv_iload_n hx hb dX2_shown_90 rfl (lv_at hl 2 rfl) ?_
            refine g_aldN (f := S9 21) hx hb hG 9 rfl (by decide) (i9) (rfl) (by omega) dX2_shown_91 ?_
            refine g_top (y := nI (apJ G (G 2) i9)) (hP' _ hil) ?_
            refine lv_icmp_ne (tgt := 105) hx hb dX2_shown_92 (by decide) (fun c92 => ?_) (fun c92 => ?_)
            · have hbb : ¬ (apN G (G 2) j9 < apN G (G 2) i9 ∨ (apN G (G 2) j9 = apN G (G 2) i9 ∧ j9 < i9)) := fun q => q.elim hlt (fun z => c92 (by rw [(apJ_eq hw).mpr z.1]))
              refine lv_iconst (v := 0) hx hb dX2_shown_105 (by decide) ?_
              refine lv_iadd hx hb dX2_shown_106 ?_
              refine g_top (y := nI (befJ G i9 (j9 + 1))) (by rw [befJ_miss hbb]; exact nI_add _ 0) ?_
              refine lv_istore_n (lv' := [(3, .int (nI (befJ G i9 (j9 + 1)))), (0, .ref (hs 0)), (1, .int k9), (2, .int (nI i9)), (4, .int (nI j9))]) hx hb dX2_shown_107 rfl hl (by decide) rfl (fun ls hl => ?_)
              refine lv_iinc (v := nI (j9 + 1)) (lv' := [(4, .int (nI (j9 + 1))), (3, .int (nI (befJ G i9 (j9 + 1)))), (0, .ref (hs 0)), (1, .int k9), (2, .int (nI i9))]) hx hb dX2_shown_108 hl (k := 4) rfl (nI_1 j9) (by decide) rfl (fun ls hl => ?_)
              refine lv_goto (tgt := 53) hx hb dX2_shown_111 (by decide) ?_
              exact ih2 (j9 + 1) _ _ _ _ (by omega) ⟨hjj, rfl⟩ hG (lv_sub hl [2, 3, 4, 1, 0] rfl)
            · have heq : apN G (G 2) j9 = apN G (G 2) i9 := (apJ_eq hw).mp ((nI_eq (by omega) (by omega)).mp c92)
              refine lv_iload hx hb dX2_shown_95 (lv_at hl 4 rfl) ?_
              refine lv_iload_n hx hb dX2_shown_97 rfl (lv_at hl 2 rfl) ?_
              refine lv_icmp_ge (tgt := 105) hx hb dX2_shown_98 (by decide) (fun c98 => ?_) (fun c98 => ?_)
              · have hbb : ¬ (apN G (G 2) j9 < apN G (G 2) i9 ∨ (apN G (G 2) j9 = apN G (G 2) i9 ∧ j9 < i9)) := fun q => q.elim hlt (fun z => absurd ((nI_leI (by omega) (by omega)).mp c98) (by omega))
                refine lv_iconst (v := 0) hx hb dX2_shown_105 (by decide) ?_
                refine lv_iadd hx hb dX2_shown_106 ?_
                refine g_top (y := nI (befJ G i9 (j9 + 1))) (by rw [befJ_miss hbb]; exact nI_add _ 0) ?_
                refine lv_istore_n (lv' := [(3, .int (nI (befJ G i9 (j9 + 1)))), (0, .ref (hs 0)), (1, .int k9), (2, .int (nI i9)), (4, .int (nI j9))]) hx hb dX2_shown_107 rfl hl (by decide) rfl (fun ls hl => ?_)
                refine lv_iinc (v := nI (j9 + 1)) (lv' := [(4, .int (nI (j9 + 1))), (3, .int (nI (befJ G i9 (j9 + 1)))), (0, .ref (hs 0)), (1, .int k9), (2, .int (nI i9))]) hx hb dX2_shown_108 hl (k := 4) rfl (nI_1 j9) (by decide) rfl (fun ls hl => ?_)
                refine lv_goto (tgt := 53) hx hb dX2_shown_111 (by decide) ?_
                exact ih2 (j9 + 1) _ _ _ _ (by omega) ⟨hjj, rfl⟩ hG (lv_sub hl [2, 3, 4, 1, 0] rfl)
              · have hbb : (apN G (G 2) j9 < apN G (G 2) i9 ∨ (apN G (G 2) j9 = apN G (G 2) i9 ∧ j9 < i9)) := Or.inr ⟨heq, Nat.lt_of_not_le (fun q => c98 (nI_le q (by omega)))⟩
                refine lv_iconst (v := 1) hx hb dX2_shown_101 (by decide) ?_
                refine lv_goto (tgt := 106) hx hb dX2_shown_102 (by decide) ?_
                refine lv_iadd hx hb dX2_shown_106 ?_
                refine g_top (y := nI (befJ G i9 (j9 + 1))) (by rw [befJ_hit hbb]; exact nI_1 _) ?_
                refine lv_istore_n (lv' := [(3, .int (nI (befJ G i9 (j9 + 1)))), (0, .ref (hs 0)), (1, .int k9), (2, .int (nI i9)), (4, .int (nI j9))]) hx hb dX2_shown_107 rfl hl (by decide) rfl (fun ls hl => ?_)
                refine lv_iinc (v := nI (j9 + 1)) (lv' := [(4, .int (nI (j9 + 1))), (3, .int (nI (befJ G i9 (j9 + 1)))), (0, .ref (hs 0)), (1, .int k9), (2, .int (nI i9))]) hx hb dX2_shown_108 hl (k := 4) rfl (nI_1 j9) (by decide) rfl (fun ls hl => ?_)
                refine lv_goto (tgt := 53) hx hb dX2_shown_111 (by decide) ?_
                exact ih2 (j9 + 1) _ _ _ _ (by omega) ⟨hjj, rfl⟩ hG (lv_sub hl [2, 3, 4, 1, 0] rfl)
    · have hjl : x9 < G 0 2 := Nat.lt_of_not_le (fun q => c18 (nI_le q (by omega)))
      refine lv_aload_n hx hb dX2_shown_21 rfl (lv_at hl 0 rfl) ?_
      refine g_get hx hb hts hown hG inX2 0 rfl rfl 21 (by decide) q413 (v := .ref (hs 21)) rfl dX2_shown_22 ?_
      refine lv_iload_n hx hb dX2_shown_25 rfl (lv_at hl 2 rfl) ?_
      refine lv_aload_n hx hb dX2_shown_26 rfl (lv_at hl 0 rfl) ?_
      refine lv_iload_n hx hb dX2_shown_27 rfl (lv_at hl 2 rfl) ?_
      refine g_calli wM_adr hG (g_runV (As := [.int (nI x9)]) (rest := [.int (nI x9), .ref (hs 21)]) ⟨hx, hb, hml, hown, hts⟩ wM_adr (kX2_appearsAt G S9 hw he9 (G 2) hL9 (hG2 hw) x9 hjl) wyX2_appearsAt q607 hG 0 rfl rfl ⟨by decide, by decide⟩ rfl rfl hl.1 (Nat.le_of_ble_eq_true rfl) ⟨Nat.le_refl 0, Nat.le_refl 0⟩ dX2_shown_28) (fun r3 S2 H locs hp hG => ?_)
      obtain ⟨rfl, hfv⟩ := hp
      refine g_astN (f := S2 21) hx hb hG 9 rfl (by decide) (x9) (rfl) (by omega) (up2 S2 21 x9 (apI G (G 2) x9)) (rfl) dX2_shown_31 (fun H locs hG => ?_)
      refine lv_iinc (v := nI (x9 + 1)) (lv' := [(2, .int (nI (x9 + 1))), (0, .ref (hs 0)), (1, .int k9)]) hx hb dX2_shown_32 hl (k := 2) rfl (nI_1 x9) (by decide) rfl (fun ls hl => ?_)
      refine lv_goto (tgt := 13) hx hb dX2_shown_35 (by decide) ?_
      refine ih (x9 + 1) _ _ _ _ (by omega) ⟨hjl, fun i hi => ?_, (he9.fv hfv).fb (Or.inr (Or.inl rfl)) (fun j hj => up2_ne _ _ _ _ hj), fun c hc => by rw [up2_ne _ _ _ _ (by decide)]; exact (hL9.fv hfv) c hc⟩ hG (lv_sub hl [1, 2, 0] rfl)
      rw [up2_eq]; unfold upd
      by_cases g : i = x9
      · rw [if_pos g, g]
      · rw [if_neg g, hfv.ne (by decide)]; exact hP i (by omega)
  · refine lv_bipush (v := (-4)) hx hb dX2_shown_4 (by decide) ?_
    exact g_iret hx hb hr hlk hG ⟨by unfold F_shown; rw [if_pos (by rw [Int32.le_iff_toInt_le, Int32.toInt_zero] at c1; rw [Int32.lt_iff_toInt_lt, Int32.toInt_zero]; omega)], he⟩ dX2_shown_6
