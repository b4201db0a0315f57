/-! ===== the law ===== -/
set_option maxHeartbeats 8000000 in
set_option maxRecDepth 100000 in
theorem law_loop {p : Program} {l : Launch} {e : Env} {s : State} {m : MethodId} {below : List Frame} {meth : Method} {c : Code} {D : va_G} {cy : ClassId} {hc hm : Nat → Nat} {b L : Nat} {xs : Nat → Int32} (C : lcx p s m c b L xs) (hr : meth.sig.returnType = ret) (hlk : meth.locks = false) : ∀ (n i : Nat) (G : GN) (SC SM : GS) (H : Heap) (locs : List Loc) (ls : Array Slot), L + 1 - i ≤ n → i ≤ L → lwW s D cy hc hm G SC SM H locs → lv_has ls 8 (lwl b i hc hm) →
    W p l e room_1 s m #[Value.ref b] below meth c H locs 24 1627 (lw_Z below #[Value.ref b] s) (F0 m 18 ls []) := by
  intro n
  induction n with
  | zero => intro i G SC SM H locs ls hn hi; exact absurd hn (by omega)
  | succ n ih =>
    intro i G SC SM H locs ls hn hi hw0 hl
    obtain ⟨hx, hb, hml, hown, hts, hX, hbl, hL⟩ := id C
    have hS := hw0.2.2.2.2.2.2.1
    have e5 : nI L - 5 = zI ((L : Int) - 5) := by rw [zI_nat, show (5 : Int32) = zI 5 from rfl, zI_sub]
    refine lv_iload_n hx hb dL_law_18 rfl (lv_at hl 3 rfl) ?_
    refine lv_aload_n hx hb dL_law_19 rfl (lv_at hl 0 rfl) ?_
    refine va_slen hx hb hX hbl (A := lA s) (Nat.not_le.mpr hbl) hS dL_law_20 ?_
    refine lv_iconst (v := 5) hx hb dL_law_21 (by decide) ?_
    refine lv_isub hx hb dL_law_22 ?_
    refine g_top (y := zI ((L : Int) - 5)) e5 ?_
    refine lv_icmp_gt (tgt := 1034) hx hb dL_law_23 (by decide) (fun c9 => ?_) (fun c9 => ?_)
    · refine lv_iconst (v := 1) hx hb dL_law_1034 (by decide) ?_
      refine va_forget (fun q hq => hS.2.2 q hq) ?_
      exact lw_ret (d0 := s.drawn) (Drawn.sameBut.refl s.drawn lw_cs) hx hb hr hlk dL_law_1035
    · have hi5 : i + 5 ≤ L := by
        rcases Nat.lt_or_ge L (i + 5) with g | g
        · exact absurd (by rw [zI_nat i]; exact (zI_lt (by unfold sml; omega) (by unfold sml; omega)).mpr (by omega)) c9
        · exact g
      have kk : ∀ (G : GN) (SC SM : GS) (H : Heap) (locs : List Loc) (ls : Array Slot), lwW s D cy hc hm G SC SM H locs → lv_has ls 8 (lwl b i hc hm) → W p l e room_1 s m #[Value.ref b] below meth c H locs 24 1627 (lw_Z below #[Value.ref b] s) (F0 m 1028 ls []) := by
        intro G SC SM H locs ls hw0 hl
        refine lv_iinc (v := nI (i + 5)) (lv' := [(3, .int (nI (i + 5))), (0, .ref b), (1, .ref (hc 0)), (2, .ref (hm 0))]) hx hb dL_law_1028 hl (k := 3) rfl (nI_add i 5) (by decide) rfl (fun ls hl => ?_)
        refine lv_goto (tgt := 18) hx hb dL_law_1031 (by decide) ?_
        exact ih (i + 5) G SC SM H locs ls (by omega) hi5 hw0 (lv_sub hl [1, 2, 3, 0] rfl)
      refine lv_aload_n hx hb dL_law_26 rfl (lv_at hl 0 rfl) ?_
      refine lv_iload_n hx hb dL_law_27 rfl (lv_at hl 3 rfl) ?_
      refine va_sld hx hb hX hbl (A := lA s) (Nat.not_le.mpr hbl) hS (vp_in_nI (by omega) (by omega)) dL_law_28 ?_
      refine lv_bipush (v := 31) hx hb dL_law_29 (by decide) ?_
      refine lv_iand hx hb dL_law_31 ?_
      generalize xs (nI i).toNatClampNeg &&& 31 = v9
      by_cases h0 : v9 = 0
      · subst h0
        refine lv_tableIn (tgt := 152) hx hb dL_law_32 (by decide) (by decide) rfl (by decide) ?_
        exact law_c0 C hi5 hw0 hl kk
      by_cases h1 : v9 = 1
      · subst h1
        refine lv_tableIn (tgt := 185) hx hb dL_law_32 (by decide) (by decide) rfl (by decide) ?_
        exact law_c1 C hi5 hw0 hl kk
      by_cases h2 : v9 = 2
      · subst h2
        refine lv_tableIn (tgt := 228) hx hb dL_law_32 (by decide) (by decide) rfl (by decide) ?_
        exact law_c2 C hi5 hw0 hl kk
      by_cases h3 : v9 = 3
      · subst h3
        refine lv_tableIn (tgt := 271) hx hb dL_law_32 (by decide) (by decide) rfl (by decide) ?_
        exact law_c3 C hi5 hw0 hl kk
      by_cases h4 : v9 = 4
      · subst h4
        refine lv_tableIn (tgt := 324) hx hb dL_law_32 (by decide) (by decide) rfl (by decide) ?_
        exact law_c4 C hi5 hw0 hl kk
      by_cases h5 : v9 = 5
      · subst h5
        refine lv_tableIn (tgt := 357) hx hb dL_law_32 (by decide) (by decide) rfl (by decide) ?_
        exact law_c5 C hi5 hw0 hl kk
      by_cases h6 : v9 = 6
      · subst h6
        refine lv_tableIn (tgt := 390) hx hb dL_law_32 (by decide) (by decide) rfl (by decide) ?_
        exact law_c6 C hi5 hw0 hl kk
      by_cases h7 : v9 = 7
      · subst h7
        refine lv_tableIn (tgt := 413) hx hb dL_law_32 (by decide) (by decide) rfl (by decide) ?_
        exact law_c7 C hi5 hw0 hl kk
      by_cases h8 : v9 = 8
      · subst h8
        refine lv_tableIn (tgt := 456) hx hb dL_law_32 (by decide) (by decide) rfl (by decide) ?_
        exact law_c8 C hi5 hw0 hl kk
      by_cases h9 : v9 = 9
      · subst h9
        refine lv_tableIn (tgt := 489) hx hb dL_law_32 (by decide) (by decide) rfl (by decide) ?_
        exact law_c9 C hi5 hw0 hl kk
      by_cases h10 : v9 = 10
      · subst h10
        refine lv_tableIn (tgt := 532) hx hb dL_law_32 (by decide) (by decide) rfl (by decide) ?_
        exact law_c10 C hi5 hw0 hl kk
      by_cases h11 : v9 = 11
      · subst h11
        refine lv_tableIn (tgt := 575) hx hb dL_law_32 (by decide) (by decide) rfl (by decide) ?_
        exact law_c11 C hi5 hw0 hl kk
      by_cases h12 : v9 = 12
      · subst h12
        refine lv_tableIn (tgt := 618) hx hb dL_law_32 (by decide) (by decide) rfl (by decide) ?_
        exact law_c12 C hi5 hw0 hl kk
      by_cases h13 : v9 = 13
      · subst h13
        refine lv_tableIn (tgt := 661) hx hb dL_law_32 (by decide) (by decide) rfl (by decide) ?_
        exact law_c13 C hi5 hw0 hl kk
      by_cases h14 : v9 = 14
      · subst h14
        refine lv_tableIn (tgt := 694) hx hb dL_law_32 (by decide) (by decide) rfl (by decide) ?_
        exact law_c14 C hi5 hw0 hl kk
      by_cases h15 : v9 = 15
      · subst h15
        refine lv_tableIn (tgt := 717) hx hb dL_law_32 (by decide) (by decide) rfl (by decide) ?_
        exact law_c15 C hi5 hw0 hl kk
      by_cases h16 : v9 = 16
      · subst h16
        refine lv_tableIn (tgt := 740) hx hb dL_law_32 (by decide) (by decide) rfl (by decide) ?_
        exact law_c16 C hi5 hw0 hl kk
      by_cases h17 : v9 = 17
      · subst h17
        refine lv_tableIn (tgt := 763) hx hb dL_law_32 (by decide) (by decide) rfl (by decide) ?_
        exact law_c17 C hi5 hw0 hl kk
      by_cases h18 : v9 = 18
      · subst h18
        refine lv_tableIn (tgt := 786) hx hb dL_law_32 (by decide) (by decide) rfl (by decide) ?_
        exact law_c18 C hi5 hw0 hl kk
      by_cases h19 : v9 = 19
      · subst h19
        refine lv_tableIn (tgt := 829) hx hb dL_law_32 (by decide) (by decide) rfl (by decide) ?_
        exact law_c19 C hi5 hw0 hl kk
      by_cases h20 : v9 = 20
      · subst h20
        refine lv_tableIn (tgt := 842) hx hb dL_law_32 (by decide) (by decide) rfl (by decide) ?_
        exact law_c20 C hi5 hw0 hl kk
      by_cases h21 : v9 = 21
      · subst h21
        refine lv_tableIn (tgt := 855) hx hb dL_law_32 (by decide) (by decide) rfl (by decide) ?_
        exact law_c21 C hi5 hw0 hl kk
      by_cases h22 : v9 = 22
      · subst h22
        refine lv_tableIn (tgt := 888) hx hb dL_law_32 (by decide) (by decide) rfl (by decide) ?_
        exact law_c22 C hi5 hw0 hl kk
      by_cases h23 : v9 = 23
      · subst h23
        refine lv_tableIn (tgt := 901) hx hb dL_law_32 (by decide) (by decide) rfl (by decide) ?_
        exact law_c23 C hi5 hw0 hl kk
      by_cases h24 : v9 = 24
      · subst h24
        refine lv_tableIn (tgt := 962) hx hb dL_law_32 (by decide) (by decide) rfl (by decide) ?_
        exact law_c24 C hi5 hw0 hl kk
      by_cases h25 : v9 = 25
      · subst h25
        refine lv_tableIn (tgt := 985) hx hb dL_law_32 (by decide) (by decide) rfl (by decide) ?_
        exact law_c25 C hi5 hw0 hl kk
      have hd : v9.toInt < 0 ∨ 25 < v9.toInt := by
        have q0 : v9.toInt ≠ 0 := fun q => h0 (Int32.toInt_inj.mp (by rw [q]; decide))
        have q1 : v9.toInt ≠ 1 := fun q => h1 (Int32.toInt_inj.mp (by rw [q]; decide))
        have q2 : v9.toInt ≠ 2 := fun q => h2 (Int32.toInt_inj.mp (by rw [q]; decide))
        have q3 : v9.toInt ≠ 3 := fun q => h3 (Int32.toInt_inj.mp (by rw [q]; decide))
        have q4 : v9.toInt ≠ 4 := fun q => h4 (Int32.toInt_inj.mp (by rw [q]; decide))
        have q5 : v9.toInt ≠ 5 := fun q => h5 (Int32.toInt_inj.mp (by rw [q]; decide))
        have q6 : v9.toInt ≠ 6 := fun q => h6 (Int32.toInt_inj.mp (by rw [q]; decide))
        have q7 : v9.toInt ≠ 7 := fun q => h7 (Int32.toInt_inj.mp (by rw [q]; decide))
        have q8 : v9.toInt ≠ 8 := fun q => h8 (Int32.toInt_inj.mp (by rw [q]; decide))
        have q9 : v9.toInt ≠ 9 := fun q => h9 (Int32.toInt_inj.mp (by rw [q]; decide))
        have q10 : v9.toInt ≠ 10 := fun q => h10 (Int32.toInt_inj.mp (by rw [q]; decide))
        have q11 : v9.toInt ≠ 11 := fun q => h11 (Int32.toInt_inj.mp (by rw [q]; decide))
        have q12 : v9.toInt ≠ 12 := fun q => h12 (Int32.toInt_inj.mp (by rw [q]; decide))
        have q13 : v9.toInt ≠ 13 := fun q => h13 (Int32.toInt_inj.mp (by rw [q]; decide))
        have q14 : v9.toInt ≠ 14 := fun q => h14 (Int32.toInt_inj.mp (by rw [q]; decide))
        have q15 : v9.toInt ≠ 15 := fun q => h15 (Int32.toInt_inj.mp (by rw [q]; decide))
        have q16 : v9.toInt ≠ 16 := fun q => h16 (Int32.toInt_inj.mp (by rw [q]; decide))
        have q17 : v9.toInt ≠ 17 := fun q => h17 (Int32.toInt_inj.mp (by rw [q]; decide))
        have q18 : v9.toInt ≠ 18 := fun q => h18 (Int32.toInt_inj.mp (by rw [q]; decide))
        have q19 : v9.toInt ≠ 19 := fun q => h19 (Int32.toInt_inj.mp (by rw [q]; decide))
        have q20 : v9.toInt ≠ 20 := fun q => h20 (Int32.toInt_inj.mp (by rw [q]; decide))
        have q21 : v9.toInt ≠ 21 := fun q => h21 (Int32.toInt_inj.mp (by rw [q]; decide))
        have q22 : v9.toInt ≠ 22 := fun q => h22 (Int32.toInt_inj.mp (by rw [q]; decide))
        have q23 : v9.toInt ≠ 23 := fun q => h23 (Int32.toInt_inj.mp (by rw [q]; decide))
        have q24 : v9.toInt ≠ 24 := fun q => h24 (Int32.toInt_inj.mp (by rw [q]; decide))
        have q25 : v9.toInt ≠ 25 := fun q => h25 (Int32.toInt_inj.mp (by rw [q]; decide))
        omega
      refine lv_tableOut (tgt := 1028) hx hb dL_law_32 hd (by decide) ?_
      exact kk G SC SM H locs ls hw0 hl
set_option maxHeartbeats 8000000 in
set_option maxRecDepth 100000 in
/-- from the entry -/
theorem whole_start {p : Program} {e : Env} {s : State} {m : MethodId} {below : List Frame} {meth : Method} {c : Code} (l : Launch) (hflags : l.flags = flags0) {b L : Nat} {xs : Nat → Int32} (hL : L ≤ 2560) (C0 : lw_At p s m meth c b L xs) : W p l e room_1 s m #[Value.ref b] below meth c s.heap [] 0 0 (lw_Z below #[Value.ref b] s) (entryFrame m ([Value.ref b] : List Value).toArray 8) := by
  obtain ⟨hx, hb, hr, hml, hown, hts0, hX, hbl, hlk, -⟩ := C0
  have hown : s.vm.findClass RL = some m.cls := hown
  have hts : ∀ w ∈ lt, w.before #[Value.ref b] s = true := fun w h => hts0 w (lt_in h)
  have hA : ∀ q : Nat, s.heap.size ≤ q → lA s q := fun _ h => h
  obtain ⟨c0, iS0, hKn0⟩ := u_known (C := RX0) (T := TX0) (N := 12) (n := 12) hts inX0 (hts _ q55)
  obtain ⟨c1, iS1, hKn1⟩ := u_known (C := RX1) (T := TX1) (N := 14) (n := 14) hts inX1 (hts _ q47)
  obtain ⟨c2, iS2, hKn2⟩ := u_known (C := RX2) (T := TX2) (N := 27) (n := 27) hts inX2 (hts _ q387)
  obtain ⟨cy, kA, comp, hf1, hf2, hf3⟩ := Cond.arrayClass_spec (hts _ q97)
  obtain ⟨D, hK0⟩ : ∃ D : va_G, va_K D vwCl [(cy, .int)] s := by
    refine ⟨(fun k => if k = 0 then c0 else if k = 1 then c1 else c2, fun k => if k = 0 then iS0 else if k = 1 then iS1 else iS2), ?_, ?_⟩
    · intro k q hq
      match k, hq with
      | 0, hq => cases hq; exact hKn0
      | 1, hq => cases hq; exact hKn1
      | 2, hq => cases hq; exact hKn2
      | k + 3, hq => simp [vwCl] at hq
    · intro k q hq
      match k, hq with
      | 0, hq => cases hq; exact ⟨fun n z => ⟨fun k h => (by cases h), kA, hf2, comp, hf3⟩, hf1⟩
      | k + 1, hq => simp at hq
  have hK : KW D cy s := ⟨hK0, va_Nw.of rfl (hts0 _ q236), va_Nw.of rfl (hts0 _ q239)⟩
  have hN : va_Nw (.methodLinkNest RX1 36 yX0_init RX1) s := va_Nw.of rfl (hts0 _ q56)
  have hS : va_S (lA s) s.heap s.heap [] := va_S.rf
  have hP : va_P D vwCl [] s.heap := fun k q h => by simp at h
  have hD : va_D (lA s) [] := ⟨fun i j p q h => by simp at h, fun k q h => by simp at h⟩
  have hl := lv_entry ([.ref b]) (n := 8) (Nat.le_of_ble_eq_true rfl)
  rw [lg_entry_eq]
  generalize (lg_sl ([.ref b]) ++ List.replicate (8 - (lg_sl ([.ref b])).length) Slot.unset).toArray = ls at hl ⊢
  have hl : lv_has ls 8 [(0, .ref b)] := hl
  refine va_new (ci := 1) (fs := [.int 0, .int 0, .null, .null, .int 0, .null, .null, .int 0, .null, .int 0, .null, .null, .null, .null]) (C := RX1) (T := TX1) (N := 14) hx hb hts inX1 tyX1 tyX1_ok hown (hts _ q46) (hts _ q47) (hts _ q40) hK.1 hP hD hS hA rfl (fun j hj => by rcases (show j = 0 ∨ j = 1 ∨ j = 2 ∨ j = 3 ∨ j = 4 ∨ j = 5 ∨ j = 6 ∨ j = 7 ∨ j = 8 ∨ j = 9 ∨ j = 10 ∨ j = 11 ∨ j = 12 ∨ j = 13 by omega) with rfl | rfl | rfl | rfl | rfl | rfl | rfl | rfl | rfl | rfl | rfl | rfl | rfl | rfl <;> rfl) (Nat.le_of_ble_eq_true rfl) (Nat.le_of_ble_eq_true rfl) dL_law_0 (fun h0 H hP hD hS => ?_)
  have hP : va_P D vwCl (cX10 h0) H := hP
  have hD : va_D (lA s) (cX10 h0) := hD
  refine lv_dup hx hb dL_law_3 rfl ?_
  have hFc := va_free (wc := cX10 h0) hD hS hA [0] rfl
  refine va_callv (va_runI (As := []) (rest := [.ref h0]) ⟨hx, hb, hml, hown, hts⟩ (kX1_init (D := D) (cy := cy) h0 H.size) (cwI 0 hts (gi_wds q50) rfl rfl rfl (hts _ q40) (hts _ q48) (hts _ q49) rfl (by decide +kernel) ⟨Nat.le_of_ble_eq_true rfl, Nat.le_of_ble_eq_true rfl⟩) ⟨fun a U g mk q => by obtain ⟨q0, q1, qP, qK, qN, qD⟩ := q; exact ⟨q0, q1, qP, qK.calling, va_Nw.same rfl rfl qN, qD⟩, fun U hU hW => ⟨rfl, by rw [hU], by rw [hU]; exact hP, hK.warm hW, va_Nw.warmM hW hN, hD.weaken (fun _ _ _ _ => trivial)⟩⟩ rfl rfl hl.1 rfl (lv_room (Nat.le_of_ble_eq_true rfl)) dL_law_4 ⟨Nat.le_of_ble_eq_true rfl, Nat.le_of_ble_eq_true rfl⟩) hS (fun q _ h => hFc q h) hFc (fun u t H1 locs ht hvm hw hB hz1 hk1 hS => ?_)
  obtain ⟨hc, SC⟩ := u
  obtain ⟨hP1, hD1⟩ := hB
  obtain ⟨hc0, hec⟩ := hw
  rw [ht] at hP1
  obtain ⟨hP, hD⟩ := va_join (wr := []) (w1 := wC cy hc [] SC) hP hD [0] [] rfl rfl (by decide) (by decide) hk1 hFc hP1 hD1
  generalize H1 = H at hP hS ⊢
  have hP : va_P D vwCl (wC cy hc [] SC) H := hP
  have hD : va_D (lA s) (wC cy hc [] SC) := hD
  replace hc0 : hc 0 = h0 := hc0
  refine lv_astore_n (lv' := [(1, .ref h0), (0, .ref b)]) hx hb dL_law_7 rfl hl (by decide) rfl (fun ls hl => ?_)
  have hl : lv_has ls 8 [(1, .ref (hc 0)), (0, .ref b)] := by rw [hc0]; exact hl
  refine va_new (ci := 2) (fs := [.int 0, .int 0, .null, .null, .int 0, .null, .null, .null, .int 0, .int 0, .int 0, .int 0, .int 0, .int 0, .int 0, .int 0, .int 0, .null, .int 0, .null, .null, .null, .int 0, .null, .null, .null, .null]) (C := RX2) (T := TX2) (N := 27) hx hb hts inX2 tyX2 tyX2_ok hown (hts _ q386) (hts _ q387) (hts _ q43) hK.1 hP hD hS hA rfl (fun j hj => by rcases (show j = 0 ∨ j = 1 ∨ j = 2 ∨ j = 3 ∨ j = 4 ∨ j = 5 ∨ j = 6 ∨ j = 7 ∨ j = 8 ∨ j = 9 ∨ j = 10 ∨ j = 11 ∨ j = 12 ∨ j = 13 ∨ j = 14 ∨ j = 15 ∨ j = 16 ∨ j = 17 ∨ j = 18 ∨ j = 19 ∨ j = 20 ∨ j = 21 ∨ j = 22 ∨ j = 23 ∨ j = 24 ∨ j = 25 ∨ j = 26 by omega) with rfl | rfl | rfl | rfl | rfl | rfl | rfl | rfl | rfl | rfl | rfl | rfl | rfl | rfl | rfl | rfl | rfl | rfl | rfl | rfl | rfl | rfl | rfl | rfl | rfl | rfl | rfl <;> rfl) (Nat.le_of_ble_eq_true rfl) (Nat.le_of_ble_eq_true rfl) dL_law_8 (fun h1 H hP hD hS => ?_)
  have hP : va_P D vwCl (wC cy hc (cX20 h1) SC) H := hP
  have hD : va_D (lA s) (wC cy hc (cX20 h1) SC) := hD
  refine lv_dup hx hb dL_law_11 rfl ?_
  have hPc := hP.sub (ws' := cX20 h1) [10] rfl
  have hDc := hD.sub (ws' := cX20 h1) [10] (by decide) rfl
  have hFc := va_free (wc := cX20 h1) hD hS hA [10] rfl
  refine va_callv (va_runI (As := []) (rest := [.ref h1]) ⟨hx, hb, hml, hown, hts⟩ (kX2_init (D := D) (cy := cy) h1 H.size) (cwI 0 hts (gi_wds q390) rfl rfl rfl (hts _ q43) (hts _ q388) (hts _ q389) rfl (by decide +kernel) ⟨Nat.le_of_ble_eq_true rfl, Nat.le_of_ble_eq_true rfl⟩) ⟨fun a U g mk q => by obtain ⟨q0, q1, qP, qK, qD⟩ := q; exact ⟨q0, q1, qP, qK.calling, qD⟩, fun U hU hW => ⟨rfl, by rw [hU], by rw [hU]; exact hPc, hK.warm hW, hDc.weaken (fun _ _ _ _ => trivial)⟩⟩ rfl rfl hl.1 rfl (lv_room (Nat.le_of_ble_eq_true rfl)) dL_law_12 ⟨Nat.le_of_ble_eq_true rfl, Nat.le_of_ble_eq_true rfl⟩) hS (fun q _ h => hFc q h) hFc (fun u t H1 locs ht hvm hw hB hz1 hk1 hS => ?_)
  obtain ⟨hm, SM⟩ := u
  obtain ⟨hP1, hD1⟩ := hB
  obtain ⟨hm0, hem⟩ := hw
  rw [ht] at hP1
  obtain ⟨hP, hD⟩ := va_join (wr := wC cy hc [] SC) (w1 := wM cy hm [] SM) hP hD [10] [0, 1, 2, 3, 4, 5, 6, 7, 8, 9] rfl rfl (by decide) (by decide) hk1 hFc hP1 hD1
  generalize H1 = H at hP hS ⊢
  have hP : va_P D vwCl (wC cy hc (wM cy hm [] SM) SC) H := hP
  have hD : va_D (lA s) (wC cy hc (wM cy hm [] SM) SC) := hD
  replace hm0 : hm 0 = h1 := hm0
  refine lv_astore_n (lv' := [(2, .ref h1), (1, .ref (hc 0)), (0, .ref b)]) hx hb dL_law_15 rfl hl (by decide) rfl (fun ls hl => ?_)
  have hl : lv_has ls 8 [(2, .ref (hm 0)), (1, .ref (hc 0)), (0, .ref b)] := by rw [hm0]; exact hl
  refine lv_iconst (v := 0) hx hb dL_law_16 (by decide) ?_
  refine lv_istore_n (lv' := [(3, .int 0), (2, .ref (hm 0)), (1, .ref (hc 0)), (0, .ref b)]) hx hb dL_law_17 rfl hl (by decide) rfl (fun ls hl => ?_)
  refine W.widen (k := 24) (n := 1627) (Nat.le_of_ble_eq_true rfl) (Nat.le_of_ble_eq_true rfl) ?_
  exact law_loop ⟨hx, hb, hml, hown, hts, hX, hbl, hL⟩ hr hlk (L + 1) 0 (T_new 8 8) SC SM H locs ls (by omega) (Nat.zero_le _) ⟨wf_new (by decide) (by decide) (by decide) (by decide), hec, hem, hK, hP, hD, hS, hA⟩ (lv_sub hl [3, 2, 1, 0] rfl)
