/-! ===== the law: the cases of its switch ===== -/
section Swap
variable {s : State} {H : Heap} {locs : List Loc} {D : va_G} {cy : ClassId} {A : Nat → Prop} {hc hm : Nat → Nat} {SC SM : GS}
theorem sw1 (h : GW D cy (wC cy hc (wM cy hm [] SM)) A s SC H locs) : GW D cy (wM cy hm (wC cy hc [] SC)) A s SM H locs :=
  ⟨h.1, h.2.1.sub [10, 11, 12, 13, 14, 15, 16, 17, 18, 19, 20, 21, 22, 23, 0, 1, 2, 3, 4, 5, 6, 7, 8, 9] rfl, h.2.2.1.sub [10, 11, 12, 13, 14, 15, 16, 17, 18, 19, 20, 21, 22, 23, 0, 1, 2, 3, 4, 5, 6, 7, 8, 9] (by decide) rfl, h.2.2.2.1, h.2.2.2.2⟩
theorem sw2 (h : GW D cy (wM cy hm (wC cy hc [] SC)) A s SM H locs) : GW D cy (wC cy hc (wM cy hm [] SM)) A s SC H locs :=
  ⟨h.1, h.2.1.sub [14, 15, 16, 17, 18, 19, 20, 21, 22, 23, 0, 1, 2, 3, 4, 5, 6, 7, 8, 9, 10, 11, 12, 13] rfl, h.2.2.1.sub [14, 15, 16, 17, 18, 19, 20, 21, 22, 23, 0, 1, 2, 3, 4, 5, 6, 7, 8, 9, 10, 11, 12, 13] (by decide) rfl, h.2.2.2.1, h.2.2.2.2⟩
end Swap
theorem wf_Tclip {G : GN} (hw : wf G) (x y f : Int32) : wf (Tf_clip G x y f) := by
  unfold Tf_clip
  split
  · exact wf_clip hw _ _
  · exact hw
theorem wf_reset {G : GN} (hw : wf G) (c r : Int32) : wf (Tf_reset G c r) := by
  unfold Tf_reset
  split
  · rename_i h
    have h1 := rB_n h
    exact wf_new (by omega) (by omega) (by omega) (by omega)
  · exact hw
/-- what the law's walk knows throughout -/
def lcx (p : Program) (s : State) (m : MethodId) (c : Code) (b L : Nat) (xs : Nat → Int32) : Prop :=
  p.tables.exec = Jvm.exec ∧ c.code = cL_law ∧ c.maxLocals = 8 ∧ s.vm.findClass RL = some m.cls ∧ (∀ w ∈ lt, w.before #[Value.ref b] s = true) ∧ va_X b L xs s s.heap ∧ b < s.heap.size ∧ L ≤ 2560
abbrev lA (s : State) : Nat → Prop := fun q => s.heap.size ≤ q
section Law
variable {p : Program} {l : Launch} {e : Env} {s : State} {m : MethodId} {below : List Frame} {meth : Method} {c : Code} {H : Heap} {locs : List Loc} {Q : State → Prop}
variable {D : va_G} {cy : ClassId} {hc hm : Nat → Nat} {b L i : Nat} {xs : Nat → Int32} {ls : Array Slot} {rest : List Value} {pc : Nat}
theorem s_ld (C : lcx p s m c b L xs) (hS : va_S (lA s) s.heap H locs) {lv : List (Nat × Value)} (hl : lv_has ls 8 lv) (k0 k3 : Nat) (h0 : lv[k0]? = some (0, .ref b)) (h3 : lv[k3]? = some (3, .int (nI i))) (j : Nat) (hj : i + j < L) {jj : Int} (hjj : Int32.ofInt jj = nI j)
    (d0 : decode cL_law pc = .ok (.aload_n 0, 1)) (d1 : decode cL_law (pc + 1) = .ok (.iload_n 3, 1)) (d2 : decode cL_law (pc + 1 + 1) = .ok (.iconst jj, 1)) (d3 : decode cL_law (pc + 1 + 1 + 1) = .ok (.iadd, 1)) (d4 : decode cL_law (pc + 1 + 1 + 1 + 1) = .ok (.iaload, 1))
    (kk : W p l e room_1 s m #[Value.ref b] below meth c H locs 24 1627 Q (F0 m (pc + 1 + 1 + 1 + 1 + 1) ls (.int (xs (i + j)) :: rest))) : W p l e room_1 s m #[Value.ref b] below meth c H locs 24 1627 Q (F0 m pc ls rest) := by
  obtain ⟨hx, hb, hml, hown, hts, hX, hbl, hL⟩ := C
  refine lv_aload_n hx hb d0 rfl (lv_at hl k0 h0) ?_
  refine lv_iload_n hx hb d1 rfl (lv_at hl k3 h3) ?_
  refine lv_iconst (v := nI j) hx hb d2 hjj ?_
  refine lv_iadd hx hb d3 ?_
  refine g_top (y := nI (i + j)) (nI_add i j) ?_
  refine va_sld hx hb hX hbl (A := lA s) (Nat.not_le.mpr hbl) hS (vp_in_nI hj (by omega)) d4 ?_
  rw [nI_clamp (by omega)]
  exact kk
end Law
/-- the law's world at the head of its loop -/
def lwW (s : State) (D : va_G) (cy : ClassId) (hc hm : Nat → Nat) (G : GN) (SC SM : GS) (H : Heap) (locs : List Loc) : Prop :=
  wf G ∧ encC G SC ∧ encM G SM ∧ GW D cy (wC cy hc (wM cy hm [] SM)) (lA s) s SC H locs
abbrev lwl (b i : Nat) (hc hm : Nat → Nat) : List (Nat × Value) := [(0, .ref b), (1, .ref (hc 0)), (2, .ref (hm 0)), (3, .int (nI i))]
set_option maxHeartbeats 4000000 in
set_option maxRecDepth 100000 in
theorem law_c0 {p : Program} {l : Launch} {e : Env} {s : State} {m : MethodId} {below : List Frame} {meth : Method} {c : Code} {H : Heap} {locs : List Loc} {Q : State → Prop} {D : va_G} {cy : ClassId} {hc hm : Nat → Nat} {b L i : Nat} {xs : Nat → Int32} {ls : Array Slot} {G : GN} {SC SM : GS} (C : lcx p s m c b L xs) (hi : i + 5 ≤ L) (hw0 : lwW s D cy hc hm G SC SM H locs) (hl : lv_has ls 8 (lwl b i hc hm))
    (kk : ∀ (G : GN) (SC SM : GS) (H : Heap) (locs : List Loc) (ls : Array Slot), lwW s D cy hc hm G SC SM H locs → lv_has ls 8 (lwl b i hc hm) → W p l e room_1 s m #[Value.ref b] below meth c H locs 24 1627 Q (F0 m 1028 ls [])) : W p l e room_1 s m #[Value.ref b] below meth c H locs 24 1627 Q (F0 m 152 ls []) := by
  obtain ⟨hw, hec, hem, hG⟩ := hw0
  obtain ⟨hx, hb, hml, hown, hts, hX, hbl, hL⟩ := id C
  refine lv_aload_n hx hb dL_law_152 rfl (lv_at hl 1 rfl) ?_
  refine s_ld C hG.2.2.2.1 hl 0 3 rfl rfl 1 (by omega) rfl dL_law_153 dL_law_154 dL_law_155 dL_law_156 dL_law_157 ?_
  refine s_ld C hG.2.2.2.1 hl 0 3 rfl rfl 2 (by omega) rfl dL_law_158 dL_law_159 dL_law_160 dL_law_161 dL_law_162 ?_
  refine g_calli wC_adr hG (g_runV (As := [.int (xs (i + 1)), .int (xs (i + 2))]) (rest := []) ⟨hx, hb, hml, hown, hts⟩ wC_adr (kX1_reset G SC hw hec (xs (i + 1)) (xs (i + 2))) wyX1_reset q148 hG 0 rfl rfl ⟨Nat.le_of_ble_eq_true rfl, Nat.le_of_ble_eq_true rfl⟩ rfl rfl hl.1 (Nat.le_of_ble_eq_true rfl) ⟨Nat.le_of_ble_eq_true rfl, Nat.le_of_ble_eq_true rfl⟩ dL_law_163) (fun r1 SC1 H locs hp hG => ?_)
  obtain ⟨rfl, hec1⟩ := hp
  replace hG := sw1 hG
  refine lv_aload_n hx hb dL_law_166 rfl (lv_at hl 2 rfl) ?_
  refine s_ld C hG.2.2.2.1 hl 0 3 rfl rfl 1 (by omega) rfl dL_law_167 dL_law_168 dL_law_169 dL_law_170 dL_law_171 ?_
  refine s_ld C hG.2.2.2.1 hl 0 3 rfl rfl 2 (by omega) rfl dL_law_172 dL_law_173 dL_law_174 dL_law_175 dL_law_176 ?_
  refine g_calli wM_adr hG (g_runV (As := [.int (xs (i + 1)), .int (xs (i + 2))]) (rest := [.int (F_reset (xs (i + 1)) (xs (i + 2)))]) ⟨hx, hb, hml, hown, hts⟩ wM_adr (kX2_reset G SM hw hem (xs (i + 1)) (xs (i + 2))) wyX2_reset q474 hG 0 rfl rfl ⟨Nat.le_of_ble_eq_true rfl, Nat.le_of_ble_eq_true rfl⟩ rfl rfl hl.1 (Nat.le_of_ble_eq_true rfl) ⟨Nat.le_of_ble_eq_true rfl, Nat.le_of_ble_eq_true rfl⟩ dL_law_177) (fun r2 SM1 H locs hp hG => ?_)
  obtain ⟨rfl, hem1⟩ := hp
  replace hG := sw2 hG
  refine lv_icmp_eq (tgt := 1028) hx hb dL_law_180 (by decide) (fun _ => ?_) (fun c9 => absurd rfl c9)
  exact kk (Tf_reset G (xs (i + 1)) (xs (i + 2))) SC1 SM1 H locs ls ⟨(wf_reset hw (xs (i + 1)) (xs (i + 2))), hec1, hem1, hG⟩ hl
set_option maxHeartbeats 4000000 in
set_option maxRecDepth 100000 in
theorem law_c1 {p : Program} {l : Launch} {e : Env} {s : State} {m : MethodId} {below : List Frame} {meth : Method} {c : Code} {H : Heap} {locs : List Loc} {Q : State → Prop} {D : va_G} {cy : ClassId} {hc hm : Nat → Nat} {b L i : Nat} {xs : Nat → Int32} {ls : Array Slot} {G : GN} {SC SM : GS} (C : lcx p s m c b L xs) (hi : i + 5 ≤ L) (hw0 : lwW s D cy hc hm G SC SM H locs) (hl : lv_has ls 8 (lwl b i hc hm))
    (kk : ∀ (G : GN) (SC SM : GS) (H : Heap) (locs : List Loc) (ls : Array Slot), lwW s D cy hc hm G SC SM H locs → lv_has ls 8 (lwl b i hc hm) → W p l e room_1 s m #[Value.ref b] below meth c H locs 24 1627 Q (F0 m 1028 ls [])) : W p l e room_1 s m #[Value.ref b] below meth c H locs 24 1627 Q (F0 m 185 ls []) := by
  obtain ⟨hw, hec, hem, hG⟩ := hw0
  obtain ⟨hx, hb, hml, hown, hts, hX, hbl, hL⟩ := id C
  refine lv_aload_n hx hb dL_law_185 rfl (lv_at hl 1 rfl) ?_
  refine s_ld C hG.2.2.2.1 hl 0 3 rfl rfl 1 (by omega) rfl dL_law_186 dL_law_187 dL_law_188 dL_law_189 dL_law_190 ?_
  refine s_ld C hG.2.2.2.1 hl 0 3 rfl rfl 2 (by omega) rfl dL_law_191 dL_law_192 dL_law_193 dL_law_194 dL_law_195 ?_
  refine s_ld C hG.2.2.2.1 hl 0 3 rfl rfl 3 (by omega) rfl dL_law_196 dL_law_197 dL_law_198 dL_law_199 dL_law_200 ?_
  refine g_calli wC_adr hG (g_runV (As := [.int (xs (i + 1)), .int (xs (i + 2)), .int (xs (i + 3))]) (rest := []) ⟨hx, hb, hml, hown, hts⟩ wC_adr (kX1_lay G SC hw hec (xs (i + 1)) (xs (i + 2)) (xs (i + 3))) wyX1_lay q155 hG 0 rfl rfl ⟨Nat.le_of_ble_eq_true rfl, Nat.le_of_ble_eq_true rfl⟩ rfl rfl hl.1 (Nat.le_of_ble_eq_true rfl) ⟨Nat.le_of_ble_eq_true rfl, Nat.le_of_ble_eq_true rfl⟩ dL_law_201) (fun r1 SC1 H locs hp hG => ?_)
  obtain ⟨rfl, hec1⟩ := hp
  replace hG := sw1 hG
  refine lv_aload_n hx hb dL_law_204 rfl (lv_at hl 2 rfl) ?_
  refine s_ld C hG.2.2.2.1 hl 0 3 rfl rfl 1 (by omega) rfl dL_law_205 dL_law_206 dL_law_207 dL_law_208 dL_law_209 ?_
  refine s_ld C hG.2.2.2.1 hl 0 3 rfl rfl 2 (by omega) rfl dL_law_210 dL_law_211 dL_law_212 dL_law_213 dL_law_214 ?_
  refine s_ld C hG.2.2.2.1 hl 0 3 rfl rfl 3 (by omega) rfl dL_law_215 dL_law_216 dL_law_217 dL_law_218 dL_law_219 ?_
  refine g_calli wM_adr hG (g_runV (As := [.int (xs (i + 1)), .int (xs (i + 2)), .int (xs (i + 3))]) (rest := [.int (F_lay G (xs (i + 1)) (xs (i + 2)) (xs (i + 3)))]) ⟨hx, hb, hml, hown, hts⟩ wM_adr (kX2_lay G SM hw hem (xs (i + 1)) (xs (i + 2)) (xs (i + 3))) wyX2_lay q481 hG 0 rfl rfl ⟨Nat.le_of_ble_eq_true rfl, Nat.le_of_ble_eq_true rfl⟩ rfl rfl hl.1 (Nat.le_of_ble_eq_true rfl) ⟨Nat.le_of_ble_eq_true rfl, Nat.le_of_ble_eq_true rfl⟩ dL_law_220) (fun r2 SM1 H locs hp hG => ?_)
  obtain ⟨rfl, hem1⟩ := hp
  replace hG := sw2 hG
  refine lv_icmp_eq (tgt := 1028) hx hb dL_law_223 (by decide) (fun _ => ?_) (fun c9 => absurd rfl c9)
  exact kk (Tf_lay G (xs (i + 1)) (xs (i + 2)) (xs (i + 3))) SC1 SM1 H locs ls ⟨(wf_lay hw (xs (i + 1)) (xs (i + 2)) (xs (i + 3))), hec1, hem1, hG⟩ hl
set_option maxHeartbeats 4000000 in
set_option maxRecDepth 100000 in
theorem law_c2 {p : Program} {l : Launch} {e : Env} {s : State} {m : MethodId} {below : List Frame} {meth : Method} {c : Code} {H : Heap} {locs : List Loc} {Q : State → Prop} {D : va_G} {cy : ClassId} {hc hm : Nat → Nat} {b L i : Nat} {xs : Nat → Int32} {ls : Array Slot} {G : GN} {SC SM : GS} (C : lcx p s m c b L xs) (hi : i + 5 ≤ L) (hw0 : lwW s D cy hc hm G SC SM H locs) (hl : lv_has ls 8 (lwl b i hc hm))
    (kk : ∀ (G : GN) (SC SM : GS) (H : Heap) (locs : List Loc) (ls : Array Slot), lwW s D cy hc hm G SC SM H locs → lv_has ls 8 (lwl b i hc hm) → W p l e room_1 s m #[Value.ref b] below meth c H locs 24 1627 Q (F0 m 1028 ls [])) : W p l e room_1 s m #[Value.ref b] below meth c H locs 24 1627 Q (F0 m 228 ls []) := by
  obtain ⟨hw, hec, hem, hG⟩ := hw0
  obtain ⟨hx, hb, hml, hown, hts, hX, hbl, hL⟩ := id C
  refine lv_aload_n hx hb dL_law_228 rfl (lv_at hl 1 rfl) ?_
  refine s_ld C hG.2.2.2.1 hl 0 3 rfl rfl 1 (by omega) rfl dL_law_229 dL_law_230 dL_law_231 dL_law_232 dL_law_233 ?_
  refine s_ld C hG.2.2.2.1 hl 0 3 rfl rfl 2 (by omega) rfl dL_law_234 dL_law_235 dL_law_236 dL_law_237 dL_law_238 ?_
  refine s_ld C hG.2.2.2.1 hl 0 3 rfl rfl 3 (by omega) rfl dL_law_239 dL_law_240 dL_law_241 dL_law_242 dL_law_243 ?_
  refine g_calli wC_adr hG (g_runV (As := [.int (xs (i + 1)), .int (xs (i + 2)), .int (xs (i + 3))]) (rest := []) ⟨hx, hb, hml, hown, hts⟩ wC_adr (kX1_plant G SC hw hec (xs (i + 1)) (xs (i + 2)) (xs (i + 3))) wyX1_plant q177 hG 0 rfl rfl ⟨Nat.le_of_ble_eq_true rfl, Nat.le_of_ble_eq_true rfl⟩ rfl rfl hl.1 (Nat.le_of_ble_eq_true rfl) ⟨Nat.le_of_ble_eq_true rfl, Nat.le_of_ble_eq_true rfl⟩ dL_law_244) (fun r1 SC1 H locs hp hG => ?_)
  obtain ⟨rfl, hec1⟩ := hp
  replace hG := sw1 hG
  refine lv_aload_n hx hb dL_law_247 rfl (lv_at hl 2 rfl) ?_
  refine s_ld C hG.2.2.2.1 hl 0 3 rfl rfl 1 (by omega) rfl dL_law_248 dL_law_249 dL_law_250 dL_law_251 dL_law_252 ?_
  refine s_ld C hG.2.2.2.1 hl 0 3 rfl rfl 2 (by omega) rfl dL_law_253 dL_law_254 dL_law_255 dL_law_256 dL_law_257 ?_
  refine s_ld C hG.2.2.2.1 hl 0 3 rfl rfl 3 (by omega) rfl dL_law_258 dL_law_259 dL_law_260 dL_law_261 dL_law_262 ?_
  refine g_calli wM_adr hG (g_runV (As := [.int (xs (i + 1)), .int (xs (i + 2)), .int (xs (i + 3))]) (rest := [.int (F_plant G (xs (i + 1)) (xs (i + 2)) (xs (i + 3)))]) ⟨hx, hb, hml, hown, hts⟩ wM_adr (kX2_plant G SM hw hem (xs (i + 1)) (xs (i + 2)) (xs (i + 3))) wyX2_plant q489 hG 0 rfl rfl ⟨Nat.le_of_ble_eq_true rfl, Nat.le_of_ble_eq_true rfl⟩ rfl rfl hl.1 (Nat.le_of_ble_eq_true rfl) ⟨Nat.le_of_ble_eq_true rfl, Nat.le_of_ble_eq_true rfl⟩ dL_law_263) (fun r2 SM1 H locs hp hG => ?_)
  obtain ⟨rfl, hem1⟩ := hp
  replace hG := sw2 hG
  refine lv_icmp_eq (tgt := 1028) hx hb dL_law_266 (by decide) (fun _ => ?_) (fun c9 => absurd rfl c9)
  exact kk (Tf_plant G (xs (i + 1)) (xs (i + 2)) (xs (i + 3))) SC1 SM1 H locs ls ⟨(wf_plant hw (xs (i + 1)) (xs (i + 2)) (xs (i + 3))), hec1, hem1, hG⟩ hl
set_option maxHeartbeats 4000000 in
set_option maxRecDepth 100000 in
theorem law_c3 {p : Program} {l : Launch} {e : Env} {s : State} {m : MethodId} {below : List Frame} {meth : Method} {c : Code} {H : Heap} {locs : List Loc} {Q : State → Prop} {D : va_G} {cy : ClassId} {hc hm : Nat → Nat} {b L i : Nat} {xs : Nat → Int32} {ls : Array Slot} {G : GN} {SC SM : GS} (C : lcx p s m c b L xs) (hi : i + 5 ≤ L) (hw0 : lwW s D cy hc hm G SC SM H locs) (hl : lv_has ls 8 (lwl b i hc hm))
    (kk : ∀ (G : GN) (SC SM : GS) (H : Heap) (locs : List Loc) (ls : Array Slot), lwW s D cy hc hm G SC SM H locs → lv_has ls 8 (lwl b i hc hm) → W p l e room_1 s m #[Value.ref b] below meth c H locs 24 1627 Q (F0 m 1028 ls [])) : W p l e room_1 s m #[Value.ref b] below meth c H locs 24 1627 Q (F0 m 271 ls []) := by
  obtain ⟨hw, hec, hem, hG⟩ := hw0
  obtain ⟨hx, hb, hml, hown, hts, hX, hbl, hL⟩ := id C
  refine lv_aload_n hx hb dL_law_271 rfl (lv_at hl 1 rfl) ?_
  refine s_ld C hG.2.2.2.1 hl 0 3 rfl rfl 1 (by omega) rfl dL_law_272 dL_law_273 dL_law_274 dL_law_275 dL_law_276 ?_
  refine s_ld C hG.2.2.2.1 hl 0 3 rfl rfl 2 (by omega) rfl dL_law_277 dL_law_278 dL_law_279 dL_law_280 dL_law_281 ?_
  refine s_ld C hG.2.2.2.1 hl 0 3 rfl rfl 3 (by omega) rfl dL_law_282 dL_law_283 dL_law_284 dL_law_285 dL_law_286 ?_
  refine s_ld C hG.2.2.2.1 hl 0 3 rfl rfl 4 (by omega) rfl dL_law_287 dL_law_288 dL_law_289 dL_law_290 dL_law_291 ?_
  refine g_calli wC_adr hG (g_runV (As := [.int (xs (i + 1)), .int (xs (i + 2)), .int (xs (i + 3)), .int (xs (i + 4))]) (rest := []) ⟨hx, hb, hml, hown, hts⟩ wC_adr (kX1_addFeature G SC hw hec (xs (i + 1)) (xs (i + 2)) (xs (i + 3)) (xs (i + 4))) wyX1_addFeature q181 hG 0 rfl rfl ⟨Nat.le_of_ble_eq_true rfl, Nat.le_of_ble_eq_true rfl⟩ rfl rfl hl.1 (Nat.le_of_ble_eq_true rfl) ⟨Nat.le_of_ble_eq_true rfl, Nat.le_of_ble_eq_true rfl⟩ dL_law_292) (fun r1 SC1 H locs hp hG => ?_)
  obtain ⟨rfl, hec1⟩ := hp
  replace hG := sw1 hG
  refine lv_aload_n hx hb dL_law_295 rfl (lv_at hl 2 rfl) ?_
  refine s_ld C hG.2.2.2.1 hl 0 3 rfl rfl 1 (by omega) rfl dL_law_296 dL_law_297 dL_law_298 dL_law_299 dL_law_300 ?_
  refine s_ld C hG.2.2.2.1 hl 0 3 rfl rfl 2 (by omega) rfl dL_law_301 dL_law_302 dL_law_303 dL_law_304 dL_law_305 ?_
  refine s_ld C hG.2.2.2.1 hl 0 3 rfl rfl 3 (by omega) rfl dL_law_306 dL_law_307 dL_law_308 dL_law_309 dL_law_310 ?_
  refine s_ld C hG.2.2.2.1 hl 0 3 rfl rfl 4 (by omega) rfl dL_law_311 dL_law_312 dL_law_313 dL_law_314 dL_law_315 ?_
  refine g_calli wM_adr hG (g_runV (As := [.int (xs (i + 1)), .int (xs (i + 2)), .int (xs (i + 3)), .int (xs (i + 4))]) (rest := [.int (F_add G (xs (i + 1)) (xs (i + 2)) (xs (i + 3)) (xs (i + 4)))]) ⟨hx, hb, hml, hown, hts⟩ wM_adr (kX2_addFeature G SM hw hem (xs (i + 1)) (xs (i + 2)) (xs (i + 3)) (xs (i + 4))) wyX2_addFeature q493 hG 0 rfl rfl ⟨Nat.le_of_ble_eq_true rfl, Nat.le_of_ble_eq_true rfl⟩ rfl rfl hl.1 (Nat.le_of_ble_eq_true rfl) ⟨Nat.le_of_ble_eq_true rfl, Nat.le_of_ble_eq_true rfl⟩ dL_law_316) (fun r2 SM1 H locs hp hG => ?_)
  obtain ⟨rfl, hem1⟩ := hp
  replace hG := sw2 hG
  refine lv_icmp_eq (tgt := 1028) hx hb dL_law_319 (by decide) (fun _ => ?_) (fun c9 => absurd rfl c9)
  exact kk (Tf_add G (xs (i + 1)) (xs (i + 2)) (xs (i + 3)) (xs (i + 4))) SC1 SM1 H locs ls ⟨(wf_add hw (xs (i + 1)) (xs (i + 2)) (xs (i + 3)) (xs (i + 4))), hec1, hem1, hG⟩ hl
set_option maxHeartbeats 4000000 in
set_option maxRecDepth 100000 in
theorem law_c4 {p : Program} {l : Launch} {e : Env} {s : State} {m : MethodId} {below : List Frame} {meth : Method} {c : Code} {H : Heap} {locs : List Loc} {Q : State → Prop} {D : va_G} {cy : ClassId} {hc hm : Nat → Nat} {b L i : Nat} {xs : Nat → Int32} {ls : Array Slot} {G : GN} {SC SM : GS} (C : lcx p s m c b L xs) (hi : i + 5 ≤ L) (hw0 : lwW s D cy hc hm G SC SM H locs) (hl : lv_has ls 8 (lwl b i hc hm))
    (kk : ∀ (G : GN) (SC SM : GS) (H : Heap) (locs : List Loc) (ls : Array Slot), lwW s D cy hc hm G SC SM H locs → lv_has ls 8 (lwl b i hc hm) → W p l e room_1 s m #[Value.ref b] below meth c H locs 24 1627 Q (F0 m 1028 ls [])) : W p l e room_1 s m #[Value.ref b] below meth c H locs 24 1627 Q (F0 m 324 ls []) := by
  obtain ⟨hw, hec, hem, hG⟩ := hw0
  obtain ⟨hx, hb, hml, hown, hts, hX, hbl, hL⟩ := id C
  refine lv_aload_n hx hb dL_law_324 rfl (lv_at hl 1 rfl) ?_
  refine s_ld C hG.2.2.2.1 hl 0 3 rfl rfl 1 (by omega) rfl dL_law_325 dL_law_326 dL_law_327 dL_law_328 dL_law_329 ?_
  refine s_ld C hG.2.2.2.1 hl 0 3 rfl rfl 2 (by omega) rfl dL_law_330 dL_law_331 dL_law_332 dL_law_333 dL_law_334 ?_
  refine g_calli wC_adr hG (g_runV (As := [.int (xs (i + 1)), .int (xs (i + 2))]) (rest := []) ⟨hx, hb, hml, hown, hts⟩ wC_adr (kX1_kind G SC hw hec (xs (i + 1)) (xs (i + 2))) wyX1_kind q185 hG 0 rfl rfl ⟨Nat.le_of_ble_eq_true rfl, Nat.le_of_ble_eq_true rfl⟩ rfl rfl hl.1 (Nat.le_of_ble_eq_true rfl) ⟨Nat.le_of_ble_eq_true rfl, Nat.le_of_ble_eq_true rfl⟩ dL_law_335) (fun r1 SC1 H locs hp hG => ?_)
  obtain ⟨rfl, hf1⟩ := hp
  have hec1 := hec.fr hf1
  replace hG := sw1 hG
  refine lv_aload_n hx hb dL_law_338 rfl (lv_at hl 2 rfl) ?_
  refine s_ld C hG.2.2.2.1 hl 0 3 rfl rfl 1 (by omega) rfl dL_law_339 dL_law_340 dL_law_341 dL_law_342 dL_law_343 ?_
  refine s_ld C hG.2.2.2.1 hl 0 3 rfl rfl 2 (by omega) rfl dL_law_344 dL_law_345 dL_law_346 dL_law_347 dL_law_348 ?_
  refine g_calli wM_adr hG (g_runV (As := [.int (xs (i + 1)), .int (xs (i + 2))]) (rest := [.int (F_kind G (xs (i + 1)) (xs (i + 2)))]) ⟨hx, hb, hml, hown, hts⟩ wM_adr (kX2_kind G SM hw hem (xs (i + 1)) (xs (i + 2))) wyX2_kind q497 hG 0 rfl rfl ⟨Nat.le_of_ble_eq_true rfl, Nat.le_of_ble_eq_true rfl⟩ rfl rfl hl.1 (Nat.le_of_ble_eq_true rfl) ⟨Nat.le_of_ble_eq_true rfl, Nat.le_of_ble_eq_true rfl⟩ dL_law_349) (fun r2 SM1 H locs hp hG => ?_)
  obtain ⟨rfl, hem1⟩ := hp
  replace hG := sw2 hG
  refine lv_icmp_eq (tgt := 1028) hx hb dL_law_352 (by decide) (fun _ => ?_) (fun c9 => absurd rfl c9)
  exact kk G SC1 SM1 H locs ls ⟨hw, hec1, hem1, hG⟩ hl
set_option maxHeartbeats 4000000 in
set_option maxRecDepth 100000 in
theorem law_c5 {p : Program} {l : Launch} {e : Env} {s : State} {m : MethodId} {below : List Frame} {meth : Method} {c : Code} {H : Heap} {locs : List Loc} {Q : State → Prop} {D : va_G} {cy : ClassId} {hc hm : Nat → Nat} {b L i : Nat} {xs : Nat → Int32} {ls : Array Slot} {G : GN} {SC SM : GS} (C : lcx p s m c b L xs) (hi : i + 5 ≤ L) (hw0 : lwW s D cy hc hm G SC SM H locs) (hl : lv_has ls 8 (lwl b i hc hm))
    (kk : ∀ (G : GN) (SC SM : GS) (H : Heap) (locs : List Loc) (ls : Array Slot), lwW s D cy hc hm G SC SM H locs → lv_has ls 8 (lwl b i hc hm) → W p l e room_1 s m #[Value.ref b] below meth c H locs 24 1627 Q (F0 m 1028 ls [])) : W p l e room_1 s m #[Value.ref b] below meth c H locs 24 1627 Q (F0 m 357 ls []) := by
  obtain ⟨hw, hec, hem, hG⟩ := hw0
  obtain ⟨hx, hb, hml, hown, hts, hX, hbl, hL⟩ := id C
  refine lv_aload_n hx hb dL_law_357 rfl (lv_at hl 1 rfl) ?_
  refine s_ld C hG.2.2.2.1 hl 0 3 rfl rfl 1 (by omega) rfl dL_law_358 dL_law_359 dL_law_360 dL_law_361 dL_law_362 ?_
  refine s_ld C hG.2.2.2.1 hl 0 3 rfl rfl 2 (by omega) rfl dL_law_363 dL_law_364 dL_law_365 dL_law_366 dL_law_367 ?_
  refine g_calli wC_adr hG (g_runV (As := [.int (xs (i + 1)), .int (xs (i + 2))]) (rest := []) ⟨hx, hb, hml, hown, hts⟩ wC_adr (kX1_height G SC hw hec (xs (i + 1)) (xs (i + 2))) wyX1_height q189 hG 0 rfl rfl ⟨Nat.le_of_ble_eq_true rfl, Nat.le_of_ble_eq_true rfl⟩ rfl rfl hl.1 (Nat.le_of_ble_eq_true rfl) ⟨Nat.le_of_ble_eq_true rfl, Nat.le_of_ble_eq_true rfl⟩ dL_law_368) (fun r1 SC1 H locs hp hG => ?_)
  obtain ⟨rfl, hf1⟩ := hp
  have hec1 := hec.fr hf1
  replace hG := sw1 hG
  refine lv_aload_n hx hb dL_law_371 rfl (lv_at hl 2 rfl) ?_
  refine s_ld C hG.2.2.2.1 hl 0 3 rfl rfl 1 (by omega) rfl dL_law_372 dL_law_373 dL_law_374 dL_law_375 dL_law_376 ?_
  refine s_ld C hG.2.2.2.1 hl 0 3 rfl rfl 2 (by omega) rfl dL_law_377 dL_law_378 dL_law_379 dL_law_380 dL_law_381 ?_
  refine g_calli wM_adr hG (g_runV (As := [.int (xs (i + 1)), .int (xs (i + 2))]) (rest := [.int (F_height G (xs (i + 1)) (xs (i + 2)))]) ⟨hx, hb, hml, hown, hts⟩ wM_adr (kX2_height G SM hw hem (xs (i + 1)) (xs (i + 2))) wyX2_height q501 hG 0 rfl rfl ⟨Nat.le_of_ble_eq_true rfl, Nat.le_of_ble_eq_true rfl⟩ rfl rfl hl.1 (Nat.le_of_ble_eq_true rfl) ⟨Nat.le_of_ble_eq_true rfl, Nat.le_of_ble_eq_true rfl⟩ dL_law_382) (fun r2 SM1 H locs hp hG => ?_)
  obtain ⟨rfl, hem1⟩ := hp
  replace hG := sw2 hG
  refine lv_icmp_eq (tgt := 1028) hx hb dL_law_385 (by decide) (fun _ => ?_) (fun c9 => absurd rfl c9)
  exact kk G SC1 SM1 H locs ls ⟨hw, hec1, hem1, hG⟩ hl
set_option maxHeartbeats 4000000 in
set_option maxRecDepth 100000 in
theorem law_c6 {p : Program} {l : Launch} {e : Env} {s : State} {m : MethodId} {below : List Frame} {meth : Method} {c : Code} {H : Heap} {locs : List Loc} {Q : State → Prop} {D : va_G} {cy : ClassId} {hc hm : Nat → Nat} {b L i : Nat} {xs : Nat → Int32} {ls : Array Slot} {G : GN} {SC SM : GS} (C : lcx p s m c b L xs) (hi : i + 5 ≤ L) (hw0 : lwW s D cy hc hm G SC SM H locs) (hl : lv_has ls 8 (lwl b i hc hm))
    (kk : ∀ (G : GN) (SC SM : GS) (H : Heap) (locs : List Loc) (ls : Array Slot), lwW s D cy hc hm G SC SM H locs → lv_has ls 8 (lwl b i hc hm) → W p l e room_1 s m #[Value.ref b] below meth c H locs 24 1627 Q (F0 m 1028 ls [])) : W p l e room_1 s m #[Value.ref b] below meth c H locs 24 1627 Q (F0 m 390 ls []) := by
  obtain ⟨hw, hec, hem, hG⟩ := hw0
  obtain ⟨hx, hb, hml, hown, hts, hX, hbl, hL⟩ := id C
  refine lv_aload_n hx hb dL_law_390 rfl (lv_at hl 1 rfl) ?_
  refine s_ld C hG.2.2.2.1 hl 0 3 rfl rfl 1 (by omega) rfl dL_law_391 dL_law_392 dL_law_393 dL_law_394 dL_law_395 ?_
  refine g_calli wC_adr hG (g_runV (As := [.int (xs (i + 1))]) (rest := []) ⟨hx, hb, hml, hown, hts⟩ wC_adr (kX1_count G SC hw hec (xs (i + 1))) wyX1_count q193 hG 0 rfl rfl ⟨Nat.le_of_ble_eq_true rfl, Nat.le_of_ble_eq_true rfl⟩ rfl rfl hl.1 (Nat.le_of_ble_eq_true rfl) ⟨Nat.le_of_ble_eq_true rfl, Nat.le_of_ble_eq_true rfl⟩ dL_law_396) (fun r1 SC1 H locs hp hG => ?_)
  obtain ⟨rfl, hS1⟩ := hp
  have hec1 : encC G SC1 := by rw [hS1]; exact hec
  replace hG := sw1 hG
  refine lv_aload_n hx hb dL_law_399 rfl (lv_at hl 2 rfl) ?_
  refine s_ld C hG.2.2.2.1 hl 0 3 rfl rfl 1 (by omega) rfl dL_law_400 dL_law_401 dL_law_402 dL_law_403 dL_law_404 ?_
  refine g_calli wM_adr hG (g_runV (As := [.int (xs (i + 1))]) (rest := [.int (F_count G (xs (i + 1)))]) ⟨hx, hb, hml, hown, hts⟩ wM_adr (kX2_count G SM hw hem (xs (i + 1))) wyX2_count q505 hG 0 rfl rfl ⟨Nat.le_of_ble_eq_true rfl, Nat.le_of_ble_eq_true rfl⟩ rfl rfl hl.1 (Nat.le_of_ble_eq_true rfl) ⟨Nat.le_of_ble_eq_true rfl, Nat.le_of_ble_eq_true rfl⟩ dL_law_405) (fun r2 SM1 H locs hp hG => ?_)
  obtain ⟨rfl, hem1⟩ := hp
  replace hG := sw2 hG
  refine lv_icmp_eq (tgt := 1028) hx hb dL_law_408 (by decide) (fun _ => ?_) (fun c9 => absurd rfl c9)
  exact kk G SC1 SM1 H locs ls ⟨hw, hec1, hem1, hG⟩ hl
set_option maxHeartbeats 4000000 in
set_option maxRecDepth 100000 in
theorem law_c7 {p : Program} {l : Launch} {e : Env} {s : State} {m : MethodId} {below : List Frame} {meth : Method} {c : Code} {H : Heap} {locs : List Loc} {Q : State → Prop} {D : va_G} {cy : ClassId} {hc hm : Nat → Nat} {b L i : Nat} {xs : Nat → Int32} {ls : Array Slot} {G : GN} {SC SM : GS} (C : lcx p s m c b L xs) (hi : i + 5 ≤ L) (hw0 : lwW s D cy hc hm G SC SM H locs) (hl : lv_has ls 8 (lwl b i hc hm))
    (kk : ∀ (G : GN) (SC SM : GS) (H : Heap) (locs : List Loc) (ls : Array Slot), lwW s D cy hc hm G SC SM H locs → lv_has ls 8 (lwl b i hc hm) → W p l e room_1 s m #[Value.ref b] below meth c H locs 24 1627 Q (F0 m 1028 ls [])) : W p l e room_1 s m #[Value.ref b] below meth c H locs 24 1627 Q (F0 m 413 ls []) := by
  obtain ⟨hw, hec, hem, hG⟩ := hw0
  obtain ⟨hx, hb, hml, hown, hts, hX, hbl, hL⟩ := id C
  refine lv_aload_n hx hb dL_law_413 rfl (lv_at hl 1 rfl) ?_
  refine s_ld C hG.2.2.2.1 hl 0 3 rfl rfl 1 (by omega) rfl dL_law_414 dL_law_415 dL_law_416 dL_law_417 dL_law_418 ?_
  refine s_ld C hG.2.2.2.1 hl 0 3 rfl rfl 2 (by omega) rfl dL_law_419 dL_law_420 dL_law_421 dL_law_422 dL_law_423 ?_
  refine s_ld C hG.2.2.2.1 hl 0 3 rfl rfl 3 (by omega) rfl dL_law_424 dL_law_425 dL_law_426 dL_law_427 dL_law_428 ?_
  refine g_calli wC_adr hG (g_runV (As := [.int (xs (i + 1)), .int (xs (i + 2)), .int (xs (i + 3))]) (rest := []) ⟨hx, hb, hml, hown, hts⟩ wC_adr (kX1_sees G SC hw hec (xs (i + 1)) (xs (i + 2)) (xs (i + 3))) wyX1_sees q201 hG 0 rfl rfl ⟨Nat.le_of_ble_eq_true rfl, Nat.le_of_ble_eq_true rfl⟩ rfl rfl hl.1 (Nat.le_of_ble_eq_true rfl) ⟨Nat.le_of_ble_eq_true rfl, Nat.le_of_ble_eq_true rfl⟩ dL_law_429) (fun r1 SC1 H locs hp hG => ?_)
  obtain ⟨rfl, hf1⟩ := hp
  have hec1 := hec.fr hf1
  replace hG := sw1 hG
  refine lv_aload_n hx hb dL_law_432 rfl (lv_at hl 2 rfl) ?_
  refine s_ld C hG.2.2.2.1 hl 0 3 rfl rfl 1 (by omega) rfl dL_law_433 dL_law_434 dL_law_435 dL_law_436 dL_law_437 ?_
  refine s_ld C hG.2.2.2.1 hl 0 3 rfl rfl 2 (by omega) rfl dL_law_438 dL_law_439 dL_law_440 dL_law_441 dL_law_442 ?_
  refine s_ld C hG.2.2.2.1 hl 0 3 rfl rfl 3 (by omega) rfl dL_law_443 dL_law_444 dL_law_445 dL_law_446 dL_law_447 ?_
  refine g_calli wM_adr hG (g_runV (As := [.int (xs (i + 1)), .int (xs (i + 2)), .int (xs (i + 3))]) (rest := [.int (F_sees G (xs (i + 1)) (xs (i + 2)) (xs (i + 3)))]) ⟨hx, hb, hml, hown, hts⟩ wM_adr (kX2_sees G SM hw hem (xs (i + 1)) (xs (i + 2)) (xs (i + 3))) wyX2_sees q513 hG 0 rfl rfl ⟨Nat.le_of_ble_eq_true rfl, Nat.le_of_ble_eq_true rfl⟩ rfl rfl hl.1 (Nat.le_of_ble_eq_true rfl) ⟨Nat.le_of_ble_eq_true rfl, Nat.le_of_ble_eq_true rfl⟩ dL_law_448) (fun r2 SM1 H locs hp hG => ?_)
  obtain ⟨rfl, hem1⟩ := hp
  replace hG := sw2 hG
  refine lv_icmp_eq (tgt := 1028) hx hb dL_law_451 (by decide) (fun _ => ?_) (fun c9 => absurd rfl c9)
  exact kk G SC1 SM1 H locs ls ⟨hw, hec1, hem1, hG⟩ hl
set_option maxHeartbeats 4000000 in
set_option maxRecDepth 100000 in
theorem law_c8 {p : Program} {l : Launch} {e : Env} {s : State} {m : MethodId} {below : List Frame} {meth : Method} {c : Code} {H : Heap} {locs : List Loc} {Q : State → Prop} {D : va_G} {cy : ClassId} {hc hm : Nat → Nat} {b L i : Nat} {xs : Nat → Int32} {ls : Array Slot} {G : GN} {SC SM : GS} (C : lcx p s m c b L xs) (hi : i + 5 ≤ L) (hw0 : lwW s D cy hc hm G SC SM H locs) (hl : lv_has ls 8 (lwl b i hc hm))
    (kk : ∀ (G : GN) (SC SM : GS) (H : Heap) (locs : List Loc) (ls : Array Slot), lwW s D cy hc hm G SC SM H locs → lv_has ls 8 (lwl b i hc hm) → W p l e room_1 s m #[Value.ref b] below meth c H locs 24 1627 Q (F0 m 1028 ls [])) : W p l e room_1 s m #[Value.ref b] below meth c H locs 24 1627 Q (F0 m 456 ls []) := by
  obtain ⟨hw, hec, hem, hG⟩ := hw0
  obtain ⟨hx, hb, hml, hown, hts, hX, hbl, hL⟩ := id C
  refine lv_aload_n hx hb dL_law_456 rfl (lv_at hl 1 rfl) ?_
  refine s_ld C hG.2.2.2.1 hl 0 3 rfl rfl 1 (by omega) rfl dL_law_457 dL_law_458 dL_law_459 dL_law_460 dL_law_461 ?_
  refine s_ld C hG.2.2.2.1 hl 0 3 rfl rfl 2 (by omega) rfl dL_law_462 dL_law_463 dL_law_464 dL_law_465 dL_law_466 ?_
  refine g_calli wC_adr hG (g_runV (As := [.int (xs (i + 1)), .int (xs (i + 2))]) (rest := []) ⟨hx, hb, hml, hown, hts⟩ wC_adr (kX1_seen G SC hw hec (xs (i + 1)) (xs (i + 2))) wyX1_seen q275 hG 0 rfl rfl ⟨Nat.le_of_ble_eq_true rfl, Nat.le_of_ble_eq_true rfl⟩ rfl rfl hl.1 (Nat.le_of_ble_eq_true rfl) ⟨Nat.le_of_ble_eq_true rfl, Nat.le_of_ble_eq_true rfl⟩ dL_law_467) (fun r1 SC1 H locs hp hG => ?_)
  obtain ⟨rfl, hf1⟩ := hp
  have hec1 := hec.fr hf1
  replace hG := sw1 hG
  refine lv_aload_n hx hb dL_law_470 rfl (lv_at hl 2 rfl) ?_
  refine s_ld C hG.2.2.2.1 hl 0 3 rfl rfl 1 (by omega) rfl dL_law_471 dL_law_472 dL_law_473 dL_law_474 dL_law_475 ?_
  refine s_ld C hG.2.2.2.1 hl 0 3 rfl rfl 2 (by omega) rfl dL_law_476 dL_law_477 dL_law_478 dL_law_479 dL_law_480 ?_
  refine g_calli wM_adr hG (g_runV (As := [.int (xs (i + 1)), .int (xs (i + 2))]) (rest := [.int (F_seen G (xs (i + 1)) (xs (i + 2)))]) ⟨hx, hb, hml, hown, hts⟩ wM_adr (kX2_seen G SM hw hem (xs (i + 1)) (xs (i + 2))) wyX2_seen q563 hG 0 rfl rfl ⟨Nat.le_of_ble_eq_true rfl, Nat.le_of_ble_eq_true rfl⟩ rfl rfl hl.1 (Nat.le_of_ble_eq_true rfl) ⟨Nat.le_of_ble_eq_true rfl, Nat.le_of_ble_eq_true rfl⟩ dL_law_481) (fun r2 SM1 H locs hp hG => ?_)
  obtain ⟨rfl, hem1⟩ := hp
  replace hG := sw2 hG
  refine lv_icmp_eq (tgt := 1028) hx hb dL_law_484 (by decide) (fun _ => ?_) (fun c9 => absurd rfl c9)
  exact kk G SC1 SM1 H locs ls ⟨hw, hec1, hem1, hG⟩ hl
set_option maxHeartbeats 4000000 in
set_option maxRecDepth 100000 in
theorem law_c9 {p : Program} {l : Launch} {e : Env} {s : State} {m : MethodId} {below : List Frame} {meth : Method} {c : Code} {H : Heap} {locs : List Loc} {Q : State → Prop} {D : va_G} {cy : ClassId} {hc hm : Nat → Nat} {b L i : Nat} {xs : Nat → Int32} {ls : Array Slot} {G : GN} {SC SM : GS} (C : lcx p s m c b L xs) (hi : i + 5 ≤ L) (hw0 : lwW s D cy hc hm G SC SM H locs) (hl : lv_has ls 8 (lwl b i hc hm))
    (kk : ∀ (G : GN) (SC SM : GS) (H : Heap) (locs : List Loc) (ls : Array Slot), lwW s D cy hc hm G SC SM H locs → lv_has ls 8 (lwl b i hc hm) → W p l e room_1 s m #[Value.ref b] below meth c H locs 24 1627 Q (F0 m 1028 ls [])) : W p l e room_1 s m #[Value.ref b] below meth c H locs 24 1627 Q (F0 m 489 ls []) := by
  obtain ⟨hw, hec, hem, hG⟩ := hw0
  obtain ⟨hx, hb, hml, hown, hts, hX, hbl, hL⟩ := id C
  refine lv_aload_n hx hb dL_law_489 rfl (lv_at hl 1 rfl) ?_
  refine s_ld C hG.2.2.2.1 hl 0 3 rfl rfl 1 (by omega) rfl dL_law_490 dL_law_491 dL_law_492 dL_law_493 dL_law_494 ?_
  refine s_ld C hG.2.2.2.1 hl 0 3 rfl rfl 2 (by omega) rfl dL_law_495 dL_law_496 dL_law_497 dL_law_498 dL_law_499 ?_
  refine s_ld C hG.2.2.2.1 hl 0 3 rfl rfl 3 (by omega) rfl dL_law_500 dL_law_501 dL_law_502 dL_law_503 dL_law_504 ?_
  refine g_calli wC_adr hG (g_runV (As := [.int (xs (i + 1)), .int (xs (i + 2)), .int (xs (i + 3))]) (rest := []) ⟨hx, hb, hml, hown, hts⟩ wC_adr (kX1_blockers G SC hw hec (xs (i + 1)) (xs (i + 2)) (xs (i + 3))) wyX1_blockers q283 hG 0 rfl rfl ⟨Nat.le_of_ble_eq_true rfl, Nat.le_of_ble_eq_true rfl⟩ rfl rfl hl.1 (Nat.le_of_ble_eq_true rfl) ⟨Nat.le_of_ble_eq_true rfl, Nat.le_of_ble_eq_true rfl⟩ dL_law_505) (fun r1 SC1 H locs hp hG => ?_)
  obtain ⟨rfl, hf1⟩ := hp
  have hec1 := hec.fr hf1
  replace hG := sw1 hG
  refine lv_aload_n hx hb dL_law_508 rfl (lv_at hl 2 rfl) ?_
  refine s_ld C hG.2.2.2.1 hl 0 3 rfl rfl 1 (by omega) rfl dL_law_509 dL_law_510 dL_law_511 dL_law_512 dL_law_513 ?_
  refine s_ld C hG.2.2.2.1 hl 0 3 rfl rfl 2 (by omega) rfl dL_law_514 dL_law_515 dL_law_516 dL_law_517 dL_law_518 ?_
  refine s_ld C hG.2.2.2.1 hl 0 3 rfl rfl 3 (by omega) rfl dL_law_519 dL_law_520 dL_law_521 dL_law_522 dL_law_523 ?_
  refine g_calli wM_adr hG (g_runV (As := [.int (xs (i + 1)), .int (xs (i + 2)), .int (xs (i + 3))]) (rest := [.int (F_blockers G (xs (i + 1)) (xs (i + 2)) (xs (i + 3)))]) ⟨hx, hb, hml, hown, hts⟩ wM_adr (kX2_blockers G SM hw hem (xs (i + 1)) (xs (i + 2)) (xs (i + 3))) wyX2_blockers q575 hG 0 rfl rfl ⟨Nat.le_of_ble_eq_true rfl, Nat.le_of_ble_eq_true rfl⟩ rfl rfl hl.1 (Nat.le_of_ble_eq_true rfl) ⟨Nat.le_of_ble_eq_true rfl, Nat.le_of_ble_eq_true rfl⟩ dL_law_524) (fun r2 SM1 H locs hp hG => ?_)
  obtain ⟨rfl, hem1⟩ := hp
  replace hG := sw2 hG
  refine lv_icmp_eq (tgt := 1028) hx hb dL_law_527 (by decide) (fun _ => ?_) (fun c9 => absurd rfl c9)
  exact kk G SC1 SM1 H locs ls ⟨hw, hec1, hem1, hG⟩ hl
set_option maxHeartbeats 4000000 in
set_option maxRecDepth 100000 in
theorem law_c10 {p : Program} {l : Launch} {e : Env} {s : State} {m : MethodId} {below : List Frame} {meth : Method} {c : Code} {H : Heap} {locs : List Loc} {Q : State → Prop} {D : va_G} {cy : ClassId} {hc hm : Nat → Nat} {b L i : Nat} {xs : Nat → Int32} {ls : Array Slot} {G : GN} {SC SM : GS} (C : lcx p s m c b L xs) (hi : i + 5 ≤ L) (hw0 : lwW s D cy hc hm G SC SM H locs) (hl : lv_has ls 8 (lwl b i hc hm))
    (kk : ∀ (G : GN) (SC SM : GS) (H : Heap) (locs : List Loc) (ls : Array Slot), lwW s D cy hc hm G SC SM H locs → lv_has ls 8 (lwl b i hc hm) → W p l e room_1 s m #[Value.ref b] below meth c H locs 24 1627 Q (F0 m 1028 ls [])) : W p l e room_1 s m #[Value.ref b] below meth c H locs 24 1627 Q (F0 m 532 ls []) := by
  obtain ⟨hw, hec, hem, hG⟩ := hw0
  obtain ⟨hx, hb, hml, hown, hts, hX, hbl, hL⟩ := id C
  refine lv_aload_n hx hb dL_law_532 rfl (lv_at hl 1 rfl) ?_
  refine s_ld C hG.2.2.2.1 hl 0 3 rfl rfl 1 (by omega) rfl dL_law_533 dL_law_534 dL_law_535 dL_law_536 dL_law_537 ?_
  refine s_ld C hG.2.2.2.1 hl 0 3 rfl rfl 2 (by omega) rfl dL_law_538 dL_law_539 dL_law_540 dL_law_541 dL_law_542 ?_
  refine s_ld C hG.2.2.2.1 hl 0 3 rfl rfl 3 (by omega) rfl dL_law_543 dL_law_544 dL_law_545 dL_law_546 dL_law_547 ?_
  refine g_calli wC_adr hG (g_runV (As := [.int (xs (i + 1)), .int (xs (i + 2)), .int (xs (i + 3))]) (rest := []) ⟨hx, hb, hml, hown, hts⟩ wC_adr (kX1_clipCost G SC hw hec (xs (i + 1)) (xs (i + 2)) (xs (i + 3))) wyX1_clipCost q287 hG 0 rfl rfl ⟨Nat.le_of_ble_eq_true rfl, Nat.le_of_ble_eq_true rfl⟩ rfl rfl hl.1 (Nat.le_of_ble_eq_true rfl) ⟨Nat.le_of_ble_eq_true rfl, Nat.le_of_ble_eq_true rfl⟩ dL_law_548) (fun r1 SC1 H locs hp hG => ?_)
  obtain ⟨rfl, hf1⟩ := hp
  have hec1 := hec.fr2 hf1
  replace hG := sw1 hG
  refine lv_aload_n hx hb dL_law_551 rfl (lv_at hl 2 rfl) ?_
  refine s_ld C hG.2.2.2.1 hl 0 3 rfl rfl 1 (by omega) rfl dL_law_552 dL_law_553 dL_law_554 dL_law_555 dL_law_556 ?_
  refine s_ld C hG.2.2.2.1 hl 0 3 rfl rfl 2 (by omega) rfl dL_law_557 dL_law_558 dL_law_559 dL_law_560 dL_law_561 ?_
  refine s_ld C hG.2.2.2.1 hl 0 3 rfl rfl 3 (by omega) rfl dL_law_562 dL_law_563 dL_law_564 dL_law_565 dL_law_566 ?_
  refine g_calli wM_adr hG (g_runV (As := [.int (xs (i + 1)), .int (xs (i + 2)), .int (xs (i + 3))]) (rest := [.int (F_clipCost G (xs (i + 1)) (xs (i + 2)) (xs (i + 3)))]) ⟨hx, hb, hml, hown, hts⟩ wM_adr (kX2_clipCost G SM hw hem (xs (i + 1)) (xs (i + 2)) (xs (i + 3))) wyX2_clipCost q579 hG 0 rfl rfl ⟨Nat.le_of_ble_eq_true rfl, Nat.le_of_ble_eq_true rfl⟩ rfl rfl hl.1 (Nat.le_of_ble_eq_true rfl) ⟨Nat.le_of_ble_eq_true rfl, Nat.le_of_ble_eq_true rfl⟩ dL_law_567) (fun r2 SM1 H locs hp hG => ?_)
  obtain ⟨rfl, hem1⟩ := hp
  replace hG := sw2 hG
  refine lv_icmp_eq (tgt := 1028) hx hb dL_law_570 (by decide) (fun _ => ?_) (fun c9 => absurd rfl c9)
  exact kk G SC1 SM1 H locs ls ⟨hw, hec1, hem1, hG⟩ hl
set_option maxHeartbeats 4000000 in
set_option maxRecDepth 100000 in
theorem law_c11 {p : Program} {l : Launch} {e : Env} {s : State} {m : MethodId} {below : List Frame} {meth : Method} {c : Code} {H : Heap} {locs : List Loc} {Q : State → Prop} {D : va_G} {cy : ClassId} {hc hm : Nat → Nat} {b L i : Nat} {xs : Nat → Int32} {ls : Array Slot} {G : GN} {SC SM : GS} (C : lcx p s m c b L xs) (hi : i + 5 ≤ L) (hw0 : lwW s D cy hc hm G SC SM H locs) (hl : lv_has ls 8 (lwl b i hc hm))
    (kk : ∀ (G : GN) (SC SM : GS) (H : Heap) (locs : List Loc) (ls : Array Slot), lwW s D cy hc hm G SC SM H locs → lv_has ls 8 (lwl b i hc hm) → W p l e room_1 s m #[Value.ref b] below meth c H locs 24 1627 Q (F0 m 1028 ls [])) : W p l e room_1 s m #[Value.ref b] below meth c H locs 24 1627 Q (F0 m 575 ls []) := by
  obtain ⟨hw, hec, hem, hG⟩ := hw0
  obtain ⟨hx, hb, hml, hown, hts, hX, hbl, hL⟩ := id C
  refine lv_aload_n hx hb dL_law_575 rfl (lv_at hl 1 rfl) ?_
  refine s_ld C hG.2.2.2.1 hl 0 3 rfl rfl 1 (by omega) rfl dL_law_576 dL_law_577 dL_law_578 dL_law_579 dL_law_580 ?_
  refine s_ld C hG.2.2.2.1 hl 0 3 rfl rfl 2 (by omega) rfl dL_law_581 dL_law_582 dL_law_583 dL_law_584 dL_law_585 ?_
  refine s_ld C hG.2.2.2.1 hl 0 3 rfl rfl 3 (by omega) rfl dL_law_586 dL_law_587 dL_law_588 dL_law_589 dL_law_590 ?_
  refine g_calli wC_adr hG (g_runV (As := [.int (xs (i + 1)), .int (xs (i + 2)), .int (xs (i + 3))]) (rest := []) ⟨hx, hb, hml, hown, hts⟩ wC_adr (kX1_clip G SC hw hec (xs (i + 1)) (xs (i + 2)) (xs (i + 3))) wyX1_clip q302 hG 0 rfl rfl ⟨Nat.le_of_ble_eq_true rfl, Nat.le_of_ble_eq_true rfl⟩ rfl rfl hl.1 (Nat.le_of_ble_eq_true rfl) ⟨Nat.le_of_ble_eq_true rfl, Nat.le_of_ble_eq_true rfl⟩ dL_law_591) (fun r1 SC1 H locs hp hG => ?_)
  obtain ⟨rfl, hec1⟩ := hp
  replace hG := sw1 hG
  refine lv_aload_n hx hb dL_law_594 rfl (lv_at hl 2 rfl) ?_
  refine s_ld C hG.2.2.2.1 hl 0 3 rfl rfl 1 (by omega) rfl dL_law_595 dL_law_596 dL_law_597 dL_law_598 dL_law_599 ?_
  refine s_ld C hG.2.2.2.1 hl 0 3 rfl rfl 2 (by omega) rfl dL_law_600 dL_law_601 dL_law_602 dL_law_603 dL_law_604 ?_
  refine s_ld C hG.2.2.2.1 hl 0 3 rfl rfl 3 (by omega) rfl dL_law_605 dL_law_606 dL_law_607 dL_law_608 dL_law_609 ?_
  refine g_calli wM_adr hG (g_runV (As := [.int (xs (i + 1)), .int (xs (i + 2)), .int (xs (i + 3))]) (rest := [.int (F_clip G (xs (i + 1)) (xs (i + 2)) (xs (i + 3)))]) ⟨hx, hb, hml, hown, hts⟩ wM_adr (kX2_clip G SM hw hem (xs (i + 1)) (xs (i + 2)) (xs (i + 3))) wyX2_clip q587 hG 0 rfl rfl ⟨Nat.le_of_ble_eq_true rfl, Nat.le_of_ble_eq_true rfl⟩ rfl rfl hl.1 (Nat.le_of_ble_eq_true rfl) ⟨Nat.le_of_ble_eq_true rfl, Nat.le_of_ble_eq_true rfl⟩ dL_law_610) (fun r2 SM1 H locs hp hG => ?_)
  obtain ⟨rfl, hem1⟩ := hp
  replace hG := sw2 hG
  refine lv_icmp_eq (tgt := 1028) hx hb dL_law_613 (by decide) (fun _ => ?_) (fun c9 => absurd rfl c9)
  exact kk (Tf_clip G (xs (i + 1)) (xs (i + 2)) (xs (i + 3))) SC1 SM1 H locs ls ⟨(wf_Tclip hw (xs (i + 1)) (xs (i + 2)) (xs (i + 3))), hec1, hem1, hG⟩ hl
set_option maxHeartbeats 4000000 in
set_option maxRecDepth 100000 in
theorem law_c12 {p : Program} {l : Launch} {e : Env} {s : State} {m : MethodId} {below : List Frame} {meth : Method} {c : Code} {H : Heap} {locs : List Loc} {Q : State → Prop} {D : va_G} {cy : ClassId} {hc hm : Nat → Nat} {b L i : Nat} {xs : Nat → Int32} {ls : Array Slot} {G : GN} {SC SM : GS} (C : lcx p s m c b L xs) (hi : i + 5 ≤ L) (hw0 : lwW s D cy hc hm G SC SM H locs) (hl : lv_has ls 8 (lwl b i hc hm))
    (kk : ∀ (G : GN) (SC SM : GS) (H : Heap) (locs : List Loc) (ls : Array Slot), lwW s D cy hc hm G SC SM H locs → lv_has ls 8 (lwl b i hc hm) → W p l e room_1 s m #[Value.ref b] below meth c H locs 24 1627 Q (F0 m 1028 ls [])) : W p l e room_1 s m #[Value.ref b] below meth c H locs 24 1627 Q (F0 m 618 ls []) := by
  obtain ⟨hw, hec, hem, hG⟩ := hw0
  obtain ⟨hx, hb, hml, hown, hts, hX, hbl, hL⟩ := id C
  refine lv_aload_n hx hb dL_law_618 rfl (lv_at hl 1 rfl) ?_
  refine s_ld C hG.2.2.2.1 hl 0 3 rfl rfl 1 (by omega) rfl dL_law_619 dL_law_620 dL_law_621 dL_law_622 dL_law_623 ?_
  refine s_ld C hG.2.2.2.1 hl 0 3 rfl rfl 2 (by omega) rfl dL_law_624 dL_law_625 dL_law_626 dL_law_627 dL_law_628 ?_
  refine s_ld C hG.2.2.2.1 hl 0 3 rfl rfl 3 (by omega) rfl dL_law_629 dL_law_630 dL_law_631 dL_law_632 dL_law_633 ?_
  refine g_calli wC_adr hG (g_runV (As := [.int (xs (i + 1)), .int (xs (i + 2)), .int (xs (i + 3))]) (rest := []) ⟨hx, hb, hml, hown, hts⟩ wC_adr (kX1_opening G SC hw hec (xs (i + 1)) (xs (i + 2)) (xs (i + 3))) wyX1_opening q310 hG 0 rfl rfl ⟨Nat.le_of_ble_eq_true rfl, Nat.le_of_ble_eq_true rfl⟩ rfl rfl hl.1 (Nat.le_of_ble_eq_true rfl) ⟨Nat.le_of_ble_eq_true rfl, Nat.le_of_ble_eq_true rfl⟩ dL_law_634) (fun r1 SC1 H locs hp hG => ?_)
  obtain ⟨rfl, hf1⟩ := hp
  have hec1 := hec.fr hf1
  replace hG := sw1 hG
  refine lv_aload_n hx hb dL_law_637 rfl (lv_at hl 2 rfl) ?_
  refine s_ld C hG.2.2.2.1 hl 0 3 rfl rfl 1 (by omega) rfl dL_law_638 dL_law_639 dL_law_640 dL_law_641 dL_law_642 ?_
  refine s_ld C hG.2.2.2.1 hl 0 3 rfl rfl 2 (by omega) rfl dL_law_643 dL_law_644 dL_law_645 dL_law_646 dL_law_647 ?_
  refine s_ld C hG.2.2.2.1 hl 0 3 rfl rfl 3 (by omega) rfl dL_law_648 dL_law_649 dL_law_650 dL_law_651 dL_law_652 ?_
  refine g_calli wM_adr hG (g_runV (As := [.int (xs (i + 1)), .int (xs (i + 2)), .int (xs (i + 3))]) (rest := [.int (F_opening G (xs (i + 1)) (xs (i + 2)) (xs (i + 3)))]) ⟨hx, hb, hml, hown, hts⟩ wM_adr (kX2_opening G SM hw hem (xs (i + 1)) (xs (i + 2)) (xs (i + 3))) wyX2_opening q591 hG 0 rfl rfl ⟨Nat.le_of_ble_eq_true rfl, Nat.le_of_ble_eq_true rfl⟩ rfl rfl hl.1 (Nat.le_of_ble_eq_true rfl) ⟨Nat.le_of_ble_eq_true rfl, Nat.le_of_ble_eq_true rfl⟩ dL_law_653) (fun r2 SM1 H locs hp hG => ?_)
  obtain ⟨rfl, hem1⟩ := hp
  replace hG := sw2 hG
  refine lv_icmp_eq (tgt := 1028) hx hb dL_law_656 (by decide) (fun _ => ?_) (fun c9 => absurd rfl c9)
  exact kk G SC1 SM1 H locs ls ⟨hw, hec1, hem1, hG⟩ hl
set_option maxHeartbeats 4000000 in
set_option maxRecDepth 100000 in
theorem law_c13 {p : Program} {l : Launch} {e : Env} {s : State} {m : MethodId} {below : List Frame} {meth : Method} {c : Code} {H : Heap} {locs : List Loc} {Q : State → Prop} {D : va_G} {cy : ClassId} {hc hm : Nat → Nat} {b L i : Nat} {xs : Nat → Int32} {ls : Array Slot} {G : GN} {SC SM : GS} (C : lcx p s m c b L xs) (hi : i + 5 ≤ L) (hw0 : lwW s D cy hc hm G SC SM H locs) (hl : lv_has ls 8 (lwl b i hc hm))
    (kk : ∀ (G : GN) (SC SM : GS) (H : Heap) (locs : List Loc) (ls : Array Slot), lwW s D cy hc hm G SC SM H locs → lv_has ls 8 (lwl b i hc hm) → W p l e room_1 s m #[Value.ref b] below meth c H locs 24 1627 Q (F0 m 1028 ls [])) : W p l e room_1 s m #[Value.ref b] below meth c H locs 24 1627 Q (F0 m 661 ls []) := by
  obtain ⟨hw, hec, hem, hG⟩ := hw0
  obtain ⟨hx, hb, hml, hown, hts, hX, hbl, hL⟩ := id C
  refine lv_aload_n hx hb dL_law_661 rfl (lv_at hl 1 rfl) ?_
  refine s_ld C hG.2.2.2.1 hl 0 3 rfl rfl 1 (by omega) rfl dL_law_662 dL_law_663 dL_law_664 dL_law_665 dL_law_666 ?_
  refine s_ld C hG.2.2.2.1 hl 0 3 rfl rfl 2 (by omega) rfl dL_law_667 dL_law_668 dL_law_669 dL_law_670 dL_law_671 ?_
  refine g_calli wC_adr hG (g_runV (As := [.int (xs (i + 1)), .int (xs (i + 2))]) (rest := []) ⟨hx, hb, hml, hown, hts⟩ wC_adr (kX1_walkTo G SC hw hec (xs (i + 1)) (xs (i + 2))) wyX1_walkTo q314 hG 0 rfl rfl ⟨Nat.le_of_ble_eq_true rfl, Nat.le_of_ble_eq_true rfl⟩ rfl rfl hl.1 (Nat.le_of_ble_eq_true rfl) ⟨Nat.le_of_ble_eq_true rfl, Nat.le_of_ble_eq_true rfl⟩ dL_law_672) (fun r1 SC1 H locs hp hG => ?_)
  obtain ⟨rfl, hec1⟩ := hp
  replace hG := sw1 hG
  refine lv_aload_n hx hb dL_law_675 rfl (lv_at hl 2 rfl) ?_
  refine s_ld C hG.2.2.2.1 hl 0 3 rfl rfl 1 (by omega) rfl dL_law_676 dL_law_677 dL_law_678 dL_law_679 dL_law_680 ?_
  refine s_ld C hG.2.2.2.1 hl 0 3 rfl rfl 2 (by omega) rfl dL_law_681 dL_law_682 dL_law_683 dL_law_684 dL_law_685 ?_
  refine g_calli wM_adr hG (g_runV (As := [.int (xs (i + 1)), .int (xs (i + 2))]) (rest := [.int (F_walkTo G (xs (i + 1)) (xs (i + 2)))]) ⟨hx, hb, hml, hown, hts⟩ wM_adr (kX2_walkTo G SM hw hem (xs (i + 1)) (xs (i + 2))) wyX2_walkTo q595 hG 0 rfl rfl ⟨Nat.le_of_ble_eq_true rfl, Nat.le_of_ble_eq_true rfl⟩ rfl rfl hl.1 (Nat.le_of_ble_eq_true rfl) ⟨Nat.le_of_ble_eq_true rfl, Nat.le_of_ble_eq_true rfl⟩ dL_law_686) (fun r2 SM1 H locs hp hG => ?_)
  obtain ⟨rfl, hem1⟩ := hp
  replace hG := sw2 hG
  refine lv_icmp_eq (tgt := 1028) hx hb dL_law_689 (by decide) (fun _ => ?_) (fun c9 => absurd rfl c9)
  exact kk (Tf_walkTo G (xs (i + 1)) (xs (i + 2))) SC1 SM1 H locs ls ⟨(wf_walkTo hw (xs (i + 1)) (xs (i + 2))), hec1, hem1, hG⟩ hl
set_option maxHeartbeats 4000000 in
set_option maxRecDepth 100000 in
theorem law_c14 {p : Program} {l : Launch} {e : Env} {s : State} {m : MethodId} {below : List Frame} {meth : Method} {c : Code} {H : Heap} {locs : List Loc} {Q : State → Prop} {D : va_G} {cy : ClassId} {hc hm : Nat → Nat} {b L i : Nat} {xs : Nat → Int32} {ls : Array Slot} {G : GN} {SC SM : GS} (C : lcx p s m c b L xs) (hi : i + 5 ≤ L) (hw0 : lwW s D cy hc hm G SC SM H locs) (hl : lv_has ls 8 (lwl b i hc hm))
    (kk : ∀ (G : GN) (SC SM : GS) (H : Heap) (locs : List Loc) (ls : Array Slot), lwW s D cy hc hm G SC SM H locs → lv_has ls 8 (lwl b i hc hm) → W p l e room_1 s m #[Value.ref b] below meth c H locs 24 1627 Q (F0 m 1028 ls [])) : W p l e room_1 s m #[Value.ref b] below meth c H locs 24 1627 Q (F0 m 694 ls []) := by
  obtain ⟨hw, hec, hem, hG⟩ := hw0
  obtain ⟨hx, hb, hml, hown, hts, hX, hbl, hL⟩ := id C
  refine lv_aload_n hx hb dL_law_694 rfl (lv_at hl 1 rfl) ?_
  refine s_ld C hG.2.2.2.1 hl 0 3 rfl rfl 1 (by omega) rfl dL_law_695 dL_law_696 dL_law_697 dL_law_698 dL_law_699 ?_
  refine g_calli wC_adr hG (g_runV (As := [.int (xs (i + 1))]) (rest := []) ⟨hx, hb, hml, hown, hts⟩ wC_adr (kX1_walkBack G SC hw hec (xs (i + 1))) wyX1_walkBack q324 hG 0 rfl rfl ⟨Nat.le_of_ble_eq_true rfl, Nat.le_of_ble_eq_true rfl⟩ rfl rfl hl.1 (Nat.le_of_ble_eq_true rfl) ⟨Nat.le_of_ble_eq_true rfl, Nat.le_of_ble_eq_true rfl⟩ dL_law_700) (fun r1 SC1 H locs hp hG => ?_)
  obtain ⟨rfl, hec1⟩ := hp
  replace hG := sw1 hG
  refine lv_aload_n hx hb dL_law_703 rfl (lv_at hl 2 rfl) ?_
  refine s_ld C hG.2.2.2.1 hl 0 3 rfl rfl 1 (by omega) rfl dL_law_704 dL_law_705 dL_law_706 dL_law_707 dL_law_708 ?_
  refine g_calli wM_adr hG (g_runV (As := [.int (xs (i + 1))]) (rest := [.int (F_walkBack G (xs (i + 1)))]) ⟨hx, hb, hml, hown, hts⟩ wM_adr (kX2_walkBack G SM hw hem (xs (i + 1))) wyX2_walkBack q599 hG 0 rfl rfl ⟨Nat.le_of_ble_eq_true rfl, Nat.le_of_ble_eq_true rfl⟩ rfl rfl hl.1 (Nat.le_of_ble_eq_true rfl) ⟨Nat.le_of_ble_eq_true rfl, Nat.le_of_ble_eq_true rfl⟩ dL_law_709) (fun r2 SM1 H locs hp hG => ?_)
  obtain ⟨rfl, hem1⟩ := hp
  replace hG := sw2 hG
  refine lv_icmp_eq (tgt := 1028) hx hb dL_law_712 (by decide) (fun _ => ?_) (fun c9 => absurd rfl c9)
  exact kk (Tf_walkBack G (xs (i + 1))) SC1 SM1 H locs ls ⟨(wf_walkBack hw (xs (i + 1))), hec1, hem1, hG⟩ hl
set_option maxHeartbeats 4000000 in
set_option maxRecDepth 100000 in
theorem law_c15 {p : Program} {l : Launch} {e : Env} {s : State} {m : MethodId} {below : List Frame} {meth : Method} {c : Code} {H : Heap} {locs : List Loc} {Q : State → Prop} {D : va_G} {cy : ClassId} {hc hm : Nat → Nat} {b L i : Nat} {xs : Nat → Int32} {ls : Array Slot} {G : GN} {SC SM : GS} (C : lcx p s m c b L xs) (hi : i + 5 ≤ L) (hw0 : lwW s D cy hc hm G SC SM H locs) (hl : lv_has ls 8 (lwl b i hc hm))
    (kk : ∀ (G : GN) (SC SM : GS) (H : Heap) (locs : List Loc) (ls : Array Slot), lwW s D cy hc hm G SC SM H locs → lv_has ls 8 (lwl b i hc hm) → W p l e room_1 s m #[Value.ref b] below meth c H locs 24 1627 Q (F0 m 1028 ls [])) : W p l e room_1 s m #[Value.ref b] below meth c H locs 24 1627 Q (F0 m 717 ls []) := by
  obtain ⟨hw, hec, hem, hG⟩ := hw0
  obtain ⟨hx, hb, hml, hown, hts, hX, hbl, hL⟩ := id C
  refine lv_aload_n hx hb dL_law_717 rfl (lv_at hl 1 rfl) ?_
  refine s_ld C hG.2.2.2.1 hl 0 3 rfl rfl 1 (by omega) rfl dL_law_718 dL_law_719 dL_law_720 dL_law_721 dL_law_722 ?_
  refine g_calli wC_adr hG (g_runV (As := [.int (xs (i + 1))]) (rest := []) ⟨hx, hb, hml, hown, hts⟩ wC_adr (kX1_appears G SC hw hec (xs (i + 1))) wyX1_appears q328 hG 0 rfl rfl ⟨Nat.le_of_ble_eq_true rfl, Nat.le_of_ble_eq_true rfl⟩ rfl rfl hl.1 (Nat.le_of_ble_eq_true rfl) ⟨Nat.le_of_ble_eq_true rfl, Nat.le_of_ble_eq_true rfl⟩ dL_law_723) (fun r1 SC1 H locs hp hG => ?_)
  obtain ⟨rfl, hf1⟩ := hp
  have hec1 := hec.fr hf1
  replace hG := sw1 hG
  refine lv_aload_n hx hb dL_law_726 rfl (lv_at hl 2 rfl) ?_
  refine s_ld C hG.2.2.2.1 hl 0 3 rfl rfl 1 (by omega) rfl dL_law_727 dL_law_728 dL_law_729 dL_law_730 dL_law_731 ?_
  refine g_calli wM_adr hG (g_runV (As := [.int (xs (i + 1))]) (rest := [.int (F_appears G (xs (i + 1)))]) ⟨hx, hb, hml, hown, hts⟩ wM_adr (kX2_appears G SM hw hem (xs (i + 1))) wyX2_appears q603 hG 0 rfl rfl ⟨Nat.le_of_ble_eq_true rfl, Nat.le_of_ble_eq_true rfl⟩ rfl rfl hl.1 (Nat.le_of_ble_eq_true rfl) ⟨Nat.le_of_ble_eq_true rfl, Nat.le_of_ble_eq_true rfl⟩ dL_law_732) (fun r2 SM1 H locs hp hG => ?_)
  obtain ⟨rfl, hem1⟩ := hp
  replace hG := sw2 hG
  refine lv_icmp_eq (tgt := 1028) hx hb dL_law_735 (by decide) (fun _ => ?_) (fun c9 => absurd rfl c9)
  exact kk G SC1 SM1 H locs ls ⟨hw, hec1, hem1, hG⟩ hl
set_option maxHeartbeats 4000000 in
set_option maxRecDepth 100000 in
theorem law_c16 {p : Program} {l : Launch} {e : Env} {s : State} {m : MethodId} {below : List Frame} {meth : Method} {c : Code} {H : Heap} {locs : List Loc} {Q : State → Prop} {D : va_G} {cy : ClassId} {hc hm : Nat → Nat} {b L i : Nat} {xs : Nat → Int32} {ls : Array Slot} {G : GN} {SC SM : GS} (C : lcx p s m c b L xs) (hi : i + 5 ≤ L) (hw0 : lwW s D cy hc hm G SC SM H locs) (hl : lv_has ls 8 (lwl b i hc hm))
    (kk : ∀ (G : GN) (SC SM : GS) (H : Heap) (locs : List Loc) (ls : Array Slot), lwW s D cy hc hm G SC SM H locs → lv_has ls 8 (lwl b i hc hm) → W p l e room_1 s m #[Value.ref b] below meth c H locs 24 1627 Q (F0 m 1028 ls [])) : W p l e room_1 s m #[Value.ref b] below meth c H locs 24 1627 Q (F0 m 740 ls []) := by
  obtain ⟨hw, hec, hem, hG⟩ := hw0
  obtain ⟨hx, hb, hml, hown, hts, hX, hbl, hL⟩ := id C
  refine lv_aload_n hx hb dL_law_740 rfl (lv_at hl 1 rfl) ?_
  refine s_ld C hG.2.2.2.1 hl 0 3 rfl rfl 1 (by omega) rfl dL_law_741 dL_law_742 dL_law_743 dL_law_744 dL_law_745 ?_
  refine g_calli wC_adr hG (g_runV (As := [.int (xs (i + 1))]) (rest := []) ⟨hx, hb, hml, hown, hts⟩ wC_adr (kX1_surprises G SC hw hec (xs (i + 1))) wyX1_surprises q336 hG 0 rfl rfl ⟨Nat.le_of_ble_eq_true rfl, Nat.le_of_ble_eq_true rfl⟩ rfl rfl hl.1 (Nat.le_of_ble_eq_true rfl) ⟨Nat.le_of_ble_eq_true rfl, Nat.le_of_ble_eq_true rfl⟩ dL_law_746) (fun r1 SC1 H locs hp hG => ?_)
  obtain ⟨rfl, hf1⟩ := hp
  have hec1 := hec.fr hf1
  replace hG := sw1 hG
  refine lv_aload_n hx hb dL_law_749 rfl (lv_at hl 2 rfl) ?_
  refine s_ld C hG.2.2.2.1 hl 0 3 rfl rfl 1 (by omega) rfl dL_law_750 dL_law_751 dL_law_752 dL_law_753 dL_law_754 ?_
  refine g_calli wM_adr hG (g_runV (As := [.int (xs (i + 1))]) (rest := [.int (F_surprises G (xs (i + 1)))]) ⟨hx, hb, hml, hown, hts⟩ wM_adr (kX2_surprises G SM hw hem (xs (i + 1))) wyX2_surprises q611 hG 0 rfl rfl ⟨Nat.le_of_ble_eq_true rfl, Nat.le_of_ble_eq_true rfl⟩ rfl rfl hl.1 (Nat.le_of_ble_eq_true rfl) ⟨Nat.le_of_ble_eq_true rfl, Nat.le_of_ble_eq_true rfl⟩ dL_law_755) (fun r2 SM1 H locs hp hG => ?_)
  obtain ⟨rfl, hem1⟩ := hp
  replace hG := sw2 hG
  refine lv_icmp_eq (tgt := 1028) hx hb dL_law_758 (by decide) (fun _ => ?_) (fun c9 => absurd rfl c9)
  exact kk G SC1 SM1 H locs ls ⟨hw, hec1, hem1, hG⟩ hl
set_option maxHeartbeats 4000000 in
set_option maxRecDepth 100000 in
theorem law_c17 {p : Program} {l : Launch} {e : Env} {s : State} {m : MethodId} {below : List Frame} {meth : Method} {c : Code} {H : Heap} {locs : List Loc} {Q : State → Prop} {D : va_G} {cy : ClassId} {hc hm : Nat → Nat} {b L i : Nat} {xs : Nat → Int32} {ls : Array Slot} {G : GN} {SC SM : GS} (C : lcx p s m c b L xs) (hi : i + 5 ≤ L) (hw0 : lwW s D cy hc hm G SC SM H locs) (hl : lv_has ls 8 (lwl b i hc hm))
    (kk : ∀ (G : GN) (SC SM : GS) (H : Heap) (locs : List Loc) (ls : Array Slot), lwW s D cy hc hm G SC SM H locs → lv_has ls 8 (lwl b i hc hm) → W p l e room_1 s m #[Value.ref b] below meth c H locs 24 1627 Q (F0 m 1028 ls [])) : W p l e room_1 s m #[Value.ref b] below meth c H locs 24 1627 Q (F0 m 763 ls []) := by
  obtain ⟨hw, hec, hem, hG⟩ := hw0
  obtain ⟨hx, hb, hml, hown, hts, hX, hbl, hL⟩ := id C
  refine lv_aload_n hx hb dL_law_763 rfl (lv_at hl 1 rfl) ?_
  refine s_ld C hG.2.2.2.1 hl 0 3 rfl rfl 1 (by omega) rfl dL_law_764 dL_law_765 dL_law_766 dL_law_767 dL_law_768 ?_
  refine g_calli wC_adr hG (g_runV (As := [.int (xs (i + 1))]) (rest := []) ⟨hx, hb, hml, hown, hts⟩ wC_adr (kX1_shown G SC hw hec (xs (i + 1))) wyX1_shown q340 hG 0 rfl rfl ⟨Nat.le_of_ble_eq_true rfl, Nat.le_of_ble_eq_true rfl⟩ rfl rfl hl.1 (Nat.le_of_ble_eq_true rfl) ⟨Nat.le_of_ble_eq_true rfl, Nat.le_of_ble_eq_true rfl⟩ dL_law_769) (fun r1 SC1 H locs hp hG => ?_)
  obtain ⟨rfl, hf1⟩ := hp
  have hec1 := hec.fr hf1
  replace hG := sw1 hG
  refine lv_aload_n hx hb dL_law_772 rfl (lv_at hl 2 rfl) ?_
  refine s_ld C hG.2.2.2.1 hl 0 3 rfl rfl 1 (by omega) rfl dL_law_773 dL_law_774 dL_law_775 dL_law_776 dL_law_777 ?_
  refine g_calli wM_adr hG (g_runV (As := [.int (xs (i + 1))]) (rest := [.int (F_shown G (xs (i + 1)))]) ⟨hx, hb, hml, hown, hts⟩ wM_adr (kX2_shown G SM hw hem (xs (i + 1))) wyX2_shown q615 hG 0 rfl rfl ⟨Nat.le_of_ble_eq_true rfl, Nat.le_of_ble_eq_true rfl⟩ rfl rfl hl.1 (Nat.le_of_ble_eq_true rfl) ⟨Nat.le_of_ble_eq_true rfl, Nat.le_of_ble_eq_true rfl⟩ dL_law_778) (fun r2 SM1 H locs hp hG => ?_)
  obtain ⟨rfl, hem1⟩ := hp
  replace hG := sw2 hG
  refine lv_icmp_eq (tgt := 1028) hx hb dL_law_781 (by decide) (fun _ => ?_) (fun c9 => absurd rfl c9)
  exact kk G SC1 SM1 H locs ls ⟨hw, hec1, hem1, hG⟩ hl
set_option maxHeartbeats 4000000 in
set_option maxRecDepth 100000 in
theorem law_c18 {p : Program} {l : Launch} {e : Env} {s : State} {m : MethodId} {below : List Frame} {meth : Method} {c : Code} {H : Heap} {locs : List Loc} {Q : State → Prop} {D : va_G} {cy : ClassId} {hc hm : Nat → Nat} {b L i : Nat} {xs : Nat → Int32} {ls : Array Slot} {G : GN} {SC SM : GS} (C : lcx p s m c b L xs) (hi : i + 5 ≤ L) (hw0 : lwW s D cy hc hm G SC SM H locs) (hl : lv_has ls 8 (lwl b i hc hm))
    (kk : ∀ (G : GN) (SC SM : GS) (H : Heap) (locs : List Loc) (ls : Array Slot), lwW s D cy hc hm G SC SM H locs → lv_has ls 8 (lwl b i hc hm) → W p l e room_1 s m #[Value.ref b] below meth c H locs 24 1627 Q (F0 m 1028 ls [])) : W p l e room_1 s m #[Value.ref b] below meth c H locs 24 1627 Q (F0 m 786 ls []) := by
  obtain ⟨hw, hec, hem, hG⟩ := hw0
  obtain ⟨hx, hb, hml, hown, hts, hX, hbl, hL⟩ := id C
  refine lv_aload_n hx hb dL_law_786 rfl (lv_at hl 1 rfl) ?_
  refine s_ld C hG.2.2.2.1 hl 0 3 rfl rfl 1 (by omega) rfl dL_law_787 dL_law_788 dL_law_789 dL_law_790 dL_law_791 ?_
  refine s_ld C hG.2.2.2.1 hl 0 3 rfl rfl 2 (by omega) rfl dL_law_792 dL_law_793 dL_law_794 dL_law_795 dL_law_796 ?_
  refine s_ld C hG.2.2.2.1 hl 0 3 rfl rfl 3 (by omega) rfl dL_law_797 dL_law_798 dL_law_799 dL_law_800 dL_law_801 ?_
  refine g_calli wC_adr hG (g_runV (As := [.int (xs (i + 1)), .int (xs (i + 2)), .int (xs (i + 3))]) (rest := []) ⟨hx, hb, hml, hown, hts⟩ wC_adr (kX1_wish G SC hw hec (xs (i + 1)) (xs (i + 2)) (xs (i + 3))) wyX1_wish q344 hG 0 rfl rfl ⟨Nat.le_of_ble_eq_true rfl, Nat.le_of_ble_eq_true rfl⟩ rfl rfl hl.1 (Nat.le_of_ble_eq_true rfl) ⟨Nat.le_of_ble_eq_true rfl, Nat.le_of_ble_eq_true rfl⟩ dL_law_802) (fun r1 SC1 H locs hp hG => ?_)
  obtain ⟨rfl, hec1⟩ := hp
  replace hG := sw1 hG
  refine lv_aload_n hx hb dL_law_805 rfl (lv_at hl 2 rfl) ?_
  refine s_ld C hG.2.2.2.1 hl 0 3 rfl rfl 1 (by omega) rfl dL_law_806 dL_law_807 dL_law_808 dL_law_809 dL_law_810 ?_
  refine s_ld C hG.2.2.2.1 hl 0 3 rfl rfl 2 (by omega) rfl dL_law_811 dL_law_812 dL_law_813 dL_law_814 dL_law_815 ?_
  refine s_ld C hG.2.2.2.1 hl 0 3 rfl rfl 3 (by omega) rfl dL_law_816 dL_law_817 dL_law_818 dL_law_819 dL_law_820 ?_
  refine g_calli wM_adr hG (g_runV (As := [.int (xs (i + 1)), .int (xs (i + 2)), .int (xs (i + 3))]) (rest := [.int (F_wish G (xs (i + 1)) (xs (i + 2)) (xs (i + 3)))]) ⟨hx, hb, hml, hown, hts⟩ wM_adr (kX2_wish G SM hw hem (xs (i + 1)) (xs (i + 2)) (xs (i + 3))) wyX2_wish q619 hG 0 rfl rfl ⟨Nat.le_of_ble_eq_true rfl, Nat.le_of_ble_eq_true rfl⟩ rfl rfl hl.1 (Nat.le_of_ble_eq_true rfl) ⟨Nat.le_of_ble_eq_true rfl, Nat.le_of_ble_eq_true rfl⟩ dL_law_821) (fun r2 SM1 H locs hp hG => ?_)
  obtain ⟨rfl, hem1⟩ := hp
  replace hG := sw2 hG
  refine lv_icmp_eq (tgt := 1028) hx hb dL_law_824 (by decide) (fun _ => ?_) (fun c9 => absurd rfl c9)
  exact kk (Tf_wish G (xs (i + 1)) (xs (i + 2)) (xs (i + 3))) SC1 SM1 H locs ls ⟨(wf_wish hw (xs (i + 1)) (xs (i + 2)) (xs (i + 3))), hec1, hem1, hG⟩ hl
set_option maxHeartbeats 4000000 in
set_option maxRecDepth 100000 in
theorem law_c19 {p : Program} {l : Launch} {e : Env} {s : State} {m : MethodId} {below : List Frame} {meth : Method} {c : Code} {H : Heap} {locs : List Loc} {Q : State → Prop} {D : va_G} {cy : ClassId} {hc hm : Nat → Nat} {b L i : Nat} {xs : Nat → Int32} {ls : Array Slot} {G : GN} {SC SM : GS} (C : lcx p s m c b L xs) (hi : i + 5 ≤ L) (hw0 : lwW s D cy hc hm G SC SM H locs) (hl : lv_has ls 8 (lwl b i hc hm))
    (kk : ∀ (G : GN) (SC SM : GS) (H : Heap) (locs : List Loc) (ls : Array Slot), lwW s D cy hc hm G SC SM H locs → lv_has ls 8 (lwl b i hc hm) → W p l e room_1 s m #[Value.ref b] below meth c H locs 24 1627 Q (F0 m 1028 ls [])) : W p l e room_1 s m #[Value.ref b] below meth c H locs 24 1627 Q (F0 m 829 ls []) := by
  obtain ⟨hw, hec, hem, hG⟩ := hw0
  obtain ⟨hx, hb, hml, hown, hts, hX, hbl, hL⟩ := id C
  refine lv_aload_n hx hb dL_law_829 rfl (lv_at hl 1 rfl) ?_
  refine g_calli wC_adr hG (g_runV (As := []) (rest := []) ⟨hx, hb, hml, hown, hts⟩ wC_adr (kX1_clearWishes G SC hw hec ) wyX1_clearWishes q348 hG 0 rfl rfl ⟨Nat.le_of_ble_eq_true rfl, Nat.le_of_ble_eq_true rfl⟩ rfl rfl hl.1 (Nat.le_of_ble_eq_true rfl) ⟨Nat.le_of_ble_eq_true rfl, Nat.le_of_ble_eq_true rfl⟩ dL_law_830) (fun r1 SC1 H locs hp hG => ?_)
  obtain ⟨rfl, hec1⟩ := hp
  replace hG := sw1 hG
  refine lv_aload_n hx hb dL_law_833 rfl (lv_at hl 2 rfl) ?_
  refine g_calli wM_adr hG (g_runV (As := []) (rest := [.int (nI (G 0 4))]) ⟨hx, hb, hml, hown, hts⟩ wM_adr (kX2_clearWishes G SM hw hem ) wyX2_clearWishes q623 hG 0 rfl rfl ⟨Nat.le_of_ble_eq_true rfl, Nat.le_of_ble_eq_true rfl⟩ rfl rfl hl.1 (Nat.le_of_ble_eq_true rfl) ⟨Nat.le_of_ble_eq_true rfl, Nat.le_of_ble_eq_true rfl⟩ dL_law_834) (fun r2 SM1 H locs hp hG => ?_)
  obtain ⟨rfl, hem1⟩ := hp
  replace hG := sw2 hG
  refine lv_icmp_eq (tgt := 1028) hx hb dL_law_837 (by decide) (fun _ => ?_) (fun c9 => absurd rfl c9)
  exact kk (T_clear G) SC1 SM1 H locs ls ⟨(wf_clear hw), hec1, hem1, hG⟩ hl
set_option maxHeartbeats 4000000 in
set_option maxRecDepth 100000 in
theorem law_c20 {p : Program} {l : Launch} {e : Env} {s : State} {m : MethodId} {below : List Frame} {meth : Method} {c : Code} {H : Heap} {locs : List Loc} {Q : State → Prop} {D : va_G} {cy : ClassId} {hc hm : Nat → Nat} {b L i : Nat} {xs : Nat → Int32} {ls : Array Slot} {G : GN} {SC SM : GS} (C : lcx p s m c b L xs) (hi : i + 5 ≤ L) (hw0 : lwW s D cy hc hm G SC SM H locs) (hl : lv_has ls 8 (lwl b i hc hm))
    (kk : ∀ (G : GN) (SC SM : GS) (H : Heap) (locs : List Loc) (ls : Array Slot), lwW s D cy hc hm G SC SM H locs → lv_has ls 8 (lwl b i hc hm) → W p l e room_1 s m #[Value.ref b] below meth c H locs 24 1627 Q (F0 m 1028 ls [])) : W p l e room_1 s m #[Value.ref b] below meth c H locs 24 1627 Q (F0 m 842 ls []) := by
  obtain ⟨hw, hec, hem, hG⟩ := hw0
  obtain ⟨hx, hb, hml, hown, hts, hX, hbl, hL⟩ := id C
  refine lv_aload_n hx hb dL_law_842 rfl (lv_at hl 1 rfl) ?_
  refine g_calli wC_adr hG (g_runV (As := []) (rest := []) ⟨hx, hb, hml, hown, hts⟩ wC_adr (kX1_wishCost G SC hw hec ) wyX1_wishCost q352 hG 0 rfl rfl ⟨Nat.le_of_ble_eq_true rfl, Nat.le_of_ble_eq_true rfl⟩ rfl rfl hl.1 (Nat.le_of_ble_eq_true rfl) ⟨Nat.le_of_ble_eq_true rfl, Nat.le_of_ble_eq_true rfl⟩ dL_law_843) (fun r1 SC1 H locs hp hG => ?_)
  obtain ⟨rfl, hf1⟩ := hp
  have hec1 := hec.fr2 hf1
  replace hG := sw1 hG
  refine lv_aload_n hx hb dL_law_846 rfl (lv_at hl 2 rfl) ?_
  refine g_calli wM_adr hG (g_runV (As := []) (rest := [.int (F_wishCost G)]) ⟨hx, hb, hml, hown, hts⟩ wM_adr (kX2_wishCost G SM hw hem ) wyX2_wishCost q627 hG 0 rfl rfl ⟨Nat.le_of_ble_eq_true rfl, Nat.le_of_ble_eq_true rfl⟩ rfl rfl hl.1 (Nat.le_of_ble_eq_true rfl) ⟨Nat.le_of_ble_eq_true rfl, Nat.le_of_ble_eq_true rfl⟩ dL_law_847) (fun r2 SM1 H locs hp hG => ?_)
  obtain ⟨rfl, hem1⟩ := hp
  replace hG := sw2 hG
  refine lv_icmp_eq (tgt := 1028) hx hb dL_law_850 (by decide) (fun _ => ?_) (fun c9 => absurd rfl c9)
  exact kk G SC1 SM1 H locs ls ⟨hw, hec1, hem1, hG⟩ hl
set_option maxHeartbeats 4000000 in
set_option maxRecDepth 100000 in
theorem law_c21 {p : Program} {l : Launch} {e : Env} {s : State} {m : MethodId} {below : List Frame} {meth : Method} {c : Code} {H : Heap} {locs : List Loc} {Q : State → Prop} {D : va_G} {cy : ClassId} {hc hm : Nat → Nat} {b L i : Nat} {xs : Nat → Int32} {ls : Array Slot} {G : GN} {SC SM : GS} (C : lcx p s m c b L xs) (hi : i + 5 ≤ L) (hw0 : lwW s D cy hc hm G SC SM H locs) (hl : lv_has ls 8 (lwl b i hc hm))
    (kk : ∀ (G : GN) (SC SM : GS) (H : Heap) (locs : List Loc) (ls : Array Slot), lwW s D cy hc hm G SC SM H locs → lv_has ls 8 (lwl b i hc hm) → W p l e room_1 s m #[Value.ref b] below meth c H locs 24 1627 Q (F0 m 1028 ls [])) : W p l e room_1 s m #[Value.ref b] below meth c H locs 24 1627 Q (F0 m 855 ls []) := by
  obtain ⟨hw, hec, hem, hG⟩ := hw0
  obtain ⟨hx, hb, hml, hown, hts, hX, hbl, hL⟩ := id C
  refine lv_aload_n hx hb dL_law_855 rfl (lv_at hl 1 rfl) ?_
  refine s_ld C hG.2.2.2.1 hl 0 3 rfl rfl 1 (by omega) rfl dL_law_856 dL_law_857 dL_law_858 dL_law_859 dL_law_860 ?_
  refine s_ld C hG.2.2.2.1 hl 0 3 rfl rfl 2 (by omega) rfl dL_law_861 dL_law_862 dL_law_863 dL_law_864 dL_law_865 ?_
  refine g_calli wC_adr hG (g_runV (As := [.int (xs (i + 1)), .int (xs (i + 2))]) (rest := []) ⟨hx, hb, hml, hown, hts⟩ wC_adr (kX1_wishHeight G SC hw hec (xs (i + 1)) (xs (i + 2))) wyX1_wishHeight q360 hG 0 rfl rfl ⟨Nat.le_of_ble_eq_true rfl, Nat.le_of_ble_eq_true rfl⟩ rfl rfl hl.1 (Nat.le_of_ble_eq_true rfl) ⟨Nat.le_of_ble_eq_true rfl, Nat.le_of_ble_eq_true rfl⟩ dL_law_866) (fun r1 SC1 H locs hp hG => ?_)
  obtain ⟨rfl, hf1⟩ := hp
  have hec1 := hec.fr2 hf1
  replace hG := sw1 hG
  refine lv_aload_n hx hb dL_law_869 rfl (lv_at hl 2 rfl) ?_
  refine s_ld C hG.2.2.2.1 hl 0 3 rfl rfl 1 (by omega) rfl dL_law_870 dL_law_871 dL_law_872 dL_law_873 dL_law_874 ?_
  refine s_ld C hG.2.2.2.1 hl 0 3 rfl rfl 2 (by omega) rfl dL_law_875 dL_law_876 dL_law_877 dL_law_878 dL_law_879 ?_
  refine g_calli wM_adr hG (g_runV (As := [.int (xs (i + 1)), .int (xs (i + 2))]) (rest := [.int (F_wishHeight G (xs (i + 1)) (xs (i + 2)))]) ⟨hx, hb, hml, hown, hts⟩ wM_adr (kX2_wishHeight G SM hw hem (xs (i + 1)) (xs (i + 2))) wyX2_wishHeight q635 hG 0 rfl rfl ⟨Nat.le_of_ble_eq_true rfl, Nat.le_of_ble_eq_true rfl⟩ rfl rfl hl.1 (Nat.le_of_ble_eq_true rfl) ⟨Nat.le_of_ble_eq_true rfl, Nat.le_of_ble_eq_true rfl⟩ dL_law_880) (fun r2 SM1 H locs hp hG => ?_)
  obtain ⟨rfl, hem1⟩ := hp
  replace hG := sw2 hG
  refine lv_icmp_eq (tgt := 1028) hx hb dL_law_883 (by decide) (fun _ => ?_) (fun c9 => absurd rfl c9)
  exact kk G SC1 SM1 H locs ls ⟨hw, hec1, hem1, hG⟩ hl
set_option maxHeartbeats 4000000 in
set_option maxRecDepth 100000 in
theorem law_c22 {p : Program} {l : Launch} {e : Env} {s : State} {m : MethodId} {below : List Frame} {meth : Method} {c : Code} {H : Heap} {locs : List Loc} {Q : State → Prop} {D : va_G} {cy : ClassId} {hc hm : Nat → Nat} {b L i : Nat} {xs : Nat → Int32} {ls : Array Slot} {G : GN} {SC SM : GS} (C : lcx p s m c b L xs) (hi : i + 5 ≤ L) (hw0 : lwW s D cy hc hm G SC SM H locs) (hl : lv_has ls 8 (lwl b i hc hm))
    (kk : ∀ (G : GN) (SC SM : GS) (H : Heap) (locs : List Loc) (ls : Array Slot), lwW s D cy hc hm G SC SM H locs → lv_has ls 8 (lwl b i hc hm) → W p l e room_1 s m #[Value.ref b] below meth c H locs 24 1627 Q (F0 m 1028 ls [])) : W p l e room_1 s m #[Value.ref b] below meth c H locs 24 1627 Q (F0 m 888 ls []) := by
  obtain ⟨hw, hec, hem, hG⟩ := hw0
  obtain ⟨hx, hb, hml, hown, hts, hX, hbl, hL⟩ := id C
  refine lv_aload_n hx hb dL_law_888 rfl (lv_at hl 1 rfl) ?_
  refine g_calli wC_adr hG (g_runV (As := []) (rest := []) ⟨hx, hb, hml, hown, hts⟩ wC_adr (kX1_spoiled G SC hw hec ) wyX1_spoiled q364 hG 0 rfl rfl ⟨Nat.le_of_ble_eq_true rfl, Nat.le_of_ble_eq_true rfl⟩ rfl rfl hl.1 (Nat.le_of_ble_eq_true rfl) ⟨Nat.le_of_ble_eq_true rfl, Nat.le_of_ble_eq_true rfl⟩ dL_law_889) (fun r1 SC1 H locs hp hG => ?_)
  obtain ⟨rfl, hf1⟩ := hp
  have hec1 := hec.fr2 hf1
  replace hG := sw1 hG
  refine lv_aload_n hx hb dL_law_892 rfl (lv_at hl 2 rfl) ?_
  refine g_calli wM_adr hG (g_runV (As := []) (rest := [.int (F_spoiled G)]) ⟨hx, hb, hml, hown, hts⟩ wM_adr (kX2_spoiled G SM hw hem ) wyX2_spoiled q639 hG 0 rfl rfl ⟨Nat.le_of_ble_eq_true rfl, Nat.le_of_ble_eq_true rfl⟩ rfl rfl hl.1 (Nat.le_of_ble_eq_true rfl) ⟨Nat.le_of_ble_eq_true rfl, Nat.le_of_ble_eq_true rfl⟩ dL_law_893) (fun r2 SM1 H locs hp hG => ?_)
  obtain ⟨rfl, hem1⟩ := hp
  replace hG := sw2 hG
  refine lv_icmp_eq (tgt := 1028) hx hb dL_law_896 (by decide) (fun _ => ?_) (fun c9 => absurd rfl c9)
  exact kk G SC1 SM1 H locs ls ⟨hw, hec1, hem1, hG⟩ hl
set_option maxHeartbeats 4000000 in
set_option maxRecDepth 100000 in
theorem law_c23 {p : Program} {l : Launch} {e : Env} {s : State} {m : MethodId} {below : List Frame} {meth : Method} {c : Code} {H : Heap} {locs : List Loc} {Q : State → Prop} {D : va_G} {cy : ClassId} {hc hm : Nat → Nat} {b L i : Nat} {xs : Nat → Int32} {ls : Array Slot} {G : GN} {SC SM : GS} (C : lcx p s m c b L xs) (hi : i + 5 ≤ L) (hw0 : lwW s D cy hc hm G SC SM H locs) (hl : lv_has ls 8 (lwl b i hc hm))
    (kk : ∀ (G : GN) (SC SM : GS) (H : Heap) (locs : List Loc) (ls : Array Slot), lwW s D cy hc hm G SC SM H locs → lv_has ls 8 (lwl b i hc hm) → W p l e room_1 s m #[Value.ref b] below meth c H locs 24 1627 Q (F0 m 1028 ls [])) : W p l e room_1 s m #[Value.ref b] below meth c H locs 24 1627 Q (F0 m 901 ls []) := by
  obtain ⟨hw, hec, hem, hG⟩ := hw0
  obtain ⟨hx, hb, hml, hown, hts, hX, hbl, hL⟩ := id C
  refine lv_aload_n hx hb dL_law_901 rfl (lv_at hl 1 rfl) ?_
  refine s_ld C hG.2.2.2.1 hl 0 3 rfl rfl 1 (by omega) rfl dL_law_902 dL_law_903 dL_law_904 dL_law_905 dL_law_906 ?_
  refine s_ld C hG.2.2.2.1 hl 0 3 rfl rfl 2 (by omega) rfl dL_law_907 dL_law_908 dL_law_909 dL_law_910 dL_law_911 ?_
  refine g_calld wC_adr hG (g_runV (As := [.int (xs (i + 1)), .int (xs (i + 2))]) (rest := []) ⟨hx, hb, hml, hown, hts⟩ wC_adr (kX1_prospect G SC hw hec (xs (i + 1)) (xs (i + 2))) wyX1_prospect q368 hG 0 rfl rfl ⟨Nat.le_of_ble_eq_true rfl, Nat.le_of_ble_eq_true rfl⟩ rfl rfl hl.1 (Nat.le_of_ble_eq_true rfl) ⟨Nat.le_of_ble_eq_true rfl, Nat.le_of_ble_eq_true rfl⟩ dL_law_912) (fun r1 SC1 H locs hp hG => ?_)
  obtain ⟨rfl, hf1⟩ := hp
  have hec1 := hec.fr hf1
  replace hG := sw1 hG
  have hv9 : FP.Core.val64 (F_prospect G (xs (i + 1)) (xs (i + 2))) ≠ .nan := F_prospect_v hw _ _
  refine lv_dstore (lv' := [(4, .double (F_prospect G (xs (i + 1)) (xs (i + 2)))), (0, .ref b), (1, .ref (hc 0)), (2, .ref (hm 0)), (3, .int (nI i))]) hx hb dL_law_915 hl (by decide) rfl (fun ls hl => ?_)
  refine lv_aload_n hx hb dL_law_917 rfl (lv_at hl 3 rfl) ?_
  refine s_ld C hG.2.2.2.1 hl 1 4 rfl rfl 1 (by omega) rfl dL_law_918 dL_law_919 dL_law_920 dL_law_921 dL_law_922 ?_
  refine s_ld C hG.2.2.2.1 hl 1 4 rfl rfl 2 (by omega) rfl dL_law_923 dL_law_924 dL_law_925 dL_law_926 dL_law_927 ?_
  refine g_calld wM_adr hG (g_runV (As := [.int (xs (i + 1)), .int (xs (i + 2))]) (rest := []) ⟨hx, hb, hml, hown, hts⟩ wM_adr (kX2_prospect G SM hw hem (xs (i + 1)) (xs (i + 2))) wyX2_prospect q643 hG 0 rfl rfl ⟨Nat.le_of_ble_eq_true rfl, Nat.le_of_ble_eq_true rfl⟩ rfl rfl hl.1 (Nat.le_of_ble_eq_true rfl) ⟨Nat.le_of_ble_eq_true rfl, Nat.le_of_ble_eq_true rfl⟩ dL_law_928) (fun r2 SM1 H locs hp hG => ?_)
  obtain ⟨rfl, hem1⟩ := hp
  replace hG := sw2 hG
  refine lv_dstore (lv' := [(6, .double (F_prospect G (xs (i + 1)) (xs (i + 2)))), (4, .double (F_prospect G (xs (i + 1)) (xs (i + 2)))), (0, .ref b), (1, .ref (hc 0)), (2, .ref (hm 0)), (3, .int (nI i))]) hx hb dL_law_931 hl (by decide) rfl (fun ls hl => ?_)
  refine lv_dload hx hb dL_law_933 (lv_at hl 1 rfl) ?_
  refine lv_dload hx hb dL_law_935 (lv_at hl 0 rfl) ?_
  refine lv_dcmp hx hb dL_law_937 ?_
  refine lv_if_eq (tgt := 959) hx hb dL_law_938 (by decide) (fun _ => ?_) (fun c9 => absurd (cmp_self hv9 CmpOp.l) c9)
  refine lv_goto (tgt := 1028) hx hb dL_law_959 (by decide) ?_
  exact kk G SC1 SM1 H locs ls ⟨hw, hec1, hem1, hG⟩ (lv_sub hl [2, 3, 4, 5] rfl)
set_option maxHeartbeats 4000000 in
set_option maxRecDepth 100000 in
theorem law_c24 {p : Program} {l : Launch} {e : Env} {s : State} {m : MethodId} {below : List Frame} {meth : Method} {c : Code} {H : Heap} {locs : List Loc} {Q : State → Prop} {D : va_G} {cy : ClassId} {hc hm : Nat → Nat} {b L i : Nat} {xs : Nat → Int32} {ls : Array Slot} {G : GN} {SC SM : GS} (C : lcx p s m c b L xs) (hi : i + 5 ≤ L) (hw0 : lwW s D cy hc hm G SC SM H locs) (hl : lv_has ls 8 (lwl b i hc hm))
    (kk : ∀ (G : GN) (SC SM : GS) (H : Heap) (locs : List Loc) (ls : Array Slot), lwW s D cy hc hm G SC SM H locs → lv_has ls 8 (lwl b i hc hm) → W p l e room_1 s m #[Value.ref b] below meth c H locs 24 1627 Q (F0 m 1028 ls [])) : W p l e room_1 s m #[Value.ref b] below meth c H locs 24 1627 Q (F0 m 962 ls []) := by
  obtain ⟨hw, hec, hem, hG⟩ := hw0
  obtain ⟨hx, hb, hml, hown, hts, hX, hbl, hL⟩ := id C
  refine lv_aload_n hx hb dL_law_962 rfl (lv_at hl 1 rfl) ?_
  refine s_ld C hG.2.2.2.1 hl 0 3 rfl rfl 1 (by omega) rfl dL_law_963 dL_law_964 dL_law_965 dL_law_966 dL_law_967 ?_
  refine g_calli wC_adr hG (g_runV (As := [.int (xs (i + 1))]) (rest := []) ⟨hx, hb, hml, hown, hts⟩ wC_adr (kX1_bestPlace G SC hw hec (xs (i + 1))) wyX1_bestPlace q377 hG 0 rfl rfl ⟨Nat.le_of_ble_eq_true rfl, Nat.le_of_ble_eq_true rfl⟩ rfl rfl hl.1 (Nat.le_of_ble_eq_true rfl) ⟨Nat.le_of_ble_eq_true rfl, Nat.le_of_ble_eq_true rfl⟩ dL_law_968) (fun r1 SC1 H locs hp hG => ?_)
  obtain ⟨rfl, hf1⟩ := hp
  have hec1 := hec.fr hf1
  replace hG := sw1 hG
  refine lv_aload_n hx hb dL_law_971 rfl (lv_at hl 2 rfl) ?_
  refine s_ld C hG.2.2.2.1 hl 0 3 rfl rfl 1 (by omega) rfl dL_law_972 dL_law_973 dL_law_974 dL_law_975 dL_law_976 ?_
  refine g_calli wM_adr hG (g_runV (As := [.int (xs (i + 1))]) (rest := [.int (F_best G (xs (i + 1)))]) ⟨hx, hb, hml, hown, hts⟩ wM_adr (kX2_bestPlace G SM hw hem (xs (i + 1))) wyX2_bestPlace q652 hG 0 rfl rfl ⟨Nat.le_of_ble_eq_true rfl, Nat.le_of_ble_eq_true rfl⟩ rfl rfl hl.1 (Nat.le_of_ble_eq_true rfl) ⟨Nat.le_of_ble_eq_true rfl, Nat.le_of_ble_eq_true rfl⟩ dL_law_977) (fun r2 SM1 H locs hp hG => ?_)
  obtain ⟨rfl, hem1⟩ := hp
  replace hG := sw2 hG
  refine lv_icmp_eq (tgt := 1028) hx hb dL_law_980 (by decide) (fun _ => ?_) (fun c9 => absurd rfl c9)
  exact kk G SC1 SM1 H locs ls ⟨hw, hec1, hem1, hG⟩ hl
set_option maxHeartbeats 4000000 in
set_option maxRecDepth 100000 in
theorem law_c25 {p : Program} {l : Launch} {e : Env} {s : State} {m : MethodId} {below : List Frame} {meth : Method} {c : Code} {H : Heap} {locs : List Loc} {Q : State → Prop} {D : va_G} {cy : ClassId} {hc hm : Nat → Nat} {b L i : Nat} {xs : Nat → Int32} {ls : Array Slot} {G : GN} {SC SM : GS} (C : lcx p s m c b L xs) (hi : i + 5 ≤ L) (hw0 : lwW s D cy hc hm G SC SM H locs) (hl : lv_has ls 8 (lwl b i hc hm))
    (kk : ∀ (G : GN) (SC SM : GS) (H : Heap) (locs : List Loc) (ls : Array Slot), lwW s D cy hc hm G SC SM H locs → lv_has ls 8 (lwl b i hc hm) → W p l e room_1 s m #[Value.ref b] below meth c H locs 24 1627 Q (F0 m 1028 ls [])) : W p l e room_1 s m #[Value.ref b] below meth c H locs 24 1627 Q (F0 m 985 ls []) := by
  obtain ⟨hw, hec, hem, hG⟩ := hw0
  obtain ⟨hx, hb, hml, hown, hts, hX, hbl, hL⟩ := id C
  refine lv_aload_n hx hb dL_law_985 rfl (lv_at hl 1 rfl) ?_
  refine g_callf wC_adr hG (g_runV (As := []) (rest := []) ⟨hx, hb, hml, hown, hts⟩ wC_adr (kX1_meanProspect G SC hw hec ) wyX1_meanProspect q381 hG 0 rfl rfl ⟨Nat.le_of_ble_eq_true rfl, Nat.le_of_ble_eq_true rfl⟩ rfl rfl hl.1 (Nat.le_of_ble_eq_true rfl) ⟨Nat.le_of_ble_eq_true rfl, Nat.le_of_ble_eq_true rfl⟩ dL_law_986) (fun r1 SC1 H locs hp hG => ?_)
  obtain ⟨rfl, hf1⟩ := hp
  have hec1 := hec.fr hf1
  replace hG := sw1 hG
  have hv9 : FP.Core.val64 (FP.f2d (F_mean G)) ≠ .nan := f2d_v (F_mean_v hw)
  refine lv_f2d hx hb dL_law_989 (n64_of hv9) ?_
  refine lv_dstore (lv' := [(4, .double (FP.f2d (F_mean G))), (0, .ref b), (1, .ref (hc 0)), (2, .ref (hm 0)), (3, .int (nI i))]) hx hb dL_law_990 hl (by decide) rfl (fun ls hl => ?_)
  refine lv_aload_n hx hb dL_law_992 rfl (lv_at hl 3 rfl) ?_
  refine g_callf wM_adr hG (g_runV (As := []) (rest := []) ⟨hx, hb, hml, hown, hts⟩ wM_adr (kX2_meanProspect G SM hw hem ) wyX2_meanProspect q656 hG 0 rfl rfl ⟨Nat.le_of_ble_eq_true rfl, Nat.le_of_ble_eq_true rfl⟩ rfl rfl hl.1 (Nat.le_of_ble_eq_true rfl) ⟨Nat.le_of_ble_eq_true rfl, Nat.le_of_ble_eq_true rfl⟩ dL_law_993) (fun r2 SM1 H locs hp hG => ?_)
  obtain ⟨rfl, hem1⟩ := hp
  replace hG := sw2 hG
  refine lv_f2d hx hb dL_law_996 (n64_of hv9) ?_
  refine lv_dstore (lv' := [(6, .double (FP.f2d (F_mean G))), (4, .double (FP.f2d (F_mean G))), (0, .ref b), (1, .ref (hc 0)), (2, .ref (hm 0)), (3, .int (nI i))]) hx hb dL_law_997 hl (by decide) rfl (fun ls hl => ?_)
  refine lv_dload hx hb dL_law_999 (lv_at hl 1 rfl) ?_
  refine lv_dload hx hb dL_law_1001 (lv_at hl 0 rfl) ?_
  refine lv_dcmp hx hb dL_law_1003 ?_
  refine lv_if_eq (tgt := 1025) hx hb dL_law_1004 (by decide) (fun _ => ?_) (fun c9 => absurd (cmp_self hv9 CmpOp.l) c9)
  refine lv_goto (tgt := 1028) hx hb dL_law_1025 (by decide) ?_
  exact kk G SC1 SM1 H locs ls ⟨hw, hec1, hem1, hG⟩ (lv_sub hl [2, 3, 4, 5] rfl)
