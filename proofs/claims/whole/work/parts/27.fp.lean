/-! ===== doubles that are no NaN and not below 0 ===== -/
def nnD (d : FP.Core.Datum) : Prop := (∃ (c : Nat) (q : Int), d = .fin false c q) ∨ d = .inf false
theorem nnD_ne {d : FP.Core.Datum} (h : nnD d) : d ≠ .nan := by
  rcases h with ⟨c, q, rfl⟩ | rfl
  · exact fun h => by cases h
  · exact fun h => by cases h
theorem nn_ratio (f : FP.Core.Fmt) (n d : Nat) (e : Int) : nnD (FP.Core.roundRatio f false n d e) := by
  unfold FP.Core.roundRatio
  split
  · exact Or.inl ⟨_, _, rfl⟩
  · unfold FP.Core.roundAt FP.Core.settle
    split
    · unfold FP.Core.bound
      split
      · exact Or.inl ⟨_, _, rfl⟩
      · exact Or.inr rfl
    · unfold FP.Core.bound
      split
      · exact Or.inl ⟨_, _, rfl⟩
      · exact Or.inr rfl
theorem nn_round (f : FP.Core.Fmt) {d : FP.Core.Datum} (h : nnD d) : nnD (FP.Core.round f d) := by
  rcases h with ⟨c, q, rfl⟩ | rfl
  · exact nn_ratio f c 1 q
  · exact Or.inr rfl
theorem nn_sum {a b : FP.Core.Datum} (ha : nnD a) (hb : nnD b) : nnD (FP.Core.exactSum a b) := by
  rcases ha with ⟨c, q, rfl⟩ | rfl
  · rcases hb with ⟨d, r, rfl⟩ | rfl
    · refine Or.inl ⟨(FP.Core.sumUnits false c q false d r (min q r)).natAbs, min q r, ?_⟩
      have h : ¬ FP.Core.sumUnits false c q false d r (min q r) < 0 := by
        unfold FP.Core.sumUnits FP.Core.signed
        simp only [Bool.false_eq_true, if_false]
        omega
      have h2 : FP.Core.sumSign false false (FP.Core.sumUnits false c q false d r (min q r)) = false := by
        unfold FP.Core.sumSign
        split
        · rfl
        · exact decide_eq_false h
      show FP.Core.Datum.fin _ _ _ = _
      rw [h2]
    · exact Or.inr rfl
  · rcases hb with ⟨d, r, rfl⟩ | rfl
    · exact Or.inr rfl
    · exact Or.inr rfl
theorem nn_quot (f : FP.Core.Fmt) {a : FP.Core.Datum} (ha : nnD a) {d : Nat} {r : Int} (hd : d ≠ 0) : nnD (FP.Core.quotient f a (.fin false d r)) := by
  rcases ha with ⟨c, q, rfl⟩ | rfl
  · show nnD (if d = 0 then _ else FP.Core.roundRatio f (false != false) c d (q - r))
    rw [if_neg hd]; exact nn_ratio f c d (q - r)
  · exact Or.inr rfl
/-- a double that is no NaN and has no sign -/
def g64 (x : UInt64) : Prop := nnD (FP.Core.val64 x)
theorem g64_0 : g64 FP.dconst0 := Or.inl ⟨_, _, FP.Core.val64_dconst0⟩
theorem g64_add {x y : UInt64} (hx : g64 x) (hy : g64 y) : g64 (FP.dadd x y) := by
  unfold g64
  show nnD (FP.Core.val64 (FP.Core.dadd x y))
  rw [FP.Core.val64_dadd]
  exact nn_round _ (nn_sum hx hy)
theorem g64_i2d {n : Nat} (h : n < 2 ^ 31) : g64 (FP.i2d (nI n)) := by
  unfold g64
  show nnD (FP.Core.val64 (FP.Core.i2d (nI n)))
  rw [FP.Core.val64_i2d, nI_toInt h]
  refine nn_round _ (Or.inl ⟨((n : Int)).natAbs, 0, ?_⟩)
  unfold FP.Core.ofInt
  rw [decide_eq_false (by omega)]
theorem i2d_pos {n : Nat} (h0 : 0 < n) (h : n < 2 ^ 31) : ∃ (d : Nat) (r : Int), FP.Core.val64 (FP.i2d (nI n)) = .fin false d r ∧ d ≠ 0 := by
  have hw := FP.Core.i2d_int (nI n)
  rw [nI_toInt h] at hw
  unfold FP.Core.DInt at hw
  rcases g64_i2d h with ⟨d, r, e⟩ | e
  · refine ⟨d, r, e, fun hd => ?_⟩
    have e2 : FP.Core.val64 (FP.Core.i2d (nI n)) = .fin false d r := e
    rw [e2] at hw
    have := (FP.Core.whole_zero hw).mp hd
    omega
  · have e2 : FP.Core.val64 (FP.Core.i2d (nI n)) = .inf false := e
    rw [e2] at hw
    exact hw.elim
theorem g64_div {x : UInt64} (hx : g64 x) {n : Nat} (h0 : 0 < n) (h : n < 2 ^ 31) : g64 (FP.ddiv x (FP.i2d (nI n))) := by
  obtain ⟨d, r, e, hd⟩ := i2d_pos h0 h
  unfold g64
  show nnD (FP.Core.val64 (FP.Core.ddiv x (FP.i2d (nI n))))
  rw [FP.Core.val64_ddiv, e]
  exact nn_quot _ hx hd
theorem n64_of {x : UInt64} (h : FP.Core.val64 x ≠ .nan) : vf_n64 x := by
  unfold vf_n64
  rw [UInt64.le_iff_toNat_le, UInt64.toNat_and]
  show x.toNat &&& 0x7fffffffffffffff ≤ 0x7ff0000000000000
  rw [show (0x7fffffffffffffff : Nat) = 2 ^ 63 - 1 from rfl, Nat.and_two_pow_sub_one_eq_mod]
  rcases Nat.lt_or_ge 0x7ff0000000000000 (x.toNat % 2 ^ 63) with g | g
  · exfalso
    apply h
    unfold FP.Core.val64 FP.Core.decode
    have e1 : FP.Core.fieldE FP.Core.b64 x.toNat = x.toNat / 2 ^ 52 % 2048 := rfl
    have e2 : FP.Core.fieldT FP.Core.b64 x.toNat = x.toNat % 2 ^ 52 := rfl
    have e3 : FP.Core.b64.exps - 1 = 2047 := rfl
    rw [e1, e2, e3, if_pos (by omega), if_neg (by omega)]
  · exact g
theorem n32_of {x : UInt32} (h : FP.Core.val32 x ≠ .nan) : vf_n32 x := by
  unfold vf_n32
  rw [UInt32.le_iff_toNat_le, UInt32.toNat_and]
  show x.toNat &&& 0x7fffffff ≤ 0x7f800000
  rw [show (0x7fffffff : Nat) = 2 ^ 31 - 1 from rfl, Nat.and_two_pow_sub_one_eq_mod]
  rcases Nat.lt_or_ge 0x7f800000 (x.toNat % 2 ^ 31) with g | g
  · exfalso
    apply h
    unfold FP.Core.val32 FP.Core.decode
    have e1 : FP.Core.fieldE FP.Core.b32 x.toNat = x.toNat / 2 ^ 23 % 256 := rfl
    have e2 : FP.Core.fieldT FP.Core.b32 x.toNat = x.toNat % 2 ^ 23 := rfl
    have e3 : FP.Core.b32.exps - 1 = 255 := rfl
    rw [e1, e2, e3, if_pos (by omega), if_neg (by omega)]
  · exact g
theorem g64_n {x : UInt64} (h : g64 x) : vf_n64 x := n64_of (nnD_ne h)
theorem add_0 {x : UInt64} (h : g64 x) : FP.dadd x FP.dconst0 = x := by
  refine FP.Core.dadd_zero (nnD_ne h) (fun q => ?_)
  subst q
  rcases h with ⟨c, q, e⟩ | e
  · rw [FP.Core.val64_dzeroNeg] at e; cases e
  · rw [FP.Core.val64_dzeroNeg] at e; cases e
theorem v32_d2f {x : UInt64} (h : g64 x) : nnD (FP.Core.val32 (FP.d2f x)) := by
  have hn : FP.Core.dIsNaN x = false := by
    cases q : FP.Core.dIsNaN x
    · rfl
    · exact absurd ((FP.Core.dIsNaN_iff x).mp q) (nnD_ne h)
  unfold FP.d2f
  rw [hn]
  show nnD (FP.Core.val32 (FP.Core.d2f x))
  rw [FP.Core.val32_d2f]
  exact nn_round _ h
theorem d2f_n {x : UInt64} (h : g64 x) : vf_n32 (FP.d2f x) := n32_of (nnD_ne (v32_d2f h))
theorem f2d_v {x : UInt32} (h : FP.Core.val32 x ≠ .nan) : FP.Core.val64 (FP.f2d x) ≠ .nan := by
  intro q
  have h1 := FP.f2d_nan x
  have h2 : FP.Core.dIsNaN (FP.f2d x) = true := (FP.Core.dIsNaN_iff _).mpr q
  have h3 : FP.Core.fIsNaN x = true := h1.symm.trans h2
  exact h ((FP.Core.fIsNaN_iff x).mp h3)
theorem cmp_self {x : UInt64} (h : FP.Core.val64 x ≠ .nan) (op : CmpOp) : Op.cmpValue (FP.dcmp x x) op = 0 := by
  have : FP.dcmp x x = some .eq := FP.Core.dcmp_self h
  rw [this]; rfl
theorem m1_v : FP.Core.val64 13830554455654793216 ≠ .nan := by decide +kernel
theorem m1f_v : FP.Core.val32 3212836864 ≠ .nan := by decide +kernel
/-! the prospect -/
def farN (p t : Nat) : Nat := dXn p t * dXn p t + dYn p t * dYn p t
def prT (G : GN) (p k : Nat) : UInt64 := FP.ddiv (FP.i2d (nI (G 4 k * G 2 (G 3 k)))) (FP.i2d (nI (farN p (G 3 k))))
def prL (G : GN) (p : Nat) : Nat → UInt64
  | 0 => FP.dconst0
  | k + 1 => if visB G (G 2) p k then FP.dadd (prL G p k) (prT G p k) else prL G p k
theorem far_pos {G : GN} (hw : wf G) {p k : Nat} (hk : k < G 0 2) (hpl : plB G p = true) : 0 < farN p (G 3 k) := by
  rcases Nat.eq_zero_or_pos (farN p (G 3 k)) with h | h
  · unfold farN at h
    have h1 : dXn p (G 3 k) = 0 := by
      rcases Nat.eq_zero_or_pos (dXn p (G 3 k)) with g | g
      · exact g
      · have := Nat.mul_pos g g; omega
    have h2 : dYn p (G 3 k) = 0 := by
      rcases Nat.eq_zero_or_pos (dYn p (G 3 k)) with g | g
      · exact g
      · have := Nat.mul_pos g g; omega
    have e : p = G 3 k := by
      unfold dXn at h1; unfold dYn at h2
      split at h1 <;> split at h2 <;> omega
    have := (hw.f hk).2.1
    rw [← e] at this
    exact absurd this (plB_ne hpl).2
  · exact h
theorem far_le {p t : Nat} (hp : p < 192) (ht : t < 192) : farN p t ≤ 346 := by
  have h1 := dXn_lt p t
  have h2 := dYn_lt hp ht
  have h3 := Nat.mul_le_mul (show dXn p t ≤ 15 by omega) (show dXn p t ≤ 15 by omega)
  have h4 := Nat.mul_le_mul (show dYn p t ≤ 11 by omega) (show dYn p t ≤ 11 by omega)
  unfold farN; omega
theorem wh_le {G : GN} (hw : wf G) {k : Nat} (hk : k < G 0 2) : G 4 k * G 2 (G 3 k) ≤ 540 := by
  have h := hw.f hk
  have := Nat.mul_le_mul h.2.2 (hG2 hw _ h.1)
  omega
theorem prT_g {G : GN} (hw : wf G) {p k : Nat} (hp : p < 192) (hk : k < G 0 2) (hpl : plB G p = true) : g64 (prT G p k) := by
  have h1 := wh_le hw hk
  have h2 := far_le hp (hw.f hk).1
  exact g64_div (g64_i2d (by omega)) (far_pos hw hk hpl) (by omega)
theorem prL_g {G : GN} (hw : wf G) {p : Nat} (hp : p < 192) (hpl : plB G p = true) : ∀ k, k ≤ G 0 2 → g64 (prL G p k)
  | 0, _ => g64_0
  | k + 1, h => by
    have ih := prL_g hw hp hpl k (by omega)
    show g64 (if visB G (G 2) p k then FP.dadd (prL G p k) (prT G p k) else prL G p k)
    split
    · exact g64_add ih (prT_g hw hp (by omega) hpl)
    · exact ih
def prN (G : GN) (p : Nat) : UInt64 := prL G p (G 0 2)
def F_prospect (G : GN) (x y : Int32) : UInt64 := if pErr G x y = 0 then prN G (cN x y) else 13830554455654793216
theorem F_prospect_v {G : GN} (hw : wf G) (x y : Int32) : FP.Core.val64 (F_prospect G x y) ≠ .nan := by
  unfold F_prospect
  split
  · rename_i h
    obtain ⟨h1, h2⟩ := pErr_0 h
    exact nnD_ne (prL_g hw (has_c hw h1) h2 _ (Nat.le_refl _))
  · exact m1_v
/-- the best of the first n cells of a kind -/
def gtB (x y : UInt64) : Bool := decide (0 < Op.cmpValue (FP.dcmp x y) CmpOp.l)
def bpI (G : GN) (kd : Nat) (c : Nat) : Bool := decide (G 1 c = kd) && decide (c % 16 < G 0 0) && decide (c / 16 < G 0 1)
def bpL (G : GN) (kd : Nat) : Nat → Int32 × UInt64
  | 0 => (-7, 13830554455654793216)
  | c + 1 => if bpI G kd c && gtB (prN G c) (bpL G kd c).2 then (nI c, prN G c) else bpL G kd c
def F_best (G : GN) (k : Int32) : Int32 := if pkB k then (bpL G (nN k) 192).1 else -4
/-- the sum over the walk -/
def wsL (G : GN) : Nat → UInt64
  | 0 => FP.dconst0
  | i + 1 => if plB G (G 5 i) then FP.dadd (wsL G i) (prN G (G 5 i)) else wsL G i
theorem wsL_g {G : GN} (hw : wf G) : ∀ i, i ≤ G 0 3 → g64 (wsL G i)
  | 0, _ => g64_0
  | i + 1, h => by
    have ih := wsL_g hw i (by omega)
    show g64 (if plB G (G 5 i) then FP.dadd (wsL G i) (prN G (G 5 i)) else wsL G i)
    split
    · rename_i q
      exact g64_add ih (prL_g hw (hw.2.2.2.1 i (by omega)) q _ (Nat.le_refl _))
    · exact ih
def F_mean (G : GN) : UInt32 := if G 0 3 = 0 then 3212836864 else FP.d2f (FP.ddiv (wsL G (G 0 3)) (FP.i2d (nI (G 0 3))))
theorem F_mean_v {G : GN} (hw : wf G) : FP.Core.val32 (F_mean G) ≠ .nan := by
  unfold F_mean
  split
  · exact m1f_v
  · rename_i h
    have hw1 := hw.1
    exact nnD_ne (v32_d2f (g64_div (wsL_g hw _ (Nat.le_refl _)) (by omega) (by omega)))
