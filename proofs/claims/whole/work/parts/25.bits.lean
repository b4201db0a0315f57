/-! ===== bit sets of features, and their order ===== -/
def bt (x : Int32) (i : Nat) : Bool := x.toBitVec.getLsbD i
theorem b_ext {x y : Int32} (h : ∀ i, i < 32 → bt x i = bt y i) : x = y := Int32.toBitVec_inj.mp (BitVec.eq_of_getLsbD_eq (fun i hi => h i hi))
theorem b_or (x y : Int32) (i : Nat) : bt (x ||| y) i = (bt x i || bt y i) := by unfold bt; rw [Int32.toBitVec_or, BitVec.getLsbD_or]
theorem b_and (x y : Int32) (i : Nat) : bt (x &&& y) i = (bt x i && bt y i) := by unfold bt; rw [Int32.toBitVec_and, BitVec.getLsbD_and]
theorem b_xor (x y : Int32) (i : Nat) : bt (x ^^^ y) i = (bt x i ^^ bt y i) := by unfold bt; rw [Int32.toBitVec_xor, BitVec.getLsbD_xor]
theorem b_m1 : ∀ i, i < 32 → bt (-1) i = true := by decide +kernel
theorem b_0 (i : Nat) : bt 0 i = false := BitVec.getLsbD_zero
theorem s_l : ∀ n, n < 32 → ((nI n &&& 31).toBitVec.smod 32).toNat = n := by decide +kernel
theorem b_shl (n : Nat) (hn : n < 32) (x : Int32) {i : Nat} (hi : i < 32) : bt (x <<< (nI n &&& 31)) i = (decide (n ≤ i) && bt x (i - n)) := by
  unfold bt
  rw [Int32.toBitVec_shiftLeft]
  show (x.toBitVec <<< ((nI n &&& 31).toBitVec.smod 32).toNat).getLsbD i = _
  rw [s_l n hn, BitVec.getLsbD_shiftLeft]
  rcases Nat.lt_or_ge i n with h | h
  · simp [h, Nat.not_le.mpr h]
  · simp [hi, h, Nat.not_lt.mpr h]
theorem b_1 : ∀ i, i < 32 → bt 1 i = decide (i = 0) := by decide +kernel
theorem b_one {n : Nat} (hn : n < 32) {i : Nat} (hi : i < 32) : bt ((1 : Int32) <<< (nI n &&& 31)) i = decide (i = n) := by
  rw [b_shl n hn 1 hi, b_1 (i - n) (by omega)]
  by_cases h : i = n
  · subst h; simp
  · rw [decide_eq_false h]
    by_cases g : n ≤ i
    · rw [decide_eq_false (show ¬ i - n = 0 by omega), Bool.and_false]
    · rw [decide_eq_false g]; rfl
theorem b_set {f : Nat → Bool} {i : Nat} (hi : i < 32) : ∀ n, n ≤ 31 → bt (setI f n) i = (decide (i < n) && f i)
  | 0, _ => by show bt 0 i = _; rw [b_0]; simp
  | n + 1, h => by
    show bt (setI f n ||| (if f n then (1 : Int32) <<< (nI n &&& 31) else 0)) i = _
    rw [b_or, b_set hi n (by omega)]
    by_cases g : f n = true
    · rw [if_pos g, b_one (by omega) hi]
      by_cases e : i = n
      · subst e; simp [g]
      · have : decide (i < n + 1) = decide (i < n) := by
          by_cases q : i < n
          · rw [decide_eq_true q, decide_eq_true (by omega)]
          · rw [decide_eq_false q, decide_eq_false (by omega)]
        rw [decide_eq_false e, Bool.or_false, this]
    · rw [if_neg g, b_0, Bool.or_false]
      by_cases e : i = n
      · subst e
        have : f i = false := by cases q : f i <;> simp_all
        simp [this]
      · have : decide (i < n + 1) = decide (i < n) := by
          by_cases q : i < n
          · rw [decide_eq_true q, decide_eq_true (by omega)]
          · rw [decide_eq_false q, decide_eq_false (by omega)]
        rw [this]
theorem b_mask {x : Int32} {n : Nat} (hn : n < 32) : (x &&& ((1 : Int32) <<< (nI n &&& 31)) = 0) ↔ bt x n = false := by
  constructor
  · intro h
    have h1 := congrArg (fun z => bt z n) h
    simp only [b_and, b_one hn hn, b_0] at h1
    simpa using h1
  · intro h
    refine b_ext (fun i hi => ?_)
    rw [b_and, b_one hn hi, b_0]
    by_cases e : i = n
    · subst e; rw [h]; rfl
    · rw [decide_eq_false e, Bool.and_false]
section W
variable {G : GN}
/-- the features seen from the first n places of the walk -/
def earI (G : GN) : Nat → Int32
  | 0 => 0
  | n + 1 => earI G n ||| visSet G (G 5 n)
theorem b_vis (hw : wf G) {c i : Nat} (hi : i < 32) : bt (visSet G c) i = (decide (i < G 0 2) && (plB G c && visB G (G 2) c i)) := by
  unfold visSet
  have := hw.1
  by_cases g : plB G c = true
  · rw [if_pos g, b_set hi _ (by omega), g, Bool.true_and]
  · rw [if_neg g, b_0]
    have : plB G c = false := by cases q : plB G c <;> simp_all
    rw [this, Bool.false_and, Bool.and_false]
theorem ap_lt {k n : Nat} (hn : n ≤ G 0 3) : apN G (G 2) k < n ↔ ∃ i, i < n ∧ apF G (G 2) k i = true := by
  have h := fsB_spec (apF G (G 2) k) (G 0 3) 0
  unfold apN
  constructor
  · intro q; exact ⟨_, q, h.2.2.2 (by omega)⟩
  · rintro ⟨i, h1, h2⟩
    rcases Nat.lt_or_ge i (fsB (apF G (G 2) k) (G 0 3) 0) with g | g
    · have := h.2.2.1 i (by omega) g
      rw [this] at h2; exact absurd h2 (by decide)
    · omega
theorem b_ear (hw : wf G) {i : Nat} (hi : i < 32) : ∀ n, n ≤ G 0 3 → bt (earI G n) i = (decide (i < G 0 2) && decide (apN G (G 2) i < n))
  | 0, _ => by show bt 0 i = _; rw [b_0]; simp
  | n + 1, h => by
    show bt (earI G n ||| visSet G (G 5 n)) i = _
    rw [b_or, b_ear hw hi n (by omega), b_vis hw hi, ← Bool.and_or_distrib_left]
    congr 1
    have e : (plB G (G 5 n) && visB G (G 2) (G 5 n) i) = apF G (G 2) i n := rfl
    rw [e]
    by_cases g : apN G (G 2) i < n + 1
    · rw [decide_eq_true g]
      by_cases g2 : apN G (G 2) i < n
      · rw [decide_eq_true g2, Bool.true_or]
      · rw [decide_eq_false g2, Bool.false_or]
        obtain ⟨j, h1, h2⟩ := (ap_lt h).mp g
        have : j = n := by
          rcases Nat.lt_or_ge j n with u | u
          · exact absurd ((ap_lt (by omega)).mpr ⟨j, u, h2⟩) g2
          · omega
        rw [← this]; exact h2
    · rw [decide_eq_false g, decide_eq_false (by omega), Bool.false_or]
      cases q : apF G (G 2) i n
      · rfl
      · exact absurd ((ap_lt h).mpr ⟨n, by omega, q⟩) g
/-- the features that appear at place q -/
def surI (G : GN) (q : Nat) : Int32 := setI (fun k => decide (apN G (G 2) k = q)) (G 0 2)
theorem sur_C (hw : wf G) {q : Nat} (hq : q < G 0 3) : visSet G (G 5 q) &&& (earI G q ^^^ (-1)) = surI G q := by
  have hw1 := hw.1
  refine b_ext (fun i hi => ?_)
  unfold surI
  rw [b_and, b_xor, b_m1 i hi, b_vis hw hi, b_ear hw hi q (by omega), b_set hi _ (by omega)]
  have e : (plB G (G 5 q) && visB G (G 2) (G 5 q) i) = apF G (G 2) i q := rfl
  rw [e]
  by_cases g : i < G 0 2
  · rw [decide_eq_true g, Bool.true_and, Bool.true_and, Bool.true_and]
    by_cases g2 : apN G (G 2) i = q
    · rw [decide_eq_true g2, decide_eq_false (by omega)]
      have h := fsB_spec (apF G (G 2) i) (G 0 3) 0
      have : apF G (G 2) i q = true := by
        rw [← g2]; unfold apN; exact h.2.2.2 (by have : fsB (apF G (G 2) i) (G 0 3) 0 = apN G (G 2) i := rfl; omega)
      rw [this]; rfl
    · rw [decide_eq_false g2]
      by_cases g3 : apN G (G 2) i < q
      · rw [decide_eq_true g3]; simp
      · rw [decide_eq_false g3]
        cases q9 : apF G (G 2) i q
        · rfl
        · have := (ap_lt (n := q + 1) (by omega)).mpr ⟨q, by omega, q9⟩
          omega
  · rw [decide_eq_false g]; simp
theorem ear_succ (hw : wf G) {q : Nat} (hq : q < G 0 3) : earI G q ||| (visSet G (G 5 q) &&& (earI G q ^^^ (-1))) = earI G (q + 1) := by
  refine b_ext (fun i hi => ?_)
  show _ = bt (earI G q ||| visSet G (G 5 q)) i
  rw [b_or, b_or, b_and, b_xor, b_m1 i hi]
  cases bt (earI G q) i <;> cases bt (visSet G (G 5 q)) i <;> rfl
theorem sur_bit (hw : wf G) {q k : Nat} (hk : k < G 0 2) : (surI G q &&& ((1 : Int32) <<< (nI k &&& 31)) = 0) ↔ ¬ apN G (G 2) k = q := by
  have hw1 := hw.1
  rw [b_mask (by omega)]
  unfold surI
  rw [b_set (by omega) _ (by omega), decide_eq_true hk, Bool.true_and]
  simp
def spB (G : GN) (q : Int32) : Bool := decide (0 ≤ q.toInt) && decide (q.toInt < (G 0 3 : Int))
def F_surprises (G : GN) (q : Int32) : Int32 := if spB G q then surI G (nN q) else -4
/-- how many come before feature f at place i -/
def bef (G : GN) (i f : Nat) : Nat := cntB (fun x => decide (apN G (G 2) x < i) || (decide (apN G (G 2) x = i) && decide (x < f))) (G 0 2)
def ahd (G : GN) (f : Nat) : Nat := bef G (apN G (G 2) f) f
def shF (G : GN) (r f : Nat) : Bool := decide (apN G (G 2) f < G 0 3) && decide (ahd G f = r)
/-- the feature of rank r, or the number of features -/
def shN (G : GN) (r : Nat) : Nat := fsB (shF G r) (G 0 2) 0
def F_shown (G : GN) (k : Int32) : Int32 := if k < 0 then -4 else (if shN G (nN k) < G 0 2 then nI (shN G (nN k)) else -7)
theorem cntB_mono {P Q : Nat → Bool} : ∀ n, (∀ x, x < n → P x = true → Q x = true) → cntB P n ≤ cntB Q n
  | 0, _ => Nat.le_refl _
  | n + 1, h => by
    have ih := cntB_mono n (fun x hx => h x (by omega))
    have h1 := h n (by omega)
    show cntB P n + (if P n then 1 else 0) ≤ cntB Q n + (if Q n then 1 else 0)
    cases hp : P n
    · simp; omega
    · rw [h1 hp]; simp; omega
theorem cntB_lt {P Q : Nat → Bool} {x0 : Nat} : ∀ n, x0 < n → (∀ x, x < n → P x = true → Q x = true) → P x0 = false → Q x0 = true → cntB P n < cntB Q n
  | 0, h, _, _, _ => absurd h (by omega)
  | n + 1, h, hm, h1, h2 => by
    show cntB P n + (if P n then 1 else 0) < cntB Q n + (if Q n then 1 else 0)
    rcases Nat.lt_or_ge x0 n with g | g
    · have ih := cntB_lt n g (fun x hx => hm x (by omega)) h1 h2
      have h3 := hm n (by omega)
      cases hp : P n
      · simp; omega
      · rw [h3 hp]; simp; omega
    · have : x0 = n := by omega
      subst this
      have := cntB_mono x0 (fun x hx => hm x (by omega))
      rw [h1, h2]; simp; omega
theorem ahd_lt {f g : Nat} (hf : f < G 0 2) (h : apN G (G 2) f < apN G (G 2) g ∨ (apN G (G 2) f = apN G (G 2) g ∧ f < g)) : ahd G f < ahd G g := by
  unfold ahd bef
  refine cntB_lt (x0 := f) (G 0 2) hf (fun x _ hx => ?_) ?_ ?_
  · simp only [Bool.or_eq_true, Bool.and_eq_true, decide_eq_true_eq] at hx ⊢
    omega
  · simp
  · simp only [Bool.or_eq_true, Bool.and_eq_true, decide_eq_true_eq]
    omega
theorem ahd_inj {f g : Nat} (hf : f < G 0 2) (hg : g < G 0 2) (h : ahd G f = ahd G g) : f = g := by
  rcases Nat.lt_trichotomy (apN G (G 2) f) (apN G (G 2) g) with a | a | a
  · have := ahd_lt hf (Or.inl a); omega
  · rcases Nat.lt_trichotomy f g with b | b | b
    · have := ahd_lt hf (Or.inr ⟨a, b⟩); omega
    · exact b
    · have := ahd_lt hg (Or.inr ⟨a.symm, b⟩); omega
  · have := ahd_lt hg (Or.inl a); omega
theorem sh_hit {r f : Nat} (hf : f < G 0 2) (h : shF G r f = true) : shN G r = f := by
  have hs := fsB_spec (shF G r) (G 0 2) 0
  have h1 : shN G r ≤ f := by
    rcases Nat.lt_or_ge f (fsB (shF G r) (G 0 2) 0) with g | g
    · have := hs.2.2.1 f (by omega) g
      rw [this] at h; exact absurd h (by decide)
    · exact g
  have h2 : shF G r (shN G r) = true := hs.2.2.2 (by have : fsB (shF G r) (G 0 2) 0 = shN G r := rfl; omega)
  unfold shF at h h2
  simp only [Bool.and_eq_true, decide_eq_true_eq] at h h2
  exact ahd_inj (by omega) hf (by omega)
theorem sh_none {r : Nat} (h : ∀ f, f < G 0 2 → apN G (G 2) f < G 0 3 → ahd G f ≠ r) : ¬ shN G r < G 0 2 := by
  intro g
  have hs := fsB_spec (shF G r) (G 0 2) 0
  have h2 : shF G r (shN G r) = true := hs.2.2.2 (by have : fsB (shF G r) (G 0 2) 0 = shN G r := rfl; omega)
  unfold shF at h2
  simp only [Bool.and_eq_true, decide_eq_true_eq] at h2
  exact h _ g h2.1 h2.2
theorem bef_0 : bef G 0 0 = 0 := by
  unfold bef
  rw [cntB_0]
  intro k _
  simp
theorem bef_le (i f : Nat) : bef G i f ≤ G 0 2 := cntB_le _ _
theorem bef_hit {i f : Nat} (hf : f < G 0 2) (h : apN G (G 2) f = i) : bef G i (f + 1) = bef G i f + 1 := by
  unfold bef
  have : ∀ n, cntB (fun x => decide (apN G (G 2) x < i) || (decide (apN G (G 2) x = i) && decide (x < f + 1))) n = cntB (fun x => decide (apN G (G 2) x < i) || (decide (apN G (G 2) x = i) && decide (x < f))) n + (if f < n then 1 else 0) := by
    intro n
    induction n with
    | zero => rfl
    | succ n ih =>
      show cntB _ n + (if _ then 1 else 0) = cntB _ n + (if _ then 1 else 0) + _
      rw [ih]
      rcases Nat.lt_trichotomy n f with a | a | a
      · simp only [decide_eq_true (show n < f + 1 by omega), decide_eq_true a, if_neg (show ¬ f < n by omega), if_neg (show ¬ f < n + 1 by omega)]
        omega
      · subst a
        simp [h]
      · simp only [decide_eq_false (show ¬ n < f + 1 by omega), decide_eq_false (show ¬ n < f by omega), if_pos a, if_pos (show f < n + 1 by omega)]
        omega
  rw [this, if_pos hf]
theorem bef_miss {i f : Nat} (h : ¬ apN G (G 2) f = i) : bef G i (f + 1) = bef G i f := by
  unfold bef
  refine cntB_congr _ (fun x _ => ?_)
  by_cases g : x = f
  · subst g; rw [decide_eq_false h]; simp
  · have : decide (x < f + 1) = decide (x < f) := by
      by_cases q : x < f
      · rw [decide_eq_true q, decide_eq_true (by omega)]
      · rw [decide_eq_false q, decide_eq_false (by omega)]
    rw [this]
theorem bef_next (i : Nat) : bef G i (G 0 2) = bef G (i + 1) 0 := by
  unfold bef
  refine cntB_congr _ (fun x hx => ?_)
  rw [decide_eq_true hx, Bool.and_true, decide_eq_false (show ¬ x < 0 by omega), Bool.and_false, Bool.or_false]
  by_cases a : apN G (G 2) x < i
  · rw [decide_eq_true a, Bool.true_or, decide_eq_true (by omega)]
  · rw [decide_eq_false a]
    by_cases b : apN G (G 2) x = i
    · rw [decide_eq_true b, decide_eq_true (by omega)]; rfl
    · rw [decide_eq_false b, decide_eq_false (by omega)]; rfl
end W
