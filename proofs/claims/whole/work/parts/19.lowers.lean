/-! ===== clipping, in numbers ===== -/
/-- the height to which a view's clipping lowers a hedge; the cost -/
def lowN (G : GN) (Hh : Nat → Nat) (p k c : Nat) : Nat := if blk G Hh p k c then wck G p k c else Hh c
def costN (G : GN) (Hh : Nat → Nat) (p k : Nat) : Nat := sumN (fun c => if blk G Hh p k c then Hh c - wck G p k c else 0) 192
/-- behind the first q steps -/
def lowQ (G : GN) (Hh : Nat → Nat) (p k q c : Nat) : Nat := if (memS (csG G p k) q c && blk G Hh p k c) then wck G p k c else Hh c
def cstS (G : GN) (Hh : Nat → Nat) (p k j : Nat) : Nat := if bkS G Hh p k (j + 1) then Hh (csG G p k (j + 1)) - wn p (G 3 k) (eyN G p) (G 2 (G 3 k)) (j + 1) else 0
theorem cnt_jump {bk : Nat → Bool} {N q : Nat} (hq : q ≤ N) (hm : nxt bk N q < N) : cntB (fun j => bk (j + 1)) (nxt bk N q) = cntB (fun j => bk (j + 1)) q + 1 := by
  have h := nxt_spec (bk := bk) hq
  have h1 : q < nxt bk N q := h.2.2.1 (by omega)
  have h2 := sumN_jump (f := fun k => if bk (k + 1) then 1 else 0) (bk := bk) hq (fun j hj => by rw [hj]; rfl) hm
  rw [cntB_sum, cntB_sum, h2]
  show _ + (if bk (nxt bk N q - 1 + 1) then 1 else 0) = _
  rw [show nxt bk N q - 1 + 1 = nxt bk N q by omega, h.2.2.2.2 hm]; rfl
theorem cnt_stop {bk : Nat → Bool} {N q : Nat} (hq : q < N) (hm : nxt bk N q = N) : cntB (fun j => bk (j + 1)) (N - 1) = cntB (fun j => bk (j + 1)) q := by
  rw [cntB_sum, cntB_sum]
  exact sumN_stop (bk := bk) (Nat.le_of_lt hq) (fun j hj => by rw [hj]; rfl) hm (Or.inl hq)
theorem nxB_congr {bk bk' : Nat → Bool} : ∀ (f n : Nat), (∀ j, n < j → j < n + f → bk j = bk' j) → nxB bk f n = nxB bk' f n
  | 0, _, _ => rfl
  | 1, _, _ => rfl
  | f + 2, n, h => by
    unfold nxB
    rw [h (n + 1) (by omega) (by omega), nxB_congr (f + 1) (n + 1) (fun j a b => h j (by omega) (by omega))]
theorem nxt_congr {bk bk' : Nat → Bool} {N n : Nat} (hn : n ≤ N) (h : ∀ j, n < j → j < N → bk j = bk' j) : nxt bk N n = nxt bk' N n := nxB_congr (N - n) n (fun j a b => h j a (by omega))
/-- the only number that is one of f -/
def opB (f : Nat → Bool) : Nat → Int32
  | 0 => -7
  | n + 1 => if f n then nI n else opB f n
theorem opB_one {f : Nat → Bool} {c : Nat} (hf : f c = true) : ∀ n, c < n → (∀ j, j < n → f j = true → j = c) → opB f n = nI c
  | 0, h, _ => absurd h (by omega)
  | n + 1, h, hu => by
    unfold opB
    by_cases g : f n = true
    · rw [if_pos g, hu n (by omega) g]
    · rw [if_neg g]
      have hne : c ≠ n := fun q => g (q ▸ hf)
      exact opB_one hf n (by omega) (fun j hj => hu j (by omega))
section V2
variable {G : GN} {Hh : Nat → Nat} {p k : Nat}
theorem NG_pos (hw : wf G) (hp : p < 192) (hk : k < G 0 2) (hpl : plB G p = true) : 0 < NG G p k := by
  rcases Nat.eq_zero_or_pos (NG G p k) with h | h
  · have h1 := cs_N hp (hw.f hk).1
    unfold NG at h
    rw [h, cs_0] at h1
    have h2 := (hw.f hk).2.1
    rw [← h1] at h2
    exact absurd h2 (plB_ne hpl).2
  · exact h
theorem blk_lt {c : Nat} (h : blk G Hh p k c = true) : wck G p k c < Hh c ∧ G 1 c = 2 := by
  unfold blk blB at h
  rw [Bool.and_eq_true, decide_eq_true_eq] at h
  have h2 := h.2
  unfold LK at h2
  split at h2
  · rename_i g; exact ⟨h2, g⟩
  · omega
theorem lowQ_le (hH9 : ∀ c, c < 192 → Hh c ≤ 60) (q : Nat) : ∀ c, c < 192 → lowQ G Hh p k q c ≤ 60 := by
  intro c hc
  unfold lowQ
  split
  · rename_i g
    rw [Bool.and_eq_true] at g
    have := (blk_lt g.2).1
    have := hH9 c hc
    omega
  · exact hH9 c hc
theorem memS_no (hw : wf G) (hp : p < 192) (hk : k < G 0 2) {q m : Nat} (hq : q < m) (hm : m ≤ NG G p k) : memS (csG G p k) q (csG G p k m) = false := by
  cases h : memS (csG G p k) q (csG G p k m)
  · rfl
  · obtain ⟨j, h1, h2, h3⟩ := (memS_iff q).mp h
    have := csG_inj hw hp hk (by omega) hm h3
    omega
theorem lowQ_far (hw : wf G) (hp : p < 192) (hk : k < G 0 2) {q m : Nat} (hq : q < m) (hm : m ≤ NG G p k) : lowQ G Hh p k q (csG G p k m) = Hh (csG G p k m) := by
  unfold lowQ
  rw [memS_no hw hp hk hq hm]; rfl
theorem bk_lowQ (hw : wf G) (hp : p < 192) (hk : k < G 0 2) {q m : Nat} (hq : q < m) (hm : m ≤ NG G p k) : bkS G (lowQ G Hh p k q) p k m = bkS G Hh p k m := by
  rw [bkS_iff hw hp hk hm, bkS_iff hw hp hk hm, lowQ_far hw hp hk hq hm]
theorem nxt_lowQ (hw : wf G) (hp : p < 192) (hk : k < G 0 2) {q : Nat} (hq : q ≤ NG G p k) : nxt (bkS G (lowQ G Hh p k q) p k) (NG G p k) q = nxt (bkS G Hh p k) (NG G p k) q :=
  nxt_congr hq (fun j a b => bk_lowQ hw hp hk a (Nat.le_of_lt b))
theorem wck_cs (hw : wf G) (hp : p < 192) (hk : k < G 0 2) {m : Nat} (hm : m ≤ NG G p k) : wck G p k (csG G p k m) = wn p (G 3 k) (eyN G p) (G 2 (G 3 k)) m := (cs_X hp (hw.f hk).1 hm).2
/-- the next hedge is lowered -/
theorem lowQ_step (hw : wf G) (hp : p < 192) (hk : k < G 0 2) {q : Nat} (hq : q < NG G p k) (hm : nxt (bkS G Hh p k) (NG G p k) q < NG G p k) (c : Nat) : lowQ G Hh p k (nxt (bkS G Hh p k) (NG G p k) q) c = if c = csG G p k (nxt (bkS G Hh p k) (NG G p k) q) then wn p (G 3 k) (eyN G p) (G 2 (G 3 k)) (nxt (bkS G Hh p k) (NG G p k) q) else lowQ G Hh p k q c := by
  have h := nxt_spec (bk := bkS G Hh p k) (Nat.le_of_lt hq)
  have h1 := h.2.2.1 hq
  by_cases g : c = csG G p k (nxt (bkS G Hh p k) (NG G p k) q)
  · rw [if_pos g, ← wck_cs hw hp hk (Nat.le_of_lt hm), ← g]
    unfold lowQ
    have hb : blk G Hh p k c = true := by rw [g]; exact h.2.2.2.2 hm
    rw [(memS_iff _).mpr ⟨_, by omega, Nat.le_refl _, g.symm⟩, hb]; rfl
  · rw [if_neg g]
    unfold lowQ
    by_cases hb : blk G Hh p k c = true
    · rw [hb, Bool.and_true, Bool.and_true]
      have e : memS (csG G p k) (nxt (bkS G Hh p k) (NG G p k) q) c = memS (csG G p k) q c := by
        cases h2 : memS (csG G p k) q c
        · cases h3 : memS (csG G p k) (nxt (bkS G Hh p k) (NG G p k) q) c
          · rfl
          · obtain ⟨m, a1, a2, a3⟩ := (memS_iff _).mp h3
            rcases Nat.lt_or_ge q m with u | u
            · have hne : m ≠ nxt (bkS G Hh p k) (NG G p k) q := fun e9 => g (by rw [← a3, e9])
              have hz := h.2.2.2.1 m u (by omega)
              have hz2 : bkS G Hh p k m = true := by unfold bkS; rw [a3]; exact hb
              rw [hz] at hz2; exact absurd hz2 (by decide)
            · rw [(memS_iff q).mpr ⟨m, a1, u, a3⟩] at h2; exact absurd h2 (by decide)
        · obtain ⟨m, a1, a2, a3⟩ := (memS_iff _).mp h2
          exact (memS_iff _).mpr ⟨m, a1, by omega, a3⟩
      rw [e]
    · have : blk G Hh p k c = false := by cases q9 : blk G Hh p k c <;> simp_all
      rw [this, Bool.and_false, Bool.and_false]
/-- no hedge more: all is done -/
theorem lowQ_end (hw : wf G) (hp : p < 192) (hk : k < G 0 2) (hpl : plB G p = true) {q : Nat} (hq : q < NG G p k) (hm : nxt (bkS G Hh p k) (NG G p k) q = NG G p k) (c : Nat) : lowQ G Hh p k q c = lowN G Hh p k c := by
  have h := nxt_spec (bk := bkS G Hh p k) (Nat.le_of_lt hq)
  unfold lowQ lowN
  by_cases hb : blk G Hh p k c = true
  · obtain ⟨m, a1, a2, a3⟩ := blk_step hw hp hk hpl hb
    have hmq : m ≤ q := by
      rcases Nat.lt_or_ge q m with u | u
      · have hz := h.2.2.2.1 m u (by omega)
        have hz2 : bkS G Hh p k m = true := by unfold bkS; rw [a3]; exact hb
        rw [hz] at hz2; exact absurd hz2 (by decide)
      · exact u
    rw [(memS_iff q).mpr ⟨m, a1, hmq, a3⟩, hb]; rfl
  · rw [if_neg hb, if_neg (fun u => hb (by rw [Bool.and_eq_true] at u; exact u.2))]
theorem lowQ_0 (c : Nat) : lowQ G Hh p k 0 c = Hh c := rfl
theorem cst_0 {j : Nat} (h : bkS G Hh p k (j + 1) = false) : cstS G Hh p k j = 0 := by unfold cstS; rw [h]; rfl
theorem cst_jump {q : Nat} (hq : q < NG G p k) (hm : nxt (bkS G Hh p k) (NG G p k) q < NG G p k) : sumN (cstS G Hh p k) (nxt (bkS G Hh p k) (NG G p k) q) = sumN (cstS G Hh p k) q + (Hh (csG G p k (nxt (bkS G Hh p k) (NG G p k) q)) - wn p (G 3 k) (eyN G p) (G 2 (G 3 k)) (nxt (bkS G Hh p k) (NG G p k) q)) := by
  have h := nxt_spec (bk := bkS G Hh p k) (Nat.le_of_lt hq)
  have h1 := h.2.2.1 hq
  rw [sumN_jump (bk := bkS G Hh p k) (Nat.le_of_lt hq) (fun j hj => cst_0 hj) hm]
  congr 1
  unfold cstS
  rw [show nxt (bkS G Hh p k) (NG G p k) q - 1 + 1 = nxt (bkS G Hh p k) (NG G p k) q by omega, h.2.2.2.2 hm]; rfl
theorem cst_end (hw : wf G) (hp : p < 192) (hk : k < G 0 2) (hpl : plB G p = true) {q : Nat} (hq : q < NG G p k) (hm : nxt (bkS G Hh p k) (NG G p k) q = NG G p k) : sumN (cstS G Hh p k) q = costN G Hh p k := by
  rw [← sumN_stop (bk := bkS G Hh p k) (Nat.le_of_lt hq) (fun j hj => cst_0 hj) hm (Or.inl hq)]
  unfold costN
  rw [sum_blk hw hp hk hpl (fun c => Hh c - wck G p k c)]
  refine sumN_congr _ (fun j hj => ?_)
  unfold cstS
  rw [wck_cs hw hp hk (by omega)]
theorem bk_lt (hw : wf G) (hp : p < 192) (hk : k < G 0 2) {m : Nat} (hm : m ≤ NG G p k) (hb : bkS G Hh p k m = true) : wn p (G 3 k) (eyN G p) (G 2 (G 3 k)) m < Hh (csG G p k m) := by
  have := (blk_lt hb).1
  rw [wck_cs hw hp hk hm] at this; exact this
/-- the opening: one hedge alone -/
theorem one_blk (hw : wf G) (hp : p < 192) (hk : k < G 0 2) (hpl : plB G p = true) (hm : nxt (bkS G Hh p k) (NG G p k) 0 < NG G p k) : (nxt (bkS G Hh p k) (NG G p k) (nxt (bkS G Hh p k) (NG G p k) 0) = NG G p k ↔ cntB (blk G Hh p k) 192 = 1) ∧ (nxt (bkS G Hh p k) (NG G p k) (nxt (bkS G Hh p k) (NG G p k) 0) = NG G p k → opB (blk G Hh p k) 192 = nI (csG G p k (nxt (bkS G Hh p k) (NG G p k) 0))) := by
  have hN := NG_pos hw hp hk hpl
  have h := nxt_spec (bk := bkS G Hh p k) (N := NG G p k) (n := 0) (Nat.zero_le _)
  have h2 := nxt_spec (bk := bkS G Hh p k) (N := NG G p k) (n := nxt (bkS G Hh p k) (NG G p k) 0) (Nat.le_of_lt hm)
  have c1 := cnt_jump (bk := bkS G Hh p k) (Nat.zero_le _) hm
  have c0 : cntB (fun j => bkS G Hh p k (j + 1)) 0 = 0 := rfl
  rw [c0] at c1
  refine ⟨⟨fun q => ?_, fun q => ?_⟩, fun q => ?_⟩
  · rw [cnt_blk hw hp hk hpl, cnt_stop hm q, c1]
  · rcases Nat.lt_or_ge (nxt (bkS G Hh p k) (NG G p k) (nxt (bkS G Hh p k) (NG G p k) 0)) (NG G p k) with u | u
    · have c2 := cnt_jump (bk := bkS G Hh p k) (Nat.le_of_lt hm) u
      rw [cnt_blk hw hp hk hpl] at q
      have mono : ∀ (f : Nat → Bool) (a b : Nat), a ≤ b → cntB f a ≤ cntB f b := by
        intro f a b hab
        induction b with
        | zero => have : a = 0 := by omega
                  subst this; exact Nat.le_refl _
        | succ b ih =>
          rcases Nat.lt_or_ge b a with g | g
          · have : a = b + 1 := by omega
            subst this; exact Nat.le_refl _
          · have := ih g
            have e : cntB f (b + 1) = cntB f b + (if f b then 1 else 0) := rfl
            omega
      have := mono (fun j => bkS G Hh p k (j + 1)) (nxt (bkS G Hh p k) (NG G p k) (nxt (bkS G Hh p k) (NG G p k) 0)) (NG G p k - 1) (by omega)
      omega
    · omega
  · refine opB_one (f := blk G Hh p k) (c := csG G p k (nxt (bkS G Hh p k) (NG G p k) 0)) (h.2.2.2.2 hm) 192 (csG_lt hw hp hk (Nat.le_of_lt hm)) (fun j hj hb => ?_)
    obtain ⟨m, a1, a2, a3⟩ := blk_step hw hp hk hpl hb
    have hbm : bkS G Hh p k m = true := by unfold bkS; rw [a3]; exact hb
    rw [← a3]
    rcases Nat.lt_trichotomy m (nxt (bkS G Hh p k) (NG G p k) 0) with u | u | u
    · have := h.2.2.2.1 m a1 u
      rw [this] at hbm; exact absurd hbm (by decide)
    · rw [u]
    · have := h2.2.2.2.1 m u (by omega)
      rw [this] at hbm; exact absurd hbm (by decide)
end V2
