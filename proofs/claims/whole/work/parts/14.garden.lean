/-! ===== loops ===== -/
section Loop
variable {p : Program} {l : Launch} {e : Env} {R : Room} {s : State} {m : MethodId} {args : Array Value} {below : List Frame} {meth : Method} {c : Code} {cells slots : Nat} {Q : State → Prop}
variable {D : va_G} {cy : ClassId} {cel : GS → va_W} {A : Nat → Prop}
/-- a loop: at its head the invariant holds, and each way round makes the measure less -/
theorem g_rec {τ : Type} (Inv : τ → GS → Prop) (mu : τ → Nat) (fr : τ → List (Nat × Value)) (hd nL : Nat)
    (body : ∀ (x : τ) (S : GS) (H : Heap) (locs : List Loc) (ls : Array Slot), Inv x S → GW D cy cel A s S H locs → lv_has ls nL (fr x) → (∀ (x' : τ) (S' : GS) (H' : Heap) (locs' : List Loc) (ls' : Array Slot), mu x' < mu x → Inv x' S' → GW D cy cel A s S' H' locs' → lv_has ls' nL (fr x') → W p l e R s m args below meth c H' locs' cells slots Q (F0 m hd ls' [])) → W p l e R s m args below meth c H locs cells slots Q (F0 m hd ls [])) :
    ∀ (x : τ) (S : GS) (H : Heap) (locs : List Loc) (ls : Array Slot), Inv x S → GW D cy cel A s S H locs → lv_has ls nL (fr x) → W p l e R s m args below meth c H locs cells slots Q (F0 m hd ls []) := by
  have key : ∀ (n : Nat) (x : τ) (S : GS) (H : Heap) (locs : List Loc) (ls : Array Slot), mu x < n → Inv x S → GW D cy cel A s S H locs → lv_has ls nL (fr x) → W p l e R s m args below meth c H locs cells slots Q (F0 m hd ls []) := by
    intro n
    induction n with
    | zero => intro x S H locs ls h; exact absurd h (by omega)
    | succ n ih =>
      intro x S H locs ls h hI hG hl
      exact body x S H locs ls hI hG hl (fun x' S' H' locs' ls' h' hI' hG' hl' => ih x' S' H' locs' ls' (by omega) hI' hG' hl')
  intro x S H locs ls hI hG hl
  exact key (mu x + 1) x S H locs ls (Nat.lt_succ_self _) hI hG hl
end Loop
/-! ===== the garden, in numbers: the one picture that both sides hold =====
G 0: columns, rows, features, places of the walk, wishes; 1 kinds; 2 heights; 3 features' cells; 4 worths; 5 the walk's cells; 6 wishes' cells; 7 wishes' features -/
abbrev GN : Type := Nat → Nat → Nat
def upN (G : GN) (a i v : Nat) : GN := fun b j => if b = a ∧ j = i then v else G b j
def wf (G : GN) : Prop :=
  (3 ≤ G 0 0 ∧ G 0 0 ≤ 16 ∧ 3 ≤ G 0 1 ∧ G 0 1 ≤ 12 ∧ G 0 2 ≤ 10 ∧ G 0 3 ≤ 40 ∧ G 0 4 ≤ 10)
  ∧ (∀ c, c < 192 → G 1 c ≤ 4 ∧ G 2 c ≤ 60 ∧ (G 1 c = 2 → 1 ≤ G 2 c ∧ G 2 c ≤ 40) ∧ (G 1 c ≠ 2 → G 1 c ≠ 4 → G 2 c = 0))
  ∧ (∀ k, k < G 0 2 → G 3 k < 192 ∧ G 1 (G 3 k) = 4 ∧ G 4 k ≤ 9)
  ∧ (∀ i, i < G 0 3 → G 5 i < 192)
  ∧ (∀ i, i < G 0 4 → G 6 i < 192 ∧ G 7 i < G 0 2)
/-- the class holds G -/
def encC (G : GN) (S : GS) : Prop :=
  (S 0 0 = nI (G 0 0) ∧ S 0 1 = nI (G 0 1) ∧ S 0 4 = nI (G 0 2) ∧ S 0 7 = nI (G 0 3) ∧ S 0 9 = nI (G 0 4))
  ∧ (∀ c, c < 192 → S 2 c = nI (G 1 c)) ∧ (∀ c, c < 192 → S 3 c = nI (G 2 c))
  ∧ (∀ k, k < G 0 2 → S 5 k = nI (G 3 k) ∧ S 6 k = nI (G 4 k))
  ∧ (∀ i, i < G 0 3 → S 8 i = nI (G 5 i))
  ∧ (∀ i, i < G 0 4 → S 10 i = nI (G 6 i) ∧ S 11 i = nI (G 7 i))
/-- the reference holds G -/
def encM (G : GN) (S : GS) : Prop :=
  (S 0 0 = nI (G 0 0) ∧ S 0 1 = nI (G 0 1) ∧ S 0 4 = nI (G 0 2) ∧ S 0 18 = nI (G 0 3) ∧ S 0 22 = nI (G 0 4))
  ∧ (∀ c, c < 192 → S 2 c = nI (G 1 c)) ∧ (∀ c, c < 192 → S 3 c = nI (G 2 c))
  ∧ (∀ k, k < G 0 2 → S 5 k = nI (G 3 k % 16) ∧ S 6 k = nI (G 3 k / 16) ∧ S 7 k = nI (G 4 k))
  ∧ (∀ i, i < G 0 3 → S 19 i = nI (G 5 i % 16) ∧ S 20 i = nI (G 5 i / 16))
  ∧ (∀ i, i < G 0 4 → S 23 i = nI (G 6 i % 16) ∧ S 24 i = nI (G 6 i / 16) ∧ S 25 i = nI (G 7 i))
/-- but for the line -/
def fr13 (S S' : GS) : Prop := ∀ j, j ≠ 13 → S' j = S j
theorem encC.fr {G : GN} {S S' : GS} (h : encC G S) (hf : fr13 S S') : encC G S' := by
  unfold encC
  rw [hf 0 (by decide), hf 2 (by decide), hf 3 (by decide), hf 5 (by decide), hf 6 (by decide), hf 8 (by decide), hf 10 (by decide), hf 11 (by decide)]
  exact h
theorem fr13.rf {S : GS} : fr13 S S := fun _ _ => rfl
theorem fr13.tr {S S1 S2 : GS} (h1 : fr13 S S1) (h2 : fr13 S1 S2) : fr13 S S2 := fun j hj => (h2 j hj).trans (h1 j hj)
theorem fr13_sc (S : GS) (f : Nat → Int32) : fr13 S (sc S 13 f) := fun j hj => by unfold sc; rw [if_neg hj]
theorem sc_13 (S : GS) (f : Nat → Int32) : sc S 13 f 13 = f := rfl
/-- but for the line and the plan -/
def fr12 (S S' : GS) : Prop := ∀ j, j ≠ 12 → j ≠ 13 → S' j = S j
theorem encC.fr2 {G : GN} {S S' : GS} (h : encC G S) (hf : fr12 S S') : encC G S' := by
  unfold encC
  rw [hf 0 (by decide) (by decide), hf 2 (by decide) (by decide), hf 3 (by decide) (by decide), hf 5 (by decide) (by decide), hf 6 (by decide) (by decide), hf 8 (by decide) (by decide), hf 10 (by decide) (by decide), hf 11 (by decide) (by decide)]
  exact h
theorem encC.ok {G : GN} {S : GS} (h : encC G S) (hw : wf G) : okC S := by
  obtain ⟨⟨e0, e1, -⟩, -⟩ := h
  obtain ⟨⟨-, w1, -, w2, -⟩, -⟩ := hw
  unfold okC
  rw [e0, e1]
  exact ⟨nI_le w1 (by decide), nI_le w2 (by decide)⟩
/-! counts and sums over the first n numbers -/
def cntB (f : Nat → Bool) : Nat → Nat
  | 0 => 0
  | n + 1 => cntB f n + (if f n then 1 else 0)
def sumN (f : Nat → Nat) : Nat → Nat
  | 0 => 0
  | n + 1 => sumN f n + f n
theorem cntB_le (f : Nat → Bool) : ∀ n, cntB f n ≤ n
  | 0 => Nat.le_refl 0
  | n + 1 => by have := cntB_le f n; unfold cntB; split <;> omega
theorem sumN_le {f : Nat → Nat} {b : Nat} : ∀ n, (∀ k, k < n → f k ≤ b) → sumN f n ≤ n * b
  | 0, _ => by simp [sumN]
  | n + 1, h => by
    have h1 := sumN_le n (fun k hk => h k (by omega))
    have h2 := h n (by omega)
    unfold sumN; rw [Nat.add_mul]; omega
theorem sumN_congr {f g : Nat → Nat} : ∀ n, (∀ k, k < n → f k = g k) → sumN f n = sumN g n
  | 0, _ => rfl
  | n + 1, h => by unfold sumN; rw [sumN_congr n (fun k hk => h k (by omega)), h n (by omega)]
theorem cntB_congr {f g : Nat → Bool} : ∀ n, (∀ k, k < n → f k = g k) → cntB f n = cntB g n
  | 0, _ => rfl
  | n + 1, h => by unfold cntB; rw [cntB_congr n (fun k hk => h k (by omega)), h n (by omega)]
theorem cntB_sum (f : Nat → Bool) : ∀ n, cntB f n = sumN (fun k => if f k then 1 else 0) n
  | 0 => rfl
  | n + 1 => by unfold cntB sumN; rw [cntB_sum f n]
theorem cntB_0 {f : Nat → Bool} : ∀ n, cntB f n = 0 ↔ ∀ k, k < n → f k = false
  | 0 => ⟨fun _ k hk => absurd hk (by omega), fun _ => rfl⟩
  | n + 1 => by
    unfold cntB
    have := cntB_0 (f := f) n
    constructor
    · intro h k hk
      rcases Nat.lt_or_ge k n with g | g
      · exact this.mp (by omega) k g
      · have : k = n := by omega
        subst this
        cases hf : f k
        · rfl
        · rw [hf] at h; simp at h
    · intro h
      rw [this.mpr (fun k hk => h k (by omega)), h n (by omega)]; rfl
/-- a place -/
def plB (G : GN) (c : Nat) : Bool := decide (G 1 c = 0) || decide (G 1 c = 1) || decide (G 1 c = 3)
def eyN (G : GN) (c : Nat) : Nat := if G 1 c = 3 then 11 else 16
theorem eyN_le (G : GN) (c : Nat) : eyN G c ≤ 60 := by unfold eyN; split <;> omega
/-- a hedge's height in a picture of heights -/
def LK (G : GN) (Hh : Nat → Nat) (c : Nat) : Nat := if G 1 c = 2 then Hh c else 0
/-- the cell's hedge blocks the view of feature k from p -/
def blk (G : GN) (Hh : Nat → Nat) (p k c : Nat) : Bool := blB p (G 3 k) (eyN G p) (G 2 (G 3 k)) c (LK G Hh c)
def wck (G : GN) (p k c : Nat) : Nat := wcl p (G 3 k) (eyN G p) (G 2 (G 3 k)) c
def visB (G : GN) (Hh : Nat → Nat) (p k : Nat) : Bool := decide (cntB (blk G Hh p k) 192 = 0)
