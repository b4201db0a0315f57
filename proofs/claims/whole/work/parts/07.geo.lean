/-! ===== the plane: which cells a line crosses, in parts of its length. Nat alone; what is finite is counted out ===== -/
def mx1 (n : Nat) : Nat := if n = 0 then 1 else n
/-- where the line leaves the cell (i, j) -/
def lft (dx dy i j : Nat) : Nat := if (2 * i + 1) * dy ≤ (2 * j + 1) * dx then (2 * i + 1) * mx1 dy else (2 * j + 1) * mx1 dx
/-- column steps, row steps, where it came in -/
def stp (dx dy : Nat) (q : Nat × Nat × Nat) : Nat × Nat × Nat := (if (2 * q.1 + 1) * dy ≤ (2 * q.2.1 + 1) * dx then q.1 + 1 else q.1, if (2 * q.2.1 + 1) * dx ≤ (2 * q.1 + 1) * dy then q.2.1 + 1 else q.2.1, lft dx dy q.1 q.2.1)
def trv (dx dy : Nat) : Nat → Nat × Nat × Nat
  | 0 => (0, 0, 0)
  | n + 1 => stp dx dy (trv dx dy n)
/-- how many steps to the end -/
def arrv (dx dy : Nat) (q : Nat × Nat × Nat) : Bool := decide (dx ≤ q.1) && decide (dy ≤ q.2.1)
def cntN (dx dy : Nat) : Nat → Nat × Nat × Nat → Nat
  | 0, _ => 0
  | k + 1, q => if arrv dx dy q then 0 else cntN dx dy k (stp dx dy q) + 1
def endN (dx dy : Nat) : Nat := cntN dx dy 28 (0, 0, 0)
/-- begin and end above the cell (i, j), as the strips have it -/
def bgN (dx dy i j : Nat) : Nat := max (if dx = 0 then 0 else (2 * i - 1) * mx1 dy) (if dy = 0 then 0 else (2 * j - 1) * mx1 dx)
def edN (dx dy i j : Nat) : Nat := min (2 * mx1 dx * mx1 dy) (min (if dx = 0 then 2 * mx1 dx * mx1 dy else (2 * i + 1) * mx1 dy) (if dy = 0 then 2 * mx1 dx * mx1 dy else (2 * j + 1) * mx1 dx))
/-- the steps as a list -/
def lstN (dx dy : Nat) : Nat → Nat × Nat × Nat → List (Nat × Nat × Nat)
  | 0, _ => []
  | k + 1, q => q :: lstN dx dy k (stp dx dy q)
theorem lstN_get (dx dy : Nat) : ∀ (k m n : Nat), n < k → (lstN dx dy k (trv dx dy m))[n]? = some (trv dx dy (m + n))
  | 0, _, _, h => absurd h (by omega)
  | k + 1, m, 0, _ => rfl
  | k + 1, m, n + 1, h => by
    show (lstN dx dy k (trv dx dy (m + 1)))[n]? = _
    rw [lstN_get dx dy k (m + 1) n (by omega)]
    congr 2; omega
/-- what is counted out for one pair: the end is near; on the way the steps stay in, come in at bgN, leave at edN; no cell twice; every cell with bgN < edN is met -/
def chkN (dx dy : Nat) : Bool :=
  let N := endN dx dy
  let l := lstN dx dy (N + 1) (0, 0, 0)
  decide (N ≤ dx + dy) && (l.all fun q => decide (q.1 ≤ dx) && decide (q.2.1 ≤ dy) && decide (q.2.2 = bgN dx dy q.1 q.2.1) && decide (bgN dx dy q.1 q.2.1 < edN dx dy q.1 q.2.1) && (arrv dx dy q || decide (lft dx dy q.1 q.2.1 = edN dx dy q.1 q.2.1)))
  && ((l.dropLast).all fun q => !arrv dx dy q) && (match l[N]? with | some q => decide (q.1 = dx) && decide (q.2.1 = dy) | none => false)
  && decide (((l.map fun q => 16 * q.2.1 + q.1)).Nodup)
  && ((List.range (dx + 1)).all fun i => (List.range (dy + 1)).all fun j => !decide (bgN dx dy i j < edN dx dy i j) || l.any (fun q => decide (q.1 = i) && decide (q.2.1 = j)))
set_option maxRecDepth 100000 in
theorem chk_all : ((List.range 16).all fun dx => (List.range 12).all fun dy => chkN dx dy) = true := by decide +kernel
