/-- the reference's one row, out of a line -/
def flt (G : St2) (k : Nat) : Int32 :=
  if k = 0 then G 10 4 else if k = 1 then G 10 0 else if k = 2 then G 10 6 else if k = 3 then G 10 5 else if k = 4 then G 10 1 else if k = 5 then G 10 2 else if k = 6 then G 10 3
  else if k < 17 then G 9 (k - 7) else if k < 24 then G 0 (k - 17) else if k < 31 then G 1 (k - 24) else if k < 38 then G 2 (k - 31) else if k < 44 then G 3 (k - 38)
  else G (4 + (k - 44) % 5) ((k - 44) / 5)
def RelL (G : St2) (row : Nat → Int32) : Prop := ∀ k, k < 84 → row k = flt G k
/-- a number within bounds -/
def bdd (x : Int32) (lo hi : Int) : Prop := lo ≤ x.toInt ∧ x.toInt ≤ hi
/-- the cells of a line -/
def okc (r k : Nat) : Prop := (r < 3 ∧ k < 7) ∨ (r = 3 ∧ k < 6) ∨ (4 ≤ r ∧ r < 9 ∧ k < 8) ∨ (r = 9 ∧ k < 10) ∨ (r = 10 ∧ k < 7)
/-- behind the jumpers nothing but 0 -/
def zb (k : Nat) (n b : Int) : Int := if n ≤ (k : Int) then 0 else b
/-- the bounds of a cell, with n jumpers -/
def lmL (r k : Nat) : Int := if r = 0 then -1 else if r = 9 then -1 else if r = 10 ∧ k = 6 then -2147483648 else 0
def lmH (r k : Nat) (n : Int) : Int := if r = 0 then n - 1 else if r = 1 then 99 else if r = 2 then 99 else if r = 3 then 999 else if r = 4 then 6 else if r = 5 then 99 else if r = 6 then zb k n 99 else if r = 7 then zb k n 9999 else if r = 8 then zb k n 9999 else if r = 9 then n - 1
  else if k = 0 then 8 else if k = 1 then 9 else if k = 2 then 9 else if k = 3 then 4 else if k = 4 then 99999 else if k = 5 then 99999 else 2147483647
/-- what always holds of a line: every cell is in its bounds, nobody stands in two places -/
def InvL (G : St2) : Prop := (∀ r k, okc r k → bdd (G r k) (lmL r k) (lmH r k (G 10 0).toInt)) ∧ (∀ p p', p < 7 → p' < 7 → G 0 p = G 0 p' → ¬ G 0 p = -1 → p = p')
/-- throws so far -/
def thr (G : St2) (n : Nat) : Prop := 0 ≤ (G 10 4).toInt ∧ (G 10 4).toInt ≤ n
def RelF (X M : St2) : Prop := (∀ w, w < 7 → M 3 (w + 1) = X 0 w) ∧ M 3 0 = X 0 0 + X 0 1 + X 0 2 + X 0 3 + X 0 4 + X 0 5 + X 0 6
def RelI (t : Nat) (X K M : St2) : Prop := (X 1 0 = 0 ∨ X 1 0 = 1) ∧ M 12 0 = X 1 0 ∧ (X 1 0 = 1 → InvL K ∧ thr K (60 * t) ∧ RelL K (M 1))
def RelT (P M : St2) : Prop := bdd (P 1 0) 0 120 ∧ M 12 3 = P 1 0 ∧ ∀ k : Nat, k < 120 → (k : Int) < (P 1 0).toInt → bdd (M 4 k) 0 255 ∧ P 0 k = (M 4 k).toInt8.toInt32
def RelZ (Z : Nat → St2) (M : St2) : Prop := ∀ k, k < 4 → (Z k 1 0 = 0 ∨ Z k 1 0 = 8 ∨ Z k 1 0 = 16 ∨ Z k 1 0 = 32) ∧ M 8 k = Z k 1 0 ∧ bdd (Z k 1 1) 0 40 ∧ M 9 k = Z k 1 1 ∧ ∀ i, i < 40 → M 10 (40 * k + i) = Z k 0 i
/-- class and reference at one point of a run, behind t calls -/
def RelS (t : Nat) (X G T K P : St2) (Z : Nat → St2) (M : St2) : Prop := InvL G ∧ thr G (60 * t) ∧ RelL G (M 0) ∧ RelF X M ∧ RelI t X K M ∧ RelT P M ∧ RelZ Z M
/-- one of several becomes another -/
def upZ (Z : Nat → St2) (k : Nat) (z : St2) : Nat → St2 := fun i => if i = k then z else Z i
