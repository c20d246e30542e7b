/-- the fewest calls: by which calls say the same -/
def c4 (E : Nat → Nat → Bool) : Nat → Nat
  | 0 => 0
  | n + 1 => if (List.range n).any (fun j => E j n) then c4 E n else c4 E n ||| 2 ^ n
def fullE (E : Nat → Nat → Bool) (cs : Nat) : Bool := (List.range 6).all fun i => (List.range 6).any fun j => cs.testBit j && E j i
def bc (c : Nat) : Nat := c % 2 + c / 2 % 2 + c / 4 % 2 + c / 8 % 2 + c / 16 % 2 + c / 32 % 2
def c5 (E : Nat → Nat → Bool) : Nat → Nat → Nat
  | 0, b => b
  | c + 1, b => c5 E c (if fullE E c then (if bc b < bc c then b else c) else b)
def fF (a b c d e : Nat) (i : Nat) : Nat := if i = 0 then 0 else if i = 1 then a else if i = 2 then b else if i = 3 then c else if i = 4 then d else e
def eE (a b c d e : Nat) (i j : Nat) : Bool := fF a b c d e i == fF a b c d e j
theorem cov_all : (List.range 2).all (fun a => (List.range 3).all fun b => (List.range 4).all fun c => (List.range 5).all fun d => (List.range 6).all fun e => !(List.range 6).all (fun i => fF a b c d e (fF a b c d e i) == fF a b c d e i) || c4 (eE a b c d e) 6 == c5 (eE a b c d e) 64 63) = true := by decide +kernel

