/-! both objects are made: what the small machine comes to, by running it -/
def lnA : List (Nat × Nat) := lenX ++ lenM ++ [(6, 24), (8, 24), (10, 24), (21, 24), (23, 24), (25, 24), (36, 24), (38, 24), (40, 24), (51, 24), (53, 24), (55, 24)]
def ln0 (a : Nat) : Nat := match lnA.find? (fun p : Nat × Nat => p.1 == a) with
  | some p => p.2
  | none => 0
def S0 (a k : Nat) : Int32 := match a, k with
  | 71, 3 => 1
  | 93, 19 => 1
  | 88, 0 => -1
  | 88, 1 => -1
  | 88, 3 => -1
  | 93, 24 => -1
  | 93, 25 => -1
  | 93, 27 => -1
  | _, _ => 0
def V0 (a : Nat) : List Int32 := List.replicate (ln0 a) 0
def h0 : am_H := am_new (0, 0, fun _ => none) (.inl (8, am_df 8)) (am_df 8).length
def hT : am_H := (93, 1427, fun k => if k < 93 then HS S0 V0 k else none)
def hN : am_H := am_new hT (.inl (9, am_df 9)) (am_df 9).length
def ic_h (n : Nat) (g : Nat → Option am_E) (r : Option (Option Value × am_H)) (m : Nat) : Bool := match r with
  | some R => decide (R.1 = none) && decide (R.2.1 = n) && decide (R.2.2.1 = m) && (List.range n).all (fun a => decide (R.2.2.2 a = g a))
  | none => false
set_option maxRecDepth 100000 in
theorem ic_1 : ic_h 93 (HS S0 V0) (am_run 5000 20 54 0 (am_en 54 [.ref 0]) [] h0) 1427 = true := by decide +kernel
set_option maxRecDepth 100000 in
theorem ic_2 : ic_h 121 (HS S0 V0) (am_run 5000 20 75 0 (am_en 75 [.ref 93]) [] hN) 2508 = true := by decide +kernel
