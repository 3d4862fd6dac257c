/-! functions of the house's methods on halls -/
def hNo (f : Nat → Option Nat) (p1 : Int32) : Option Nat := if p1 < 0 then none else if 12 ≤ p1 then none else f p1.toNatClampNeg
def F_X5_week (S1 : Nat → Int32) (A1 : Nat → Nat → Int32) (p2 p3 : Int32) : Option (Int32 × (Nat → Int32)) :=
  bd (F_X5_isTold p2) fun z1 =>
  if z1 = 0 then some (-1, S1) else
  bd (F_X5_isTold p3) fun z2 =>
  if z2 = 0 then some (-1, S1) else
  F_X1_passWeek S1 A1 p2 p3
def hlS : Nat → Int32 := upd (fun _ => 0) 6 1
def hlA : Nat → Nat → Int32 := fun _ _ => 0
/-- answer; is a hall made; the house's, the reader's, the draft's cells -/
def F_X5_hall (S5 S0 : Nat → Int32) (A0 : Nat → Nat → Int32) (S1 : Nat → Int32) (A1 : Nat → Nat → Int32) (p1 : Int32) : Option (Int32 × Bool × (Nat → Int32) × (Nat → Int32) × (Nat → Int32) × (Nat → Nat → Int32)) :=
  if p1 < 0 then some (-2, false, S5, S0, S1, A1) else
  if p1 ≤ S0 1 then
    (if S5 6 < 0 then some (-3, false, S5, S0, S1, A1) else
    if S5 6 < 12 then
      bd (F_X0_readContract S0 A0 S1 A1 p1) fun z =>
      if z.1 = -1 then
        ix (S5 6) 12 <| some (S5 6, true, upd (upd S5 7 z.1) 6 (S5 6 + 1), z.2.1, z.2.2.1, z.2.2.2)
      else some (-1, false, upd S5 7 z.1, z.2.1, z.2.2.1, z.2.2.2)
    else some (-3, false, S5, S0, S1, A1))
  else some (-2, false, S5, S0, S1, A1)
