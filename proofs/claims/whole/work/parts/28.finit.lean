def L_X2_init_103 (J143 : (Nat → Nat → Int32) → Option ((Nat → Nat → Int32))) : Nat → Int32 → (Nat → Nat → Int32) → Option ((Nat → Nat → Int32))
  | 0, _, _ => none
  | n + 1, x2, A2 =>
    if 72 ≤ x2 then (
      J143 A2
    ) else (
      ix x2 72 <|
      nm (va_up A2 4 (upd (A2 4) (x2).toNatClampNeg (-1))) fun A2_3 =>
      ix x2 72 <|
      nm (va_up A2_3 6 (upd (A2_3 6) (x2).toNatClampNeg (-1))) fun A2_5 =>
      ix x2 72 <|
      nm (va_up A2_5 7 (upd (A2_5 7) (x2).toNatClampNeg (-1))) fun A2_7 =>
      ix x2 72 <|
      nm (va_up A2_7 8 (upd (A2_7 8) (x2).toNatClampNeg (-1))) fun A2_9 =>
      nm (x2 + 1 : Int32) fun v_10 =>
      L_X2_init_103 J143 n v_10 A2_9
    )
def L_X2_init_82 (J101 : (Nat → Nat → Int32) → Option ((Nat → Nat → Int32))) : Nat → Int32 → (Nat → Nat → Int32) → Option ((Nat → Nat → Int32))
  | 0, _, _ => none
  | n + 1, x2, A2 =>
    if 6 ≤ x2 then (
      J101 A2
    ) else (
      ix x2 6 <|
      nm (va_up A2 2 (upd (A2 2) (x2).toNatClampNeg (-1))) fun A2_13 =>
      nm (x2 + 1 : Int32) fun v_14 =>
      L_X2_init_82 J101 n v_14 A2_13
    )
def F_X2_init (A2 : Nat → Nat → Int32) : Option (Nat → Nat → Int32) :=
  nm (fun (A2 : Nat → Nat → Int32) =>
      some (A2)
    ) fun J143 =>
  nm (fun (A2 : Nat → Nat → Int32) =>
      L_X2_init_103 J143 FU 0 A2
    ) fun J101 =>
  L_X2_init_82 J101 FU 0 A2
def L_X6_init_262 (J302 : (Nat → Nat → Int32) → Option ((Nat → Nat → Int32))) : Nat → Int32 → (Nat → Nat → Int32) → Option ((Nat → Nat → Int32))
  | 0, _, _ => none
  | n + 1, x1, A6 =>
    if 72 ≤ x1 then (
      J302 A6
    ) else (
      ix x1 72 <|
      nm (va_up A6 8 (upd (A6 8) (x1).toNatClampNeg (-1))) fun A6_3 =>
      ix x1 72 <|
      nm (va_up A6_3 10 (upd (A6_3 10) (x1).toNatClampNeg (-1))) fun A6_5 =>
      ix x1 72 <|
      nm (va_up A6_5 11 (upd (A6_5 11) (x1).toNatClampNeg (-1))) fun A6_7 =>
      ix x1 72 <|
      nm (va_up A6_7 12 (upd (A6_7 12) (x1).toNatClampNeg (-1))) fun A6_9 =>
      nm (x1 + 1 : Int32) fun v_10 =>
      L_X6_init_262 J302 n v_10 A6_9
    )
def L_X6_init_241 (J260 : (Nat → Nat → Int32) → Option ((Nat → Nat → Int32))) : Nat → Int32 → (Nat → Nat → Int32) → Option ((Nat → Nat → Int32))
  | 0, _, _ => none
  | n + 1, x1, A6 =>
    if 6 ≤ x1 then (
      J260 A6
    ) else (
      ix x1 6 <|
      nm (va_up A6 6 (upd (A6 6) (x1).toNatClampNeg (-1))) fun A6_13 =>
      nm (x1 + 1 : Int32) fun v_14 =>
      L_X6_init_241 J260 n v_14 A6_13
    )
def F_X6_init (A6 : Nat → Nat → Int32) : Option (Nat → Nat → Int32) :=
  nm (fun (A6 : Nat → Nat → Int32) =>
      some (A6)
    ) fun J302 =>
  nm (fun (A6 : Nat → Nat → Int32) =>
      L_X6_init_262 J302 FU 0 A6
    ) fun J260 =>
  L_X6_init_241 J260 FU 0 A6
