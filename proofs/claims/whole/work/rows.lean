section
/-! base: words that the generated functions are made of, and the contracts' one form -/
def nm {α β : Type} (e : α) (f : α → β) : β := f e
theorem nm_at {α β : Type} {e : α} {f : α → β} {z : β} {v : α} (h : nm e f = z) (hv : v = e) : f v = z := by rw [hv]; exact h
theorem nm_ex {α β : Type} {e : α} {f : α → β} {z : β} (h : nm e f = z) : ∃ v, v = e ∧ f v = z := ⟨e, rfl, h⟩
def ix {β : Type} (i : Int32) (n : Nat) (x : Option β) : Option β := if i < 0 ∨ n ≤ i.toNatClampNeg then none else x
theorem ix_at {β : Type} {i : Int32} {n : Nat} {x : Option β} {z : β} (h : ix i n x = some z) : vp_in i n ∧ x = some z := by
  unfold ix at h
  by_cases hc : i < 0 ∨ n ≤ i.toNatClampNeg
  · rw [if_pos hc] at h; cases h
  · rw [if_neg hc] at h; exact ⟨hc, h⟩
def nz {β : Type} (y : Int32) (x : Option β) : Option β := if y = 0 then none else x
theorem nz_at {β : Type} {y : Int32} {x : Option β} {z : β} (h : nz y x = some z) : ¬ y = 0 ∧ x = some z := by
  unfold nz at h
  by_cases hc : y = 0
  · rw [if_pos hc] at h; cases h
  · rw [if_neg hc] at h; exact ⟨hc, h⟩
def zb {β : Type} (v : Int32) (x : Option β) : Option β := if v = 0 ∨ v = 1 then x else none
theorem zb_at {β : Type} {v : Int32} {x : Option β} {z : β} (h : zb v x = some z) : narrow .boolean (.int v) = .int v ∧ x = some z := by
  unfold zb at h
  by_cases hc : v = 0 ∨ v = 1
  · rw [if_pos hc] at h
    refine ⟨?_, h⟩
    rcases hc with rfl | rfl
    · decide
    · decide
  · rw [if_neg hc] at h; cases h
theorem nb0 : narrow .boolean (.int 0) = .int 0 := by decide
theorem nb1 : narrow .boolean (.int 1) = .int 1 := by decide
def bd {α β : Type} (x : Option α) (f : α → Option β) : Option β := match x with
  | none => none
  | some a => f a
theorem bd_at {α β : Type} {x : Option α} {f : α → Option β} {z : β} (h : bd x f = some z) : ∃ a, x = some a ∧ f a = some z := by
  cases x with
  | none => cases h
  | some a => exact ⟨a, rfl, h⟩
theorem ifp {α : Type} {c : Prop} [Decidable c] {x y z : α} (h : (if c then x else y) = z) (hc : c) : x = z := by rw [if_pos hc] at h; exact h
theorem ifn {α : Type} {c : Prop} [Decidable c] {x y z : α} (h : (if c then x else y) = z) (hc : ¬ c) : y = z := by rw [if_neg hc] at h; exact h
def gk {β : Type} (k : Nat) (x : Option β) : Option β := if k < 8 then x else none
theorem gk_at {β : Type} {k : Nat} {x : Option β} {z : β} (h : gk k x = some z) : k < 8 ∧ x = some z := by
  unfold gk at h
  by_cases hc : k < 8
  · rw [if_pos hc] at h; exact ⟨hc, h⟩
  · rw [if_neg hc] at h; cases h
def FU : Nat := 100000
def sLen : List Nat := [5, 4, 4, 2, 4, 6, 5, 3]
def sByt : List (List Int32) := [[119, 101, 101, 107, 115], [112, 97, 114, 116], [114, 101, 110, 116], [105, 102], [119, 101, 101, 107], [112, 101, 111, 112, 108, 101], [99, 111, 105, 110, 115], [97, 110, 100]]
end
section
def F_J9_floorMod_7cf53 (p1 : Int32) (p2 : Int32) : Option (Int32) :=
  nz p2 <|
  nm ((p1 - p1 / p2 * p2) : Int32) fun v_2 =>
  if 0 ≤ (p1 ^^^ p2) then (
    some (v_2)
  ) else (
    if v_2 = 0 then (
      some (v_2)
    ) else (
      some ((v_2 + p2))
    )
  )
def F_J9_floorDiv_7cf53 (p1 : Int32) (p2 : Int32) : Option (Int32) :=
  nz p2 <|
  nm ((p1 / p2) : Int32) fun v_2 =>
  if 0 ≤ (p1 ^^^ p2) then (
    some (v_2)
  ) else (
    if (v_2 * p2) = p1 then (
      some (v_2)
    ) else (
      some ((v_2 - 1))
    )
  )
def F_X3_tell (S3 : Nat → Int32) (p1 : Int32) : Option (Int32) :=
  if p1 = 0 then (
    some (S3 2)
  ) else (
  if p1 = 1 then (
    some (S3 3)
  ) else (
  if p1 = 2 then (
    some (S3 4)
  ) else (
  if p1 = 3 then (
    some (S3 5)
  ) else (
  if p1 = 4 then (
    some (S3 6)
  ) else (
  if p1 = 5 then (
    some (S3 1)
  ) else (
    some ((-1))
  ))))))
def F_X3_setRoom (S3 : Nat → Int32) (p1 : Int32) : Option (Int32 × (Nat → Int32)) :=
  if p1 < 1 then (
    some (0, S3)
  ) else (
    if p1 ≤ 200 then (
      nm (upd S3 1 p1) fun S3_3 =>
      some (1, S3_3)
    ) else (
      some (0, S3)
    )
  )
def F_X3_passMinute (S3 : Nat → Int32) (A3 : Nat → Nat → Int32) (p1 : Int32) : Option (Int32 × (Nat → Int32) × (Nat → Nat → Int32)) :=
  if p1 < 0 then (
    some ((-1), S3, A3)
  ) else (
    if 500 < p1 then (
      some ((-1), S3, A3)
    ) else (
      if ((S3 3) + p1) ≤ 2000 then (
        bd (F_J9_floorMod_7cf53 (S3 5) 12) fun z_4 =>
        ix z_4 12 <|
        nm (upd S3 2 ((S3 2) - (A3 0 (z_4).toNatClampNeg))) fun S3_6 =>
        ix z_4 12 <|
        nm (upd S3_6 4 ((S3_6 4) + (A3 0 (z_4).toNatClampNeg))) fun S3_8 =>
        nm (upd S3_8 3 ((S3_8 3) + p1)) fun S3_9 =>
        nm ((if ((S3_9 1) - (S3_9 2)) < 0 then 0 else ((S3_9 1) - (S3_9 2))) : Int32) fun v_10 =>
        nm ((if (S3_9 3) < v_10 then (S3_9 3) else v_10) : Int32) fun v_11 =>
        nm ((if 8 < v_11 then 8 else v_11) : Int32) fun v_12 =>
        ix z_4 12 <|
        nm (va_up A3 0 (upd (A3 0) (z_4).toNatClampNeg v_12)) fun A3_14 =>
        nm (upd S3_9 3 ((S3_9 3) - v_12)) fun S3_15 =>
        nm (upd S3_15 2 ((S3_15 2) + v_12)) fun S3_16 =>
        nm (upd S3_16 5 ((S3_16 5) + 1)) fun S3_17 =>
        nm ((if (S3_17 6) < (S3_17 2) then (S3_17 2) else (S3_17 6)) : Int32) fun v_18 =>
        nm (upd S3_17 6 v_18) fun S3_19 =>
        some (v_12, S3_19, A3_14)
      ) else (
        some ((-1), S3, A3)
      )
    )
  )
def F_X5_isSquare (p1 : Int32) : Option (Int32) :=
  if p1 < 0 then (
    some (0)
  ) else (
    if 72 ≤ p1 then (
      some (0)
    ) else (
      some (1)
    )
  )
def F_X5_isTold (p1 : Int32) : Option (Int32) :=
  if p1 < 0 then (
    some (0)
  ) else (
    if 99999 < p1 then (
      some (0)
    ) else (
      some (1)
    )
  )
def F_X4_isMark (p1 : Int32) (p2 : Int32) (p3 : Int32) : Option (Int32) :=
  if p1 < 0 then (
    some (0)
  ) else (
    if 12 ≤ p1 then (
      some (0)
    ) else (
      if p2 < 0 then (
        some (0)
      ) else (
        if 40 ≤ p2 then (
          some (0)
        ) else (
          if p3 < 0 then (
            some (0)
          ) else (
            if 20 ≤ p3 then (
              some (0)
            ) else (
              some (1)
            )
          )
        )
      )
    )
  )
def F_X4_isPlace (p1 : Int32) (p2 : Int32) : Option (Int32) :=
  if p1 < 0 then (
    some (0)
  ) else (
    if 360 ≤ p1 then (
      some (0)
    ) else (
      if p2 < 0 then (
        some (0)
      ) else (
        if 20 ≤ p2 then (
          some (0)
        ) else (
          some (1)
        )
      )
    )
  )
def F_X4_isColour (p1 : Int32) : Option (Int32) :=
  if p1 < 0 then (
    some (0)
  ) else (
    if 7 < p1 then (
      some (0)
    ) else (
      some (1)
    )
  )
def F_X4_offsetOf (p1 : Int32) : Option (Int32) :=
  nm ((p1 - 20) : Int32) fun v_1 =>
  some ((v_1 - (((v_1 * v_1) * v_1) / 6000)))
def F_X4_stretchOf (p1 : Int32) : Option (Int32) :=
  nm ((p1 - 20) : Int32) fun v_1 =>
  some ((1000 + (v_1 * v_1)))
def F_X4_columnOf (p1 : Int32) (p2 : Int32) : Option (Int32) :=
  bd (F_X4_offsetOf p2) fun z_1 =>
  bd (F_J9_floorMod_7cf53 ((30 * p1) + z_1) 360) fun z_2 =>
  some (z_2)
def F_X4_rowOf (p1 : Int32) (p2 : Int32) : Option (Int32) :=
  bd (F_X4_stretchOf p1) fun z_1 =>
  nz z_1 <|
  some (((p2 * 1000) / z_1))
def F_X4_squareOf (p1 : Int32) (p2 : Int32) : Option (Int32) :=
  if 10 ≤ p2 then (
    some (((p1 / 10) + 0))
  ) else (
    some (((p1 / 10) + 36))
  )
def F_X4_placeInMarks (p1 : Int32) (p2 : Int32) (p3 : Int32) : Option (Int32) :=
  some (((((p1 * 40) + p2) * 20) + p3))
def F_X4_partOfWay (p1 : Int32) (p2 : Int32) (p3 : Int32) : Option (Int32) :=
  if 1 ≤ p3 then (
    bd (F_J9_floorDiv_7cf53 (p1 * p2) p3) fun z_2 =>
    some (z_2)
  ) else (
    some (0)
  )
def L_X4_colourInStrip_29 (A4 : Nat → Nat → Int32) (J91 : Option (Int32)) : Nat → Int32 → Int32 → Int32 → Int32 → Int32 → Option (Int32)
  | 0, _, _, _, _, _ => none
  | n + 1, x1, x2, x3, x4, x6 =>
    nm (fun (x1 : Int32) (x2 : Int32) (x3 : Int32) (x4 : Int32) (x6 : Int32) =>
        nm (x6 + (-1) : Int32) fun v_1 =>
        L_X4_colourInStrip_29 A4 J91 n x1 x2 x3 x4 v_1
      ) fun J85 =>
    if x6 < 0 then (
      J91
    ) else (
      if (x6 * 1000) < (x3 * x4) then (
        J91
      ) else (
        bd (F_X4_isMark x1 x2 x6) fun z_4 =>
        if z_4 = 0 then (
          J85 x1 x2 x3 x4 x6
        ) else (
          bd (F_X4_placeInMarks x1 x2 x6) fun z_6 =>
          ix z_6 9600 <|
          if (A4 0 (z_6).toNatClampNeg) = 0 then (
            J85 x1 x2 x3 x4 x6
          ) else (
            bd (F_X4_placeInMarks x1 x2 x6) fun z_9 =>
            ix z_9 9600 <|
            some ((A4 0 (z_9).toNatClampNeg))
          )
        )
      )
    )
def F_X4_colourInStrip (A4 : Nat → Nat → Int32) (p1 : Int32) (p2 : Int32) (p3 : Int32) : Option (Int32) :=
  nm (
      some (0)
    ) fun J91 =>
  bd (F_X4_stretchOf p2) fun z_11 =>
  nm ((if 19 < ((((p3 + 1) * z_11) - 1) / 1000) then 19 else ((((p3 + 1) * z_11) - 1) / 1000)) : Int32) fun v_12 =>
  L_X4_colourInStrip_29 A4 J91 FU p1 p2 p3 z_11 v_12
def L_X4_colourShown_55 (A4 : Nat → Nat → Int32) (J102 : Option (Int32)) : Nat → Int32 → Int32 → Int32 → Int32 → Int32 → Option (Int32)
  | 0, _, _, _, _, _ => none
  | n + 1, x1, x3, x5, x6, x7 =>
    nm (fun (x1 : Int32) (x3 : Int32) (x5 : Int32) (x6 : Int32) (x7 : Int32) (y0 : Int32) =>
        if y0 = 0 then (
          nm (x7 + (-1) : Int32) fun v_2 =>
          L_X4_colourShown_55 A4 J102 n x1 x3 x5 x6 v_2
        ) else (
          some (y0)
        )
      ) fun J86 =>
    if x7 < (x6 - 1) then (
      J102
    ) else (
      bd (F_X4_offsetOf x7) fun z_4 =>
      if z_4 = x5 then (
        bd (F_X4_colourInStrip A4 x1 x7 x3) fun z_6 =>
        J86 x1 x3 x5 x6 x7 z_6
      ) else (
        J86 x1 x3 x5 x6 x7 0
      )
    )
def F_X4_colourShown (A4 : Nat → Nat → Int32) (p1 : Int32) (p2 : Int32) (p3 : Int32) : Option (Int32) :=
  nm (
      some (0)
    ) fun J102 =>
  nm (((p2 - (30 * p1)) + 180) : Int32) fun v_7 =>
  bd (F_J9_floorMod_7cf53 v_7 360) fun z_8 =>
  nm ((z_8 - 180) : Int32) fun v_9 =>
  if v_9 < (-19) then (
    some (0)
  ) else (
    if v_9 ≤ 18 then (
      nm ((v_9 + 20) : Int32) fun v_12 =>
      nm ((v_12 + 1) : Int32) fun v_13 =>
      L_X4_colourShown_55 A4 J102 FU p1 p3 v_9 v_12 v_13
    ) else (
      some (0)
    )
  )
def F_X4_viewAt (A4 : Nat → Nat → Int32) (p1 : Int32) (p2 : Int32) : Option (Int32) :=
  nm (fun (x1 : Int32) (x2 : Int32) (x8 : Int32) (y0 : Int32) =>
      bd (F_X4_colourShown A4 x8 x1 x2) fun z_1 =>
      if z_1 = 0 then (
        bd (F_X4_colourShown A4 y0 x1 x2) fun z_3 =>
        if z_3 = 0 then (
          some ((-1))
        ) else (
          some (y0)
        )
      ) else (
        some (x8)
      )
    ) fun J77 =>
  nm (fun (x1 : Int32) (x2 : Int32) (x3 : Int32) (x4 : Int32) (x7 : Int32) (y0 : Int32) =>
      if x7 = 0 then (
        J77 x1 x2 y0 x3
      ) else (
        J77 x1 x2 y0 x4
      )
    ) fun J64 =>
  nm (fun (x1 : Int32) (x2 : Int32) (x3 : Int32) (x4 : Int32) (y0 : Int32) =>
      if y0 = 0 then (
        J64 x1 x2 x3 x4 y0 x4
      ) else (
        J64 x1 x2 x3 x4 y0 x3
      )
    ) fun J51 =>
  nm (fun (x1 : Int32) (x2 : Int32) (x3 : Int32) (x4 : Int32) =>
      J51 x1 x2 x3 x4 0
    ) fun J50 =>
  nm (fun (x1 : Int32) (x2 : Int32) (x3 : Int32) (x4 : Int32) =>
      J51 x1 x2 x3 x4 1
    ) fun J46 =>
  nm ((p1 / 30) : Int32) fun v_7 =>
  nm (((v_7 + 1) - (v_7 + 1) / 12 * 12) : Int32) fun v_8 =>
  nm ((p1 - p1 / 30 * 30) : Int32) fun v_9 =>
  nm ((30 - v_9) : Int32) fun v_10 =>
  if v_9 < v_10 then (
    J46 p1 p2 v_7 v_8
  ) else (
    if v_9 = v_10 then (
      if v_8 ≤ v_7 then (
        J50 p1 p2 v_7 v_8
      ) else (
        J46 p1 p2 v_7 v_8
      )
    ) else (
      J50 p1 p2 v_7 v_8
    )
  )
def F_X4_colourAt (A4 : Nat → Nat → Int32) (p1 : Int32) (p2 : Int32) : Option (Int32) :=
  bd (F_X4_viewAt A4 p1 p2) fun z_1 =>
  if z_1 = (-1) then (
    some (0)
  ) else (
    bd (F_X4_colourShown A4 z_1 p1 p2) fun z_3 =>
    some (z_3)
  )
def L_X4_quarrelsBehind_48 (A4 : Nat → Nat → Int32) (J107 : Int32 → Int32 → Int32 → Int32 → Option (Int32)) : Nat → Int32 → Int32 → Int32 → Int32 → Int32 → Int32 → Option (Int32)
  | 0, _, _, _, _, _, _ => none
  | n + 1, x1, x2, x3, x4, x5, x6 =>
    nm (fun (x1 : Int32) (x2 : Int32) (x3 : Int32) (x4 : Int32) (x5 : Int32) (x6 : Int32) =>
        nm (x6 + 1 : Int32) fun v_2 =>
        L_X4_quarrelsBehind_48 A4 J107 n x1 x2 x3 x4 x5 v_2
      ) fun J101 =>
    nm (fun (x1 : Int32) (x2 : Int32) (x3 : Int32) (x4 : Int32) (x5 : Int32) (x6 : Int32) (x7 : Int32) (y0 : Int32) =>
        if y0 = 0 then (
          J101 x1 x2 x3 x4 x5 x6
        ) else (
          if y0 = x7 then (
            J101 x1 x2 x3 x4 x5 x6
          ) else (
            nm (x3 + 1 : Int32) fun v_5 =>
            J101 x1 x2 v_5 x4 x5 x6
          )
        )
      ) fun J84 =>
    if 20 ≤ x6 then (
      J107 x1 x2 x3 x4
    ) else (
      bd (F_X4_colourShown A4 x1 x5 x6) fun z_7 =>
      if z_7 = 0 then (
        J84 x1 x2 x3 x4 x5 x6 z_7 0
      ) else (
        bd (F_X4_colourShown A4 x2 x5 x6) fun z_9 =>
        J84 x1 x2 x3 x4 x5 x6 z_7 z_9
      )
    )
def L_X4_quarrelsBehind_25 (A4 : Nat → Nat → Int32) (J113 : Int32 → Option (Int32)) : Nat → Int32 → Int32 → Int32 → Int32 → Option (Int32)
  | 0, _, _, _, _ => none
  | n + 1, x1, x2, x3, x4 =>
    nm (fun (x1 : Int32) (x2 : Int32) (x3 : Int32) (x4 : Int32) =>
        nm (x4 + 1 : Int32) fun v_1 =>
        L_X4_quarrelsBehind_25 A4 J113 n x1 x2 x3 v_1
      ) fun J107 =>
    if 18 < x4 then (
      J113 x3
    ) else (
      nm ((((30 * x1) + x4) - ((30 * x1) + x4) / 360 * 360) : Int32) fun v_11 =>
      L_X4_quarrelsBehind_48 A4 J107 FU x1 x2 x3 x4 v_11 0
    )
def F_X4_quarrelsBehind (A4 : Nat → Nat → Int32) (p1 : Int32) : Option (Int32) :=
  nm (fun (x3 : Int32) =>
      some (x3)
    ) fun J113 =>
  if p1 < 0 then (
    some ((-1))
  ) else (
    if p1 < 12 then (
      nm (((p1 + 1) - (p1 + 1) / 12 * 12) : Int32) fun v_14 =>
      L_X4_quarrelsBehind_25 A4 J113 FU p1 v_14 0 11
    ) else (
      some ((-1))
    )
  )
def F_X4_setMark (A4 : Nat → Nat → Int32) (p1 : Int32) (p2 : Int32) (p3 : Int32) (p4 : Int32) : Option (Int32 × (Nat → Nat → Int32)) :=
  nm (fun (x5 : Int32) (x6 : Int32) (x7 : Int32) (y0 : Int32) (A4 : Nat → Nat → Int32) =>
      bd (F_X4_squareOf x5 x6) fun z_1 =>
      bd (F_X5_isSquare z_1) fun z_2 =>
      if z_2 = 0 then (
        some (1, A4)
      ) else (
        ix z_1 72 <|
        ix z_1 72 <|
        nm (va_up A4 1 (upd (A4 1) (z_1).toNatClampNeg ((A4 1 (z_1).toNatClampNeg) + (y0 - x7)))) fun A4_6 =>
        some (1, A4_6)
      )
    ) fun J83 =>
  nm (fun (x1 : Int32) (x2 : Int32) (x3 : Int32) (x4 : Int32) (x5 : Int32) (x6 : Int32) (y0 : Int32) (A4 : Nat → Nat → Int32) =>
      bd (F_X4_placeInMarks x1 x2 x3) fun z_7 =>
      ix z_7 9600 <|
      nm (va_up A4 0 (upd (A4 0) (z_7).toNatClampNeg (vp_nar .byte ((x4).toInt8.toInt32)))) fun A4_9 =>
      bd (F_X4_viewAt A4_9 x5 x6) fun z_10 =>
      if z_10 = (-1) then (
        J83 x5 x6 y0 0 A4_9
      ) else (
        J83 x5 x6 y0 1 A4_9
      )
    ) fun J50 =>
  bd (F_X4_isMark p1 p2 p3) fun z_12 =>
  if z_12 = 0 then (
    some (0, A4)
  ) else (
    bd (F_X4_isColour p4) fun z_14 =>
    if z_14 = 0 then (
      some (0, A4)
    ) else (
      bd (F_X4_columnOf p1 p2) fun z_16 =>
      bd (F_X4_rowOf p2 p3) fun z_17 =>
      bd (F_X4_viewAt A4 z_16 z_17) fun z_18 =>
      if z_18 = (-1) then (
        J50 p1 p2 p3 p4 z_16 z_17 0 A4
      ) else (
        J50 p1 p2 p3 p4 z_16 z_17 1 A4
      )
    )
  )
def L_X4_drawLine_52 (J99 : Int32 → (Nat → Nat → Int32) → Option (Int32 × (Nat → Nat → Int32))) : Nat → Int32 → Int32 → Int32 → Int32 → Int32 → Int32 → Int32 → Int32 → (Nat → Nat → Int32) → Option (Int32 × (Nat → Nat → Int32))
  | 0, _, _, _, _, _, _, _, _, _ => none
  | n + 1, x1, x2, x3, x4, x5, x6, x7, x8, A4 =>
    if x7 < x8 then (
      J99 x7 A4
    ) else (
      bd (F_X4_partOfWay x8 (x4 - x2) x7) fun z_2 =>
      bd (F_X4_partOfWay x8 (x5 - x3) x7) fun z_3 =>
      bd (F_X4_setMark A4 x1 (x2 + z_2) (x3 + z_3) x6) fun z_4 =>
      nm (x8 + 1 : Int32) fun v_5 =>
      L_X4_drawLine_52 J99 n x1 x2 x3 x4 x5 x6 x7 v_5 z_4.2
    )
def F_X4_drawLine (A4 : Nat → Nat → Int32) (p1 : Int32) (p2 : Int32) (p3 : Int32) (p4 : Int32) (p5 : Int32) (p6 : Int32) : Option (Int32 × (Nat → Nat → Int32)) :=
  nm (fun (x7 : Int32) (A4 : Nat → Nat → Int32) =>
      some ((x7 + 1), A4)
    ) fun J99 =>
  bd (F_X4_isMark p1 p2 p3) fun z_6 =>
  if z_6 = 0 then (
    some ((-1), A4)
  ) else (
    bd (F_X4_isMark p1 p4 p5) fun z_8 =>
    if z_8 = 0 then (
      some ((-1), A4)
    ) else (
      bd (F_X4_isColour p6) fun z_10 =>
      if z_10 = 0 then (
        some ((-1), A4)
      ) else (
        nm ((if 0 ≤ (p4 - p2) then (p4 - p2) else 0 - (p4 - p2)) : Int32) fun v_12 =>
        nm ((if 0 ≤ (p5 - p3) then (p5 - p3) else 0 - (p5 - p3)) : Int32) fun v_13 =>
        nm ((if v_12 < v_13 then v_13 else v_12) : Int32) fun v_14 =>
        L_X4_drawLine_52 J99 FU p1 p2 p3 p4 p5 p6 v_14 0 A4
      )
    )
  )
def F_X4_colouredIn (A4 : Nat → Nat → Int32) (p1 : Int32) : Option (Int32) :=
  bd (F_X5_isSquare p1) fun z_1 =>
  if z_1 = 0 then (
    some (0)
  ) else (
    ix p1 72 <|
    some ((A4 1 (p1).toNatClampNeg))
  )
def L_X4_colouredPlaces_4 (A4 : Nat → Nat → Int32) (J25 : Int32 → Option (Int32)) : Nat → Int32 → Int32 → Option (Int32)
  | 0, _, _ => none
  | n + 1, x1, x2 =>
    if 72 ≤ x2 then (
      J25 x1
    ) else (
      ix x2 72 <|
      nm ((x1 + (A4 1 (x2).toNatClampNeg)) : Int32) fun v_3 =>
      nm (x2 + 1 : Int32) fun v_4 =>
      L_X4_colouredPlaces_4 A4 J25 n v_3 v_4
    )
def F_X4_colouredPlaces (A4 : Nat → Nat → Int32) : Option (Int32) :=
  nm (fun (x1 : Int32) =>
      some (x1)
    ) fun J25 =>
  L_X4_colouredPlaces_4 A4 J25 FU 0 0
def F_X2_today (S2 : Nat → Int32) : Option (Int32) :=
  some (S2 11)
def F_X2_gangs (S2 : Nat → Int32) : Option (Int32) :=
  some (S2 10)
def L_X2_finishedSquares_4 (A2 : Nat → Nat → Int32) (J34 : Int32 → Option (Int32)) : Nat → Int32 → Int32 → Option (Int32)
  | 0, _, _ => none
  | n + 1, x1, x2 =>
    nm (fun (x2 : Int32) (y0 : Int32) (y1 : Int32) =>
        nm ((y1 + y0) : Int32) fun v_1 =>
        nm (x2 + 1 : Int32) fun v_2 =>
        L_X2_finishedSquares_4 A2 J34 n v_1 v_2
      ) fun J26 =>
    if 72 ≤ x2 then (
      J34 x1
    ) else (
      ix x2 72 <|
      if (A2 3 (x2).toNatClampNeg) = 2 then (
        J26 x2 1 x1
      ) else (
        J26 x2 0 x1
      )
    )
def F_X2_finishedSquares (A2 : Nat → Nat → Int32) : Option (Int32) :=
  nm (fun (x1 : Int32) =>
      some (x1)
    ) fun J34 =>
  L_X2_finishedSquares_4 A2 J34 FU 0 0
def F_X2_hire (S2 : Nat → Int32) (A2 : Nat → Nat → Int32) (p1 : Int32) : Option (Int32 × (Nat → Int32) × (Nat → Nat → Int32)) :=
  if p1 < 1 then (
    some ((-1), S2, A2)
  ) else (
    if 20 < p1 then (
      some ((-1), S2, A2)
    ) else (
      if (S2 10) < 0 then (
        some ((-1), S2, A2)
      ) else (
        if (S2 10) < 6 then (
          ix (S2 10) 6 <|
          nm (va_up A2 1 (upd (A2 1) (S2 10).toNatClampNeg p1)) fun A2_6 =>
          nm (upd S2 10 ((S2 10) + 1)) fun S2_7 =>
          some (S2 10, S2_7, A2_6)
        ) else (
          some ((-1), S2, A2)
        )
      )
    )
  )
def F_X2_isGang (S2 : Nat → Int32) (p1 : Int32) : Option (Int32) :=
  if p1 < 0 then (
    some (0)
  ) else (
    if (S2 10) ≤ p1 then (
      some (0)
    ) else (
      if 6 ≤ p1 then (
        some (0)
      ) else (
        some (1)
      )
    )
  )
def F_X2_firstCoatWork (A4 : Nat → Nat → Int32) (p1 : Int32) : Option (Int32) :=
  bd (F_X4_colouredIn A4 p1) fun z_1 =>
  some ((3 + z_1))
def F_X2_beginCoat (S2 : Nat → Int32) (A2 : Nat → Nat → Int32) (A4 : Nat → Nat → Int32) (p1 : Int32) (p2 : Int32) : Option (Int32 × (Nat → Nat → Int32)) :=
  nm (fun (x1 : Int32) (x2 : Int32) (x3 : Int32) (y0 : Int32) (y1 : Int32) (A2 : Nat → Nat → Int32) =>
      ix y1 72 <|
      nm (va_up A2 5 (upd (A2 5) (y1).toNatClampNeg y0)) fun A2_2 =>
      ix x2 72 <|
      nm (va_up A2_2 4 (upd (A2_2 4) (x2).toNatClampNeg x1)) fun A2_4 =>
      ix x1 6 <|
      nm (va_up A2_4 2 (upd (A2_4 2) (x1).toNatClampNeg x2)) fun A2_6 =>
      some (x3, A2_6)
    ) fun J136 =>
  nm (fun (x1 : Int32) (x2 : Int32) (x3 : Int32) (A2 : Nat → Nat → Int32) =>
      bd (F_X2_firstCoatWork A4 x2) fun z_7 =>
      if x3 = 1 then (
        J136 x1 x2 x3 z_7 x2 A2
      ) else (
        nm ((if (z_7 / 2) < 1 then 1 else (z_7 / 2)) : Int32) fun v_9 =>
        J136 x1 x2 x3 v_9 x2 A2
      )
    ) fun J106 =>
  nm (fun (x1 : Int32) (x2 : Int32) (x3 : Int32) (A2 : Nat → Nat → Int32) =>
      if 36 ≤ x2 then (
        J106 x1 x2 x3 A2
      ) else (
        ix (x2 + 36) 72 <|
        if x3 ≤ (A2 3 ((x2 + 36)).toNatClampNeg) then (
          J106 x1 x2 x3 A2
        ) else (
          some ((-7), A2)
        )
      )
    ) fun J84 =>
  bd (F_X2_isGang S2 p1) fun z_13 =>
  if z_13 = 0 then (
    some ((-2), A2)
  ) else (
    bd (F_X5_isSquare p2) fun z_15 =>
    if z_15 = 0 then (
      some ((-2), A2)
    ) else (
      ix p1 6 <|
      if (A2 2 (p1).toNatClampNeg) = (-1) then (
        ix p2 72 <|
        nm (((A2 3 (p2).toNatClampNeg) + 1) : Int32) fun v_20 =>
        if v_20 ≤ 2 then (
          ix p2 72 <|
          if (A2 4 (p2).toNatClampNeg) = (-1) then (
            if v_20 = 2 then (
              ix p2 72 <|
              if 3 ≤ ((S2 11) - (A2 6 (p2).toNatClampNeg)) then (
                J84 p1 p2 v_20 A2
              ) else (
                some ((-6), A2)
              )
            ) else (
              J84 p1 p2 v_20 A2
            )
          ) else (
            some ((-5), A2)
          )
        ) else (
          some ((-4), A2)
        )
      ) else (
        some ((-3), A2)
      )
    )
  )
def F_X2_endCoat (S2 : Nat → Int32) (A2 : Nat → Nat → Int32) (p1 : Int32) (p2 : Int32) : Option ((Nat → Nat → Int32)) :=
  nm (fun (x1 : Int32) (x2 : Int32) (A2 : Nat → Nat → Int32) =>
      ix x2 72 <|
      nm (va_up A2 8 (upd (A2 8) (x2).toNatClampNeg x1)) fun A2_2 =>
      ix x2 72 <|
      nm (va_up A2_2 4 (upd (A2_2 4) (x2).toNatClampNeg (-1))) fun A2_4 =>
      ix x1 6 <|
      nm (va_up A2_4 2 (upd (A2_4 2) (x1).toNatClampNeg (-1))) fun A2_6 =>
      some (A2_6)
    ) fun J59 =>
  bd (F_X2_isGang S2 p1) fun z_7 =>
  if z_7 = 0 then (
    some (A2)
  ) else (
    bd (F_X5_isSquare p2) fun z_9 =>
    if z_9 = 0 then (
      some (A2)
    ) else (
      ix p2 72 <|
      ix p2 72 <|
      nm (va_up A2 3 (upd (A2 3) (p2).toNatClampNeg ((A2 3 (p2).toNatClampNeg) + 1))) fun A2_13 =>
      ix p2 72 <|
      if (A2_13 3 (p2).toNatClampNeg) = 1 then (
        ix p2 72 <|
        nm (va_up A2_13 6 (upd (A2_13 6) (p2).toNatClampNeg (S2 11))) fun A2_19 =>
        J59 p1 p2 A2_19
      ) else (
        ix p2 72 <|
        nm (va_up A2_13 7 (upd (A2_13 7) (p2).toNatClampNeg (S2 11))) fun A2_17 =>
        J59 p1 p2 A2_17
      )
    )
  )
def F_X2_workADay (S2 : Nat → Int32) (A2 : Nat → Nat → Int32) (p1 : Int32) (p2 : Int32) : Option ((Nat → Nat → Int32)) :=
  bd (F_X2_isGang S2 p1) fun z_1 =>
  if z_1 = 0 then (
    some (A2)
  ) else (
    bd (F_X5_isSquare p2) fun z_3 =>
    if z_3 = 0 then (
      some (A2)
    ) else (
      ix p2 72 <|
      ix p1 6 <|
      nm ((if ((A2 5 (p2).toNatClampNeg) - (A2 1 (p1).toNatClampNeg)) < 0 then 0 else ((A2 5 (p2).toNatClampNeg) - (A2 1 (p1).toNatClampNeg))) : Int32) fun v_7 =>
      ix p2 72 <|
      nm (va_up A2 5 (upd (A2 5) (p2).toNatClampNeg v_7)) fun A2_9 =>
      ix p2 72 <|
      if (A2_9 5 (p2).toNatClampNeg) = 0 then (
        bd (F_X2_endCoat S2 A2_9 p1 p2) fun z_12 =>
        some (z_12)
      ) else (
        some (A2_9)
      )
    )
  )
def L_X2_passDay_14 (J37 : (Nat → Int32) → (Nat → Nat → Int32) → Option (Int32 × (Nat → Int32) × (Nat → Nat → Int32))) : Nat → Int32 → (Nat → Int32) → (Nat → Nat → Int32) → Option (Int32 × (Nat → Int32) × (Nat → Nat → Int32))
  | 0, _, _, _ => none
  | n + 1, x1, S2, A2 =>
    if 6 ≤ x1 then (
      J37 S2 A2
    ) else (
      ix x1 6 <|
      bd (F_X2_workADay S2 A2 x1 (A2 2 (x1).toNatClampNeg)) fun z_4 =>
      nm (x1 + 1 : Int32) fun v_5 =>
      L_X2_passDay_14 J37 n v_5 S2 z_4
    )
def F_X2_passDay (S2 : Nat → Int32) (A2 : Nat → Nat → Int32) : Option (Int32 × (Nat → Int32) × (Nat → Nat → Int32)) :=
  nm (fun (S2 : Nat → Int32) (A2 : Nat → Nat → Int32) =>
      nm (upd S2 11 ((S2 11) + 1)) fun S2_1 =>
      some (S2_1 11, S2_1, A2)
    ) fun J37 =>
  if (S2 11) < 1000 then (
    L_X2_passDay_14 J37 FU 0 S2 A2
  ) else (
    some ((-1), S2, A2)
  )
def F_X2_tellSquare (A2 : Nat → Nat → Int32) (A4 : Nat → Nat → Int32) (p1 : Int32) (p2 : Int32) : Option (Int32) :=
  bd (F_X5_isSquare p1) fun z_1 =>
  if z_1 = 0 then (
    some ((-1))
  ) else (
    if p2 = 0 then (
      bd (F_X2_firstCoatWork A4 p1) fun z_4 =>
      some (z_4)
    ) else (
    if p2 = 1 then (
      ix p1 72 <|
      some ((A2 3 (p1).toNatClampNeg))
    ) else (
    if p2 = 2 then (
      ix p1 72 <|
      some ((A2 4 (p1).toNatClampNeg))
    ) else (
    if p2 = 3 then (
      ix p1 72 <|
      some ((A2 5 (p1).toNatClampNeg))
    ) else (
    if p2 = 4 then (
      ix p1 72 <|
      some ((A2 6 (p1).toNatClampNeg))
    ) else (
    if p2 = 5 then (
      ix p1 72 <|
      some ((A2 7 (p1).toNatClampNeg))
    ) else (
    if p2 = 6 then (
      ix p1 72 <|
      some ((A2 8 (p1).toNatClampNeg))
    ) else (
      some ((-1))
    )))))))
  )
def F_X2_daysOf (A2 : Nat → Nat → Int32) (p1 : Int32) : Option (Int32) :=
  if p1 < 0 then (
    some (0)
  ) else (
    if 3 ≤ p1 then (
      some (0)
    ) else (
      ix p1 6 <|
      if 1 ≤ (A2 1 (p1).toNatClampNeg) then (
        ix p1 3 <|
        ix p1 6 <|
        ix p1 6 <|
        nz (A2 1 (p1).toNatClampNeg) <|
        some (((((A2 9 (p1).toNatClampNeg) + (A2 1 (p1).toNatClampNeg)) - 1) / (A2 1 (p1).toNatClampNeg)))
      ) else (
        some (0)
      )
    )
  )
def L_X2_mostDays_4 (A2 : Nat → Nat → Int32) (J25 : Int32 → Option (Int32)) : Nat → Int32 → Int32 → Int32 → Option (Int32)
  | 0, _, _, _ => none
  | n + 1, x1, x2, x3 =>
    if x1 ≤ x3 then (
      J25 x2
    ) else (
      bd (F_X2_daysOf A2 x3) fun z_2 =>
      nm ((if x2 < z_2 then z_2 else x2) : Int32) fun v_3 =>
      nm (x3 + 1 : Int32) fun v_4 =>
      L_X2_mostDays_4 A2 J25 n x1 v_3 v_4
    )
def F_X2_mostDays (A2 : Nat → Nat → Int32) (p1 : Int32) : Option (Int32) :=
  nm (fun (x2 : Int32) =>
      some (x2)
    ) fun J25 =>
  L_X2_mostDays_4 A2 J25 FU p1 0 0
def L_X2_leastBelow_29 (A4 : Nat → Nat → Int32) (fr : (Nat → Nat → Int32) → (Nat → Nat → Int32) → Int32 → Int32 → Int32 → Int32 → Option (Int32 × (Nat → Nat → Int32))) (J97 : Int32 → (Nat → Nat → Int32) → Option (Int32 × (Nat → Nat → Int32))) : Nat → Int32 → Int32 → Int32 → Int32 → Int32 → Int32 → (Nat → Nat → Int32) → Option (Int32 × (Nat → Nat → Int32))
  | 0, _, _, _, _, _, _, _ => none
  | n + 1, x2, x3, x4, x5, x6, x7, A2 =>
    nm (fun (x2 : Int32) (x3 : Int32) (x4 : Int32) (x5 : Int32) (x6 : Int32) (x7 : Int32) (A2 : Nat → Nat → Int32) =>
        ix x7 3 <|
        ix x7 3 <|
        nm (va_up A2 9 (upd (A2 9) (x7).toNatClampNeg ((A2 9 (x7).toNatClampNeg) - x5))) fun A2_3 =>
        nm (x7 + 1 : Int32) fun v_4 =>
        L_X2_leastBelow_29 A4 fr J97 n x2 x3 x4 x5 x6 v_4 A2_3
      ) fun J79 =>
    if x4 ≤ x7 then (
      J97 x6 A2
    ) else (
      if 3 ≤ x7 then (
        J97 x6 A2
      ) else (
        ix x7 3 <|
        ix x7 3 <|
        nm (va_up A2 9 (upd (A2 9) (x7).toNatClampNeg ((A2 9 (x7).toNatClampNeg) + x5))) fun A2_9 =>
        bd (F_X2_daysOf A2_9 x7) fun z_10 =>
        if x6 ≤ z_10 then (
          J79 x2 x3 x4 x5 x6 x7 A2_9
        ) else (
          bd (fr A2_9 A4 x6 (x2 + 1) x3 x4) fun z_12 =>
          J79 x2 x3 x4 x5 z_12.1 x7 z_12.2
        )
      )
    )
def F_X2_leastBelow_r : Nat → (Nat → Nat → Int32) → (Nat → Nat → Int32) → Int32 → Int32 → Int32 → Int32 → Option (Int32 × (Nat → Nat → Int32))
  | 0, _, _, _, _, _, _ => none
  | dd + 1, A2, A4, p1, p2, p3, p4 =>
    nm (fun (x6 : Int32) (A2 : Nat → Nat → Int32) =>
        some (x6, A2)
      ) fun J97 =>
    if p2 < p3 then (
      bd (F_X2_firstCoatWork A4 p2) fun z_14 =>
      L_X2_leastBelow_29 A4 (F_X2_leastBelow_r dd) J97 FU p2 p3 p4 z_14 p1 0 A2
    ) else (
      bd (F_X2_mostDays A2 p4) fun z_15 =>
      nm ((if z_15 < p1 then z_15 else p1) : Int32) fun v_16 =>
      some (v_16, A2)
    )
def F_X2_leastBelow (A2 : Nat → Nat → Int32) (A4 : Nat → Nat → Int32) (p1 : Int32) (p2 : Int32) (p3 : Int32) (p4 : Int32) : Option (Int32 × (Nat → Nat → Int32)) := F_X2_leastBelow_r 8 A2 A4 p1 p2 p3 p4
def L_X2_leastDays_48 (S2 : Nat → Int32) (A4 : Nat → Nat → Int32) (J68 : Int32 → Int32 → Int32 → (Nat → Nat → Int32) → Option (Int32 × (Nat → Nat → Int32))) : Nat → Int32 → Int32 → Int32 → Int32 → (Nat → Nat → Int32) → Option (Int32 × (Nat → Nat → Int32))
  | 0, _, _, _, _, _ => none
  | n + 1, x1, x2, x3, x4, A2 =>
    if 3 ≤ x4 then (
      J68 x1 x2 x3 A2
    ) else (
      ix x4 3 <|
      nm (va_up A2 9 (upd (A2 9) (x4).toNatClampNeg 0)) fun A2_4 =>
      nm (x4 + 1 : Int32) fun v_5 =>
      L_X2_leastDays_48 S2 A4 J68 n x1 x2 x3 v_5 A2_4
    )
def F_X2_leastDays (S2 : Nat → Int32) (A2 : Nat → Nat → Int32) (A4 : Nat → Nat → Int32) (p1 : Int32) (p2 : Int32) (p3 : Int32) : Option (Int32 × (Nat → Nat → Int32)) :=
  nm (fun (x1 : Int32) (x2 : Int32) (x3 : Int32) (A2 : Nat → Nat → Int32) =>
      bd (F_X2_leastBelow A2 A4 2147483647 x1 (x1 + x2) x3) fun z_1 =>
      some (z_1.1, z_1.2)
    ) fun J68 =>
  if p2 < 1 then (
    some ((-1), A2)
  ) else (
    if 6 < p2 then (
      some ((-1), A2)
    ) else (
      if p1 < 0 then (
        some ((-1), A2)
      ) else (
        if p1 ≤ (72 - p2) then (
          if p3 < 1 then (
            some ((-1), A2)
          ) else (
            if 3 < p3 then (
              some ((-1), A2)
            ) else (
              if p3 ≤ (S2 10) then (
                L_X2_leastDays_48 S2 A4 J68 FU p1 p2 p3 0 A2
              ) else (
                some ((-1), A2)
              )
            )
          )
        ) else (
          some ((-1), A2)
        )
      )
    )
  )
def F_X1_clearContract (S1 : Nat → Int32) : Option ((Nat → Int32)) :=
  nm (upd S1 5 0) fun S1_1 =>
  nm (upd S1_1 6 1) fun S1_2 =>
  nm (upd S1_2 7 0) fun S1_3 =>
  some (S1_3)
def F_X1_setWeeks (S1 : Nat → Int32) (p1 : Int32) : Option ((Nat → Int32)) :=
  nm (upd S1 6 p1) fun S1_1 =>
  some (S1_1)
def F_X1_setRent (S1 : Nat → Int32) (p1 : Int32) : Option ((Nat → Int32)) :=
  nm (upd S1 7 p1) fun S1_1 =>
  some (S1_1)
def F_X1_addPart (S1 : Nat → Int32) (A1 : Nat → Nat → Int32) (p1 : Int32) : Option ((Nat → Int32) × (Nat → Nat → Int32)) :=
  if (S1 5) < 0 then (
    some (S1, A1)
  ) else (
    if 12 ≤ (S1 5) then (
      some (S1, A1)
    ) else (
      ix (S1 5) 12 <|
      nm (va_up A1 0 (upd (A1 0) (S1 5).toNatClampNeg p1)) fun A1_4 =>
      ix (S1 5) 12 <|
      nm (va_up A1_4 1 (upd (A1_4 1) (S1 5).toNatClampNeg 0)) fun A1_6 =>
      nm (upd S1 5 ((S1 5) + 1)) fun S1_7 =>
      some (S1_7, A1_6)
    )
  )
def F_X1_addTest (S1 : Nat → Int32) (A1 : Nat → Nat → Int32) (p1 : Int32) (p2 : Int32) (p3 : Int32) : Option ((Nat → Nat → Int32)) :=
  nm (((S1 5) - 1) : Int32) fun v_1 =>
  if v_1 < 0 then (
    some (A1)
  ) else (
    if v_1 < 12 then (
      ix v_1 12 <|
      nm ((A1 1 (v_1).toNatClampNeg) : Int32) fun v_5 =>
      if v_5 < 0 then (
        some (A1)
      ) else (
        if v_5 < 3 then (
          ix ((v_1 * 3) + v_5) 36 <|
          nm (va_up A1 2 (upd (A1 2) (((v_1 * 3) + v_5)).toNatClampNeg p1)) fun A1_9 =>
          ix ((v_1 * 3) + v_5) 36 <|
          nm (va_up A1_9 3 (upd (A1_9 3) (((v_1 * 3) + v_5)).toNatClampNeg p2)) fun A1_11 =>
          ix ((v_1 * 3) + v_5) 36 <|
          nm (va_up A1_11 4 (upd (A1_11 4) (((v_1 * 3) + v_5)).toNatClampNeg p3)) fun A1_13 =>
          ix v_1 12 <|
          ix v_1 12 <|
          nm (va_up A1_13 1 (upd (A1_13 1) (v_1).toNatClampNeg ((A1_13 1 (v_1).toNatClampNeg) + 1))) fun A1_16 =>
          some (A1_16)
        ) else (
          some (A1)
        )
      )
    ) else (
      some (A1)
    )
  )
def F_X1_valueOf (S1 : Nat → Int32) (p1 : Int32) (p2 : Int32) (p3 : Int32) : Option (Int32) :=
  if p1 = 0 then (
    some (S1 8)
  ) else (
  if p1 = 1 then (
    some (p2)
  ) else (
    some (p3)
  ))
def F_X1_holds (S1 : Nat → Int32) (A1 : Nat → Nat → Int32) (p1 : Int32) (p2 : Int32) (p3 : Int32) : Option (Int32) :=
  if p1 < 0 then (
    some (0)
  ) else (
    if p1 < 36 then (
      ix p1 36 <|
      bd (F_X1_valueOf S1 (A1 2 (p1).toNatClampNeg) p2 p3) fun z_4 =>
      ix p1 36 <|
      if (A1 3 (p1).toNatClampNeg) = 60 then (
        ix p1 36 <|
        if (A1 4 (p1).toNatClampNeg) ≤ z_4 then (
          some (0)
        ) else (
          some (1)
        )
      ) else (
      if (A1 3 (p1).toNatClampNeg) = 62 then (
        ix p1 36 <|
        if z_4 ≤ (A1 4 (p1).toNatClampNeg) then (
          some (0)
        ) else (
          some (1)
        )
      ) else (
        ix p1 36 <|
        if z_4 = (A1 4 (p1).toNatClampNeg) then (
          some (1)
        ) else (
          some (0)
        )
      ))
    ) else (
      some (0)
    )
  )
def L_X1_allHold_15 (S1 : Nat → Int32) (A1 : Nat → Nat → Int32) (J55 : Option (Int32)) : Nat → Int32 → Int32 → Int32 → Int32 → Option (Int32)
  | 0, _, _, _, _ => none
  | n + 1, x1, x2, x3, x4 =>
    ix x1 12 <|
    if (A1 1 (x1).toNatClampNeg) ≤ x4 then (
      J55
    ) else (
      if 3 ≤ x4 then (
        J55
      ) else (
        bd (F_X1_holds S1 A1 ((x1 * 3) + x4) x2 x3) fun z_4 =>
        if z_4 = 0 then (
          some (0)
        ) else (
          nm (x4 + 1 : Int32) fun v_6 =>
          L_X1_allHold_15 S1 A1 J55 n x1 x2 x3 v_6
        )
      )
    )
def F_X1_allHold (S1 : Nat → Int32) (A1 : Nat → Nat → Int32) (p1 : Int32) (p2 : Int32) (p3 : Int32) : Option (Int32) :=
  nm (
      some (1)
    ) fun J55 =>
  if p1 < 0 then (
    some (0)
  ) else (
    if p1 < 12 then (
      L_X1_allHold_15 S1 A1 J55 FU p1 p2 p3 0
    ) else (
      some (0)
    )
  )
def L_X1_shareFor_2 (S1 : Nat → Int32) (A1 : Nat → Nat → Int32) (J39 : Option (Int32)) : Nat → Int32 → Int32 → Int32 → Option (Int32)
  | 0, _, _, _ => none
  | n + 1, x1, x2, x3 =>
    if (S1 5) ≤ x3 then (
      J39
    ) else (
      if 12 ≤ x3 then (
        J39
      ) else (
        bd (F_X1_allHold S1 A1 x3 x1 x2) fun z_3 =>
        if z_3 = 0 then (
          nm (x3 + 1 : Int32) fun v_5 =>
          L_X1_shareFor_2 S1 A1 J39 n x1 x2 v_5
        ) else (
          ix x3 12 <|
          some ((A1 0 (x3).toNatClampNeg))
        )
      )
    )
def F_X1_shareFor (S1 : Nat → Int32) (A1 : Nat → Nat → Int32) (p1 : Int32) (p2 : Int32) : Option (Int32) :=
  nm (
      some (50)
    ) fun J39 =>
  L_X1_shareFor_2 S1 A1 J39 FU p1 p2 0
def F_X1_passWeek (S1 : Nat → Int32) (A1 : Nat → Nat → Int32) (p1 : Int32) (p2 : Int32) : Option (Int32 × (Nat → Int32)) :=
  if (S1 8) < (S1 6) then (
    nm (upd S1 8 ((S1 8) + 1)) fun S1_2 =>
    nm ((if p2 < (S1_2 7) then p2 else (S1_2 7)) : Int32) fun v_3 =>
    nm ((p2 - v_3) : Int32) fun v_4 =>
    bd (F_X1_shareFor S1_2 A1 p1 p2) fun z_5 =>
    nm (((v_4 * z_5) / 100) : Int32) fun v_6 =>
    nm (upd S1_2 9 ((S1_2 9) + v_6)) fun S1_7 =>
    nm (upd S1_7 10 ((S1_7 10) + (p2 - v_6))) fun S1_8 =>
    nm (upd S1_8 11 ((S1_8 11) + p1)) fun S1_9 =>
    some (v_6, S1_9)
  ) else (
    some ((-1), S1)
  )
def F_X1_tell (S1 : Nat → Int32) (p1 : Int32) : Option (Int32) :=
  if p1 = 0 then (
    some (S1 6)
  ) else (
  if p1 = 1 then (
    some (S1 8)
  ) else (
  if p1 = 2 then (
    some (S1 9)
  ) else (
  if p1 = 3 then (
    some (S1 10)
  ) else (
  if p1 = 4 then (
    some (S1 11)
  ) else (
  if p1 = 5 then (
    some (S1 7)
  ) else (
    some ((-1))
  ))))))
def F_X0_bytes (S0 : Nat → Int32) : Option (Int32) :=
  some (S0 1)
def L_X0_takeFour_3 (J56 : (Nat → Int32) → (Nat → Nat → Int32) → Option ((Nat → Int32) × (Nat → Nat → Int32))) : Nat → Int32 → Int32 → (Nat → Int32) → (Nat → Nat → Int32) → Option ((Nat → Int32) × (Nat → Nat → Int32))
  | 0, _, _, _, _ => none
  | n + 1, x1, x2, S0, A0 =>
    nm (fun (x1 : Int32) (x2 : Int32) (S0 : Nat → Int32) (A0 : Nat → Nat → Int32) =>
        nm (x2 + (-8) : Int32) fun v_1 =>
        L_X0_takeFour_3 J56 n x1 v_1 S0 A0
      ) fun J50 =>
    if x2 < 0 then (
      J56 S0 A0
    ) else (
      if (S0 1) < 0 then (
        J50 x1 x2 S0 A0
      ) else (
        if 600 ≤ (S0 1) then (
          J50 x1 x2 S0 A0
        ) else (
          ix (S0 1) 600 <|
          nm (va_up A0 0 (upd (A0 0) (S0 1).toNatClampNeg ((((x1).toUInt32 >>> ((x2 : Int32).toUInt32 &&& Int32.toUInt32 31)).toInt32) &&& 255))) fun A0_6 =>
          nm (upd S0 1 ((S0 1) + 1)) fun S0_7 =>
          J50 x1 x2 S0_7 A0_6
        )
      )
    )
def F_X0_takeFour (S0 : Nat → Int32) (A0 : Nat → Nat → Int32) (p1 : Int32) : Option ((Nat → Int32) × (Nat → Nat → Int32)) :=
  nm (fun (S0 : Nat → Int32) (A0 : Nat → Nat → Int32) =>
      some (S0, A0)
    ) fun J56 =>
  L_X0_takeFour_3 J56 FU p1 24 S0 A0
def F_X0_takeBytes (S0 : Nat → Int32) (A0 : Nat → Nat → Int32) (p1 : Int32) (p2 : Int32) (p3 : Int32) (p4 : Int32) (p5 : Int32) : Option (Int32 × (Nat → Int32) × (Nat → Nat → Int32)) :=
  if (S0 1) ≤ 580 then (
    bd (F_X0_takeFour S0 A0 p1) fun z_2 =>
    bd (F_X0_takeFour z_2.1 z_2.2 p2) fun z_3 =>
    bd (F_X0_takeFour z_3.1 z_3.2 p3) fun z_4 =>
    bd (F_X0_takeFour z_4.1 z_4.2 p4) fun z_5 =>
    bd (F_X0_takeFour z_5.1 z_5.2 p5) fun z_6 =>
    some (z_6.1 1, z_6.1, z_6.2)
  ) else (
    some ((-1), S0, A0)
  )
def F_X0_byteAt (S0 : Nat → Int32) (A0 : Nat → Nat → Int32) (p1 : Int32) : Option (Int32) :=
  if p1 < 0 then (
    some ((-1))
  ) else (
    if (S0 2) ≤ p1 then (
      some ((-1))
    ) else (
      if 600 ≤ p1 then (
        some ((-1))
      ) else (
        ix p1 600 <|
        some ((A0 0 (p1).toNatClampNeg))
      )
    )
  )
def F_X0_kindOf (p1 : Int32) : Option (Int32) :=
  nm (fun (x0 : Int32) =>
      if x0 = (-1) then (
        some (0)
      ) else (
      if x0 = 10 then (
        some (4)
      ) else (
      if x0 = 32 then (
        some (4)
      ) else (
      if x0 = 59 then (
        some (3)
      ) else (
      if x0 = 60 then (
        some (3)
      ) else (
      if x0 = 61 then (
        some (3)
      ) else (
      if x0 = 62 then (
        some (3)
      ) else (
        some (5)
      )))))))
    ) fun J28 =>
  nm (fun (x0 : Int32) =>
      if x0 < 48 then (
        J28 x0
      ) else (
        if 57 < x0 then (
          J28 x0
        ) else (
          some (2)
        )
      )
    ) fun J14 =>
  if p1 < 97 then (
    J14 p1
  ) else (
    if 122 < p1 then (
      J14 p1
    ) else (
      some (1)
    )
  )
def L_X0_advance_112 (A0 : Nat → Nat → Int32) (J158 : (Nat → Int32) → Option ((Nat → Int32))) : Nat → Int32 → (Nat → Int32) → Option ((Nat → Int32))
  | 0, _, _ => none
  | n + 1, x1, S0 =>
    if x1 = 0 then (
      J158 S0
    ) else (
      if (S0 2) ≤ (S0 5) then (
        J158 S0
      ) else (
        bd (F_X0_byteAt S0 A0 (S0 5)) fun z_3 =>
        bd (F_X0_kindOf z_3) fun z_4 =>
        if z_4 = (S0 3) then (
          nm (upd S0 5 ((S0 5) + 1)) fun S0_6 =>
          L_X0_advance_112 A0 J158 n x1 S0_6
        ) else (
          J158 S0
        )
      )
    )
def L_X0_advance_8 (A0 : Nat → Nat → Int32) (J47 : (Nat → Int32) → Option ((Nat → Int32))) : Nat → (Nat → Int32) → Option ((Nat → Int32))
  | 0, _ => none
  | n + 1, S0 =>
    if (S0 2) ≤ (S0 4) then (
      J47 S0
    ) else (
      bd (F_X0_byteAt S0 A0 (S0 4)) fun z_15 =>
      bd (F_X0_kindOf z_15) fun z_16 =>
      if z_16 = 4 then (
        nm (upd S0 4 ((S0 4) + 1)) fun S0_18 =>
        L_X0_advance_8 A0 J47 n S0_18
      ) else (
        J47 S0
      )
    )
def F_X0_advance (S0 : Nat → Int32) (A0 : Nat → Nat → Int32) : Option ((Nat → Int32)) :=
  nm (fun (S0 : Nat → Int32) =>
      some (S0)
    ) fun J158 =>
  nm (fun (y0 : Int32) (S0 : Nat → Int32) =>
      L_X0_advance_112 A0 J158 FU y0 S0
    ) fun J111 =>
  nm (fun (S0 : Nat → Int32) =>
      J111 1 S0
    ) fun J106 =>
  nm (fun (y0 : Int32) (S0 : Nat → Int32) =>
      nm (upd S0 5 y0) fun S0_7 =>
      if (S0_7 3) = 1 then (
        J106 S0_7
      ) else (
        if (S0_7 3) = 2 then (
          J106 S0_7
        ) else (
          J111 0 S0_7
        )
      )
    ) fun J87 =>
  nm (fun (S0 : Nat → Int32) =>
      bd (F_X0_byteAt S0 A0 (S0 4)) fun z_10 =>
      bd (F_X0_kindOf z_10) fun z_11 =>
      nm (upd S0 3 z_11) fun S0_12 =>
      if (S0_12 2) ≤ (S0_12 4) then (
        J87 (S0_12 4) S0_12
      ) else (
        J87 ((S0_12 4) + 1) S0_12
      )
    ) fun J47 =>
  nm (upd S0 4 (S0 5)) fun S0_19 =>
  L_X0_advance_8 A0 J47 FU S0_19
def L_X0_numberHere_30 (S0 : Nat → Int32) (A0 : Nat → Nat → Int32) (J58 : Int32 → Int32 → Option (Int32)) : Nat → Int32 → Int32 → Int32 → Option (Int32)
  | 0, _, _, _ => none
  | n + 1, x1, x2, x3 =>
    if (S0 5) ≤ x3 then (
      J58 x1 x2
    ) else (
      bd (F_X0_byteAt S0 A0 x3) fun z_3 =>
      nm ((((x2 * 10) + z_3) - 48) : Int32) fun v_4 =>
      nm (x3 + 1 : Int32) fun v_5 =>
      L_X0_numberHere_30 S0 A0 J58 n x1 v_4 v_5
    )
def F_X0_numberHere (S0 : Nat → Int32) (A0 : Nat → Nat → Int32) (p1 : Int32) : Option (Int32) :=
  nm (fun (x1 : Int32) (x2 : Int32) =>
      if x2 ≤ x1 then (
        some (x2)
      ) else (
        some ((-1))
      )
    ) fun J58 =>
  if (S0 3) = 2 then (
    if ((S0 5) - (S0 4)) ≤ 5 then (
      nm (S0 4 : Int32) fun v_8 =>
      L_X0_numberHere_30 S0 A0 J58 FU p1 0 v_8
    ) else (
      some ((-1))
    )
  ) else (
    some ((-1))
  )
def F_X0_signHere (S0 : Nat → Int32) (A0 : Nat → Nat → Int32) : Option (Int32) :=
  if (S0 3) = 3 then (
    bd (F_X0_byteAt S0 A0 (S0 4)) fun z_2 =>
    some (z_2)
  ) else (
    some ((-1))
  )
def L_X0_isWord_28 (S0 : Nat → Int32) (A0 : Nat → Nat → Int32) (k1 : Nat) (J62 : Option (Int32)) : Nat → Int32 → Option (Int32)
  | 0, _ => none
  | n + 1, x2 =>
    if (nI (sLen.getD k1 0)) ≤ x2 then (
      J62
    ) else (
      bd (F_X0_byteAt S0 A0 ((S0 4) + x2)) fun z_2 =>
      ix x2 (sLen.getD k1 0) <|
      if z_2 = ((sByt.getD k1 []).getD (x2).toNatClampNeg 0) then (
        nm (x2 + 1 : Int32) fun v_5 =>
        L_X0_isWord_28 S0 A0 k1 J62 n v_5
      ) else (
        some (0)
      )
    )
def F_X0_isWord (S0 : Nat → Int32) (A0 : Nat → Nat → Int32) (k1 : Nat) : Option (Int32) :=
  gk k1 <|
  nm (
      some (1)
    ) fun J62 =>
  if (S0 3) = 1 then (
    if ((S0 5) - (S0 4)) = (nI (sLen.getD k1 0)) then (
      L_X0_isWord_28 S0 A0 k1 J62 FU 0
    ) else (
      some (0)
    )
  ) else (
    some (0)
  )
def F_X0_subjectHere (S0 : Nat → Int32) (A0 : Nat → Nat → Int32) : Option (Int32) :=
  bd (F_X0_isWord S0 A0 4) fun z_1 =>
  if z_1 = 0 then (
    bd (F_X0_isWord S0 A0 5) fun z_3 =>
    if z_3 = 0 then (
      bd (F_X0_isWord S0 A0 6) fun z_5 =>
      if z_5 = 0 then (
        some ((-1))
      ) else (
        some (2)
      )
    ) else (
      some (1)
    )
  ) else (
    some (0)
  )
def F_X0_readTest (S0 : Nat → Int32) (A0 : Nat → Nat → Int32) (S1 : Nat → Int32) (A1 : Nat → Nat → Int32) : Option (Int32 × (Nat → Int32) × (Nat → Nat → Int32)) :=
  bd (F_X0_subjectHere S0 A0) fun z_1 =>
  if z_1 = (-1) then (
    some (0, S0, A1)
  ) else (
    bd (F_X0_advance S0 A0) fun z_3 =>
    bd (F_X0_signHere z_3 A0) fun z_4 =>
    if z_4 = (-1) then (
      some (0, z_3, A1)
    ) else (
      if z_4 = 59 then (
        some (0, z_3, A1)
      ) else (
        bd (F_X0_advance z_3 A0) fun z_7 =>
        bd (F_X0_numberHere z_7 A0 99999) fun z_8 =>
        if z_8 = (-1) then (
          some (0, z_7, A1)
        ) else (
          bd (F_X0_advance z_7 A0) fun z_10 =>
          bd (F_X1_addTest S1 A1 z_1 z_4 z_8) fun z_11 =>
          some (1, z_10, z_11)
        )
      )
    )
  )
def L_X0_readTests_9 (A0 : Nat → Nat → Int32) (S1 : Nat → Int32) (J45 : Int32 → (Nat → Int32) → (Nat → Nat → Int32) → Option (Int32 × (Nat → Int32) × (Nat → Nat → Int32))) : Nat → Int32 → Int32 → (Nat → Int32) → (Nat → Nat → Int32) → Option (Int32 × (Nat → Int32) × (Nat → Nat → Int32))
  | 0, _, _, _, _ => none
  | n + 1, x2, x3, S0, A1 =>
    if x2 = 0 then (
      J45 x2 S0 A1
    ) else (
      if 3 ≤ x3 then (
        J45 x2 S0 A1
      ) else (
        bd (F_X0_advance S0 A0) fun z_7 =>
        bd (F_X0_readTest z_7 A0 S1 A1) fun z_8 =>
        if z_8.1 = 0 then (
          some (0, z_8.2.1, z_8.2.2)
        ) else (
          bd (F_X0_isWord z_8.2.1 A0 7) fun z_10 =>
          nm (x3 + 1 : Int32) fun v_11 =>
          L_X0_readTests_9 A0 S1 J45 n z_10 v_11 z_8.2.1 z_8.2.2
        )
      )
    )
def F_X0_readTests (S0 : Nat → Int32) (A0 : Nat → Nat → Int32) (S1 : Nat → Int32) (A1 : Nat → Nat → Int32) : Option (Int32 × (Nat → Int32) × (Nat → Nat → Int32)) :=
  nm (fun (x2 : Int32) (S0 : Nat → Int32) (A1 : Nat → Nat → Int32) =>
      if x2 = 0 then (
        if x2 = 0 then (
          some (1, S0, A1)
        ) else (
          some (0, S0, A1)
        )
      ) else (
        bd (F_X0_advance S0 A0) fun z_3 =>
        if x2 = 0 then (
          some (1, z_3, A1)
        ) else (
          some (0, z_3, A1)
        )
      )
    ) fun J45 =>
  bd (F_X0_isWord S0 A0 3) fun z_12 =>
  L_X0_readTests_9 A0 S1 J45 FU z_12 0 S0 A1
def F_X0_readStatement (S0 : Nat → Int32) (A0 : Nat → Nat → Int32) (S1 : Nat → Int32) (A1 : Nat → Nat → Int32) : Option (Int32 × (Nat → Int32) × (Nat → Int32) × (Nat → Nat → Int32)) :=
  nm (fun (S0 : Nat → Int32) (S1 : Nat → Int32) (A1 : Nat → Nat → Int32) =>
      bd (F_X0_signHere S0 A0) fun z_1 =>
      if z_1 = 59 then (
        bd (F_X0_advance S0 A0) fun z_3 =>
        some (1, z_3, S1, A1)
      ) else (
        some (0, S0, S1, A1)
      )
    ) fun J108 =>
  nm (fun (x2 : Int32) (x3 : Int32) (y0 : Int32) (S0 : Nat → Int32) (S1 : Nat → Int32) (A1 : Nat → Nat → Int32) =>
      bd (F_X0_numberHere S0 A0 y0) fun z_4 =>
      if z_4 = (-1) then (
        some (0, S0, S1, A1)
      ) else (
        bd (F_X0_advance S0 A0) fun z_6 =>
        if x2 = 0 then (
          if x3 = 0 then (
            bd (F_X1_setRent S1 z_4) fun z_12 =>
            J108 z_6 z_12 A1
          ) else (
            bd (F_X1_addPart S1 A1 z_4) fun z_9 =>
            bd (F_X0_readTests z_6 A0 z_9.1 z_9.2) fun z_10 =>
            if z_10.1 = 0 then (
              some (0, z_10.2.1, z_9.1, z_10.2.2)
            ) else (
              J108 z_10.2.1 z_9.1 z_10.2.2
            )
          )
        ) else (
          bd (F_X1_setWeeks S1 z_4) fun z_13 =>
          J108 z_6 z_13 A1
        )
      )
    ) fun J49 =>
  nm (fun (x2 : Int32) (x3 : Int32) (S0 : Nat → Int32) (S1 : Nat → Int32) (A1 : Nat → Nat → Int32) =>
      bd (F_X0_advance S0 A0) fun z_14 =>
      if x3 = 0 then (
        J49 x2 x3 99999 z_14 S1 A1
      ) else (
        J49 x2 x3 100 z_14 S1 A1
      )
    ) fun J33 =>
  bd (F_X0_isWord S0 A0 0) fun z_16 =>
  bd (F_X0_isWord S0 A0 1) fun z_17 =>
  if z_16 = 0 then (
    if z_17 = 0 then (
      bd (F_X0_isWord S0 A0 2) fun z_20 =>
      if z_20 = 0 then (
        some (0, S0, S1, A1)
      ) else (
        J33 z_16 z_17 S0 S1 A1
      )
    ) else (
      J33 z_16 z_17 S0 S1 A1
    )
  ) else (
    J33 z_16 z_17 S0 S1 A1
  )
def L_X0_readContract_32 (A0 : Nat → Nat → Int32) (J64 : (Nat → Int32) → (Nat → Int32) → (Nat → Nat → Int32) → Option (Int32 × (Nat → Int32) × (Nat → Int32) × (Nat → Nat → Int32))) : Nat → Int32 → (Nat → Int32) → (Nat → Int32) → (Nat → Nat → Int32) → Option (Int32 × (Nat → Int32) × (Nat → Int32) × (Nat → Nat → Int32))
  | 0, _, _, _, _ => none
  | n + 1, x3, S0, S1, A1 =>
    if 12 ≤ x3 then (
      J64 S0 S1 A1
    ) else (
      if (S0 3) = 0 then (
        J64 S0 S1 A1
      ) else (
        bd (F_X0_readStatement S0 A0 S1 A1) fun z_4 =>
        if z_4.1 = 0 then (
          some (z_4.2.1 4, z_4.2.1, z_4.2.2.1, z_4.2.2.2)
        ) else (
          nm (x3 + 1 : Int32) fun v_6 =>
          L_X0_readContract_32 A0 J64 n v_6 z_4.2.1 z_4.2.2.1 z_4.2.2.2
        )
      )
    )
def F_X0_readContract (S0 : Nat → Int32) (A0 : Nat → Nat → Int32) (S1 : Nat → Int32) (A1 : Nat → Nat → Int32) (p1 : Int32) : Option (Int32 × (Nat → Int32) × (Nat → Int32) × (Nat → Nat → Int32)) :=
  nm (fun (S0 : Nat → Int32) (S1 : Nat → Int32) (A1 : Nat → Nat → Int32) =>
      if (S0 3) = 0 then (
        some ((-1), S0, S1, A1)
      ) else (
        some (S0 4, S0, S1, A1)
      )
    ) fun J64 =>
  bd (F_X1_clearContract S1) fun z_7 =>
  nm ((if (S0 1) < p1 then (S0 1) else p1) : Int32) fun v_8 =>
  nm (upd S0 2 v_8) fun S0_9 =>
  nm (upd S0_9 1 0) fun S0_10 =>
  nm (upd S0_10 5 0) fun S0_11 =>
  bd (F_X0_advance S0_11 A0) fun z_12 =>
  L_X0_readContract_32 A0 J64 FU 0 z_12 z_7 A1
def F_X6_isIn (p1 : Int32) (p2 : Int32) (p3 : Int32) : Option (Int32) :=
  if p1 < p2 then (
    some (0)
  ) else (
    if p3 < p1 then (
      some (0)
    ) else (
      some (1)
    )
  )
def F_X6_isMark (p1 : Int32) (p2 : Int32) (p3 : Int32) : Option (Int32) :=
  bd (F_X6_isIn p1 0 11) fun z_1 =>
  if z_1 = 0 then (
    some (0)
  ) else (
    bd (F_X6_isIn p2 0 39) fun z_3 =>
    if z_3 = 0 then (
      some (0)
    ) else (
      bd (F_X6_isIn p3 0 19) fun z_5 =>
      if z_5 = 0 then (
        some (0)
      ) else (
        some (1)
      )
    )
  )
def F_X6_puts (A6 : Nat → Nat → Int32) (p1 : Int32) (p2 : Int32) (p3 : Int32) (p4 : Int32) : Option ((Nat → Nat → Int32)) :=
  ix ((((p1 * 40) + p2) * 20) + p3) 9600 <|
  nm (va_up A6 0 (upd (A6 0) (((((p1 * 40) + p2) * 20) + p3)).toNatClampNeg (vp_nar .byte ((p4).toInt8.toInt32)))) fun A6_2 =>
  ix p1 12 <|
  nm (va_up A6_2 2 (upd (A6_2 2) (p1).toNatClampNeg (vp_nar .boolean 0))) fun A6_4 =>
  some (A6_4)
def F_X6_mark (A6 : Nat → Nat → Int32) (p1 : Int32) (p2 : Int32) (p3 : Int32) (p4 : Int32) : Option (Int32 × (Nat → Nat → Int32)) :=
  bd (F_X6_isMark p1 p2 p3) fun z_1 =>
  if z_1 = 0 then (
    some (0, A6)
  ) else (
    bd (F_X6_isIn p4 0 7) fun z_3 =>
    if z_3 = 0 then (
      some (0, A6)
    ) else (
      bd (F_X6_puts A6 p1 p2 p3 p4) fun z_5 =>
      some (1, z_5)
    )
  )
def L_X6_line_55 (J121 : Int32 → (Nat → Nat → Int32) → Option (Int32 × (Nat → Nat → Int32))) : Nat → Int32 → Int32 → Int32 → Int32 → Int32 → Int32 → Int32 → Int32 → (Nat → Nat → Int32) → Option (Int32 × (Nat → Nat → Int32))
  | 0, _, _, _, _, _, _, _, _, _ => none
  | n + 1, x1, x2, x3, x4, x5, x6, x7, x8, A6 =>
    nm (fun (x1 : Int32) (x2 : Int32) (x3 : Int32) (x4 : Int32) (x5 : Int32) (x6 : Int32) (x7 : Int32) (x8 : Int32) (y0 : Int32) (y1 : Int32) (y2 : Int32) (y3 : Int32) (A6 : Nat → Nat → Int32) =>
        bd (F_X6_puts A6 y3 y2 (y1 + y0) x6) fun z_1 =>
        nm (x8 + 1 : Int32) fun v_2 =>
        L_X6_line_55 J121 n x1 x2 x3 x4 x5 x6 x7 v_2 z_1
      ) fun J109 =>
    nm (fun (x1 : Int32) (x2 : Int32) (x3 : Int32) (x4 : Int32) (x5 : Int32) (x6 : Int32) (x7 : Int32) (x8 : Int32) (y0 : Int32) (y1 : Int32) (y2 : Int32) (A6 : Nat → Nat → Int32) =>
        if x7 = 0 then (
          J109 x1 x2 x3 x4 x5 x6 x7 x8 0 x3 (y1 + y0) y2 A6
        ) else (
          bd (F_J9_floorDiv_7cf53 (x8 * (x5 - x3)) x7) fun z_4 =>
          J109 x1 x2 x3 x4 x5 x6 x7 x8 z_4 x3 (y1 + y0) y2 A6
        )
      ) fun J86 =>
    if x7 < x8 then (
      J121 x7 A6
    ) else (
      if x7 = 0 then (
        J86 x1 x2 x3 x4 x5 x6 x7 x8 0 x2 x1 A6
      ) else (
        bd (F_J9_floorDiv_7cf53 (x8 * (x4 - x2)) x7) fun z_7 =>
        J86 x1 x2 x3 x4 x5 x6 x7 x8 z_7 x2 x1 A6
      )
    )
def F_X6_line (A6 : Nat → Nat → Int32) (p1 : Int32) (p2 : Int32) (p3 : Int32) (p4 : Int32) (p5 : Int32) (p6 : Int32) : Option (Int32 × (Nat → Nat → Int32)) :=
  nm (fun (x7 : Int32) (A6 : Nat → Nat → Int32) =>
      some ((x7 + 1), A6)
    ) fun J121 =>
  bd (F_X6_isMark p1 p2 p3) fun z_8 =>
  if z_8 = 0 then (
    some ((-1), A6)
  ) else (
    bd (F_X6_isMark p1 p4 p5) fun z_10 =>
    if z_10 = 0 then (
      some ((-1), A6)
    ) else (
      bd (F_X6_isIn p6 0 7) fun z_12 =>
      if z_12 = 0 then (
        some ((-1), A6)
      ) else (
        nm ((if 0 ≤ (p4 - p2) then (p4 - p2) else 0 - (p4 - p2)) : Int32) fun v_14 =>
        nm ((if 0 ≤ (p5 - p3) then (p5 - p3) else 0 - (p5 - p3)) : Int32) fun v_15 =>
        nm ((if v_14 < v_15 then v_15 else v_14) : Int32) fun v_16 =>
        L_X6_line_55 J121 FU p1 p2 p3 p4 p5 p6 v_16 0 A6
      )
    )
  )
def F_X6_column (p1 : Int32) (p2 : Int32) : Option (Int32) :=
  nm ((p2 - 20) : Int32) fun v_1 =>
  bd (F_J9_floorMod_7cf53 (((30 * p1) + v_1) - (((v_1 * v_1) * v_1) / 6000)) 360) fun z_2 =>
  some (z_2)
def F_X6_row (p1 : Int32) (p2 : Int32) : Option (Int32) :=
  nz (1000 + ((p1 - 20) * (p1 - 20))) <|
  some (((p2 * 1000) / (1000 + ((p1 - 20) * (p1 - 20)))))
def F_X6_stands (p1 : Int32) (p2 : Int32) (p3 : Int32) (p4 : Int32) : Option (Int32) :=
  bd (F_X6_isMark p1 p2 p3) fun z_1 =>
  if z_1 = 0 then (
    some ((-1))
  ) else (
    if p4 = 0 then (
      bd (F_X6_column p1 p2) fun z_6 =>
      some (z_6)
    ) else (
      if p4 = 1 then (
        bd (F_X6_row p2 p3) fun z_5 =>
        some (z_5)
      ) else (
        some ((-1))
      )
    )
  )
def L_X6_colourIn_48 (J113 : Int32 → Int32 → Int32 → (Nat → Nat → Int32) → Option (Int32 × (Nat → Nat → Int32))) : Nat → Int32 → Int32 → Int32 → Int32 → (Nat → Nat → Int32) → Option (Int32 × (Nat → Nat → Int32))
  | 0, _, _, _, _, _ => none
  | n + 1, x1, x2, x3, x4, A6 =>
    nm (fun (x1 : Int32) (x2 : Int32) (x3 : Int32) (x4 : Int32) (A6 : Nat → Nat → Int32) =>
        nm (x4 + 1 : Int32) fun v_5 =>
        L_X6_colourIn_48 J113 n x1 x2 x3 v_5 A6
      ) fun J107 =>
    if 20 ≤ x4 then (
      J113 x1 x2 x3 A6
    ) else (
      ix ((((x1 * 40) + x3) * 20) + x4) 9600 <|
      nm ((A6 0 (((((x1 * 40) + x3) * 20) + x4)).toNatClampNeg) : Int32) fun v_8 =>
      if v_8 = 0 then (
        J107 x1 x2 x3 x4 A6
      ) else (
        bd (F_X6_column x1 x3) fun z_10 =>
        bd (F_X6_row x3 x4) fun z_11 =>
        ix (((7200 * x1) + (20 * z_10)) + z_11) 86400 <|
        nm (va_up A6 1 (upd (A6 1) ((((7200 * x1) + (20 * z_10)) + z_11)).toNatClampNeg (vp_nar .byte v_8))) fun A6_13 =>
        J107 x1 x2 x3 x4 A6_13
      )
    )
def L_X6_colourIn_39 (J119 : Int32 → Int32 → (Nat → Nat → Int32) → Option (Int32 × (Nat → Nat → Int32))) : Nat → Int32 → Int32 → Int32 → (Nat → Nat → Int32) → Option (Int32 × (Nat → Nat → Int32))
  | 0, _, _, _, _ => none
  | n + 1, x1, x2, x3, A6 =>
    nm (fun (x1 : Int32) (x2 : Int32) (x3 : Int32) (A6 : Nat → Nat → Int32) =>
        nm (x3 + 1 : Int32) fun v_4 =>
        L_X6_colourIn_39 J119 n x1 x2 v_4 A6
      ) fun J113 =>
    if 40 ≤ x3 then (
      J119 x1 x2 A6
    ) else (
      L_X6_colourIn_48 J113 FU x1 x2 x3 0 A6
    )
def L_X6_colourIn_11 (J37 : Int32 → Int32 → (Nat → Nat → Int32) → Option (Int32 × (Nat → Nat → Int32))) : Nat → Int32 → Int32 → Int32 → (Nat → Nat → Int32) → Option (Int32 × (Nat → Nat → Int32))
  | 0, _, _, _, _ => none
  | n + 1, x1, x2, x3, A6 =>
    if 7200 ≤ x3 then (
      J37 x1 x2 A6
    ) else (
      ix ((7200 * x1) + x3) 86400 <|
      nm (va_up A6 1 (upd (A6 1) (((7200 * x1) + x3)).toNatClampNeg (vp_nar .byte 0))) fun A6_17 =>
      nm (x3 + 1 : Int32) fun v_18 =>
      L_X6_colourIn_11 J37 n x1 x2 v_18 A6_17
    )
def F_X6_colourIn (A6 : Nat → Nat → Int32) (p1 : Int32) (p2 : Int32) : Option (Int32 × (Nat → Nat → Int32)) :=
  nm (fun (x1 : Int32) (x2 : Int32) (A6 : Nat → Nat → Int32) =>
      ix ((7200 * x1) + x2) 86400 <|
      some ((A6 1 (((7200 * x1) + x2)).toNatClampNeg), A6)
    ) fun J126 =>
  nm (fun (x1 : Int32) (x2 : Int32) (A6 : Nat → Nat → Int32) =>
      ix x1 12 <|
      nm (va_up A6 2 (upd (A6 2) (x1).toNatClampNeg (vp_nar .boolean 1))) fun A6_3 =>
      J126 x1 x2 A6_3
    ) fun J119 =>
  nm (fun (x1 : Int32) (x2 : Int32) (A6 : Nat → Nat → Int32) =>
      L_X6_colourIn_39 J119 FU x1 x2 0 A6
    ) fun J37 =>
  ix p1 12 <|
  if (A6 2 (p1).toNatClampNeg) = 0 then (
    L_X6_colourIn_11 J37 FU p1 p2 0 A6
  ) else (
    J126 p1 p2 A6
  )
def L_X6_viewAt_7 (J81 : Int32 → (Nat → Nat → Int32) → Option (Int32 × (Nat → Nat → Int32))) : Nat → Int32 → Int32 → Int32 → Int32 → (Nat → Nat → Int32) → Option (Int32 × (Nat → Nat → Int32))
  | 0, _, _, _, _, _ => none
  | n + 1, x1, x2, x3, x4, A6 =>
    nm (fun (x1 : Int32) (x2 : Int32) (x3 : Int32) (x4 : Int32) (A6 : Nat → Nat → Int32) =>
        nm (x4 + 1 : Int32) fun v_1 =>
        L_X6_viewAt_7 J81 n x1 x2 x3 v_1 A6
      ) fun J75 =>
    nm (fun (x1 : Int32) (x4 : Int32) (x5 : Int32) (A6 : Nat → Nat → Int32) =>
        J75 x1 x4 x5 x4 A6
      ) fun J69 =>
    if 12 ≤ x4 then (
      J81 x2 A6
    ) else (
      bd (F_X6_colourIn A6 x4 x1) fun z_3 =>
      if z_3.1 = 0 then (
        J75 x1 x2 x3 x4 z_3.2
      ) else (
        nm ((if 0 ≤ ((30 * x4) - (x1 / 20)) then ((30 * x4) - (x1 / 20)) else 0 - ((30 * x4) - (x1 / 20))) : Int32) fun v_5 =>
        nm ((if (360 - v_5) < v_5 then (360 - v_5) else v_5) : Int32) fun v_6 =>
        if x2 = (-1) then (
          J69 x1 x4 v_6 z_3.2
        ) else (
          if v_6 < x3 then (
            J69 x1 x4 v_6 z_3.2
          ) else (
            J75 x1 x2 x3 x4 z_3.2
          )
        )
      )
    )
def F_X6_viewAt (A6 : Nat → Nat → Int32) (p1 : Int32) : Option (Int32 × (Nat → Nat → Int32)) :=
  nm (fun (x2 : Int32) (A6 : Nat → Nat → Int32) =>
      some (x2, A6)
    ) fun J81 =>
  L_X6_viewAt_7 J81 FU p1 (-1) 0 0 A6
def F_X6_isPlace (p1 : Int32) (p2 : Int32) : Option (Int32) :=
  bd (F_X6_isIn p1 0 359) fun z_1 =>
  if z_1 = 0 then (
    some (0)
  ) else (
    bd (F_X6_isIn p2 0 19) fun z_3 =>
    if z_3 = 0 then (
      some (0)
    ) else (
      some (1)
    )
  )
def F_X6_colour (A6 : Nat → Nat → Int32) (p1 : Int32) (p2 : Int32) : Option (Int32 × (Nat → Nat → Int32)) :=
  bd (F_X6_isPlace p1 p2) fun z_1 =>
  if z_1 = 0 then (
    some ((-1), A6)
  ) else (
    bd (F_X6_viewAt A6 ((20 * p1) + p2)) fun z_3 =>
    if z_3.1 = (-1) then (
      some (0, z_3.2)
    ) else (
      bd (F_X6_colourIn z_3.2 z_3.1 ((20 * p1) + p2)) fun z_5 =>
      some (z_5.1, z_5.2)
    )
  )
def F_X6_from (A6 : Nat → Nat → Int32) (p1 : Int32) (p2 : Int32) : Option (Int32 × (Nat → Nat → Int32)) :=
  bd (F_X6_isPlace p1 p2) fun z_1 =>
  if z_1 = 0 then (
    some ((-1), A6)
  ) else (
    bd (F_X6_viewAt A6 ((20 * p1) + p2)) fun z_3 =>
    some (z_3.1, z_3.2)
  )
def L_X6_seam_16 (J75 : Int32 → (Nat → Nat → Int32) → Option (Int32 × (Nat → Nat → Int32))) : Nat → Int32 → Int32 → Int32 → (Nat → Nat → Int32) → Option (Int32 × (Nat → Nat → Int32))
  | 0, _, _, _, _ => none
  | n + 1, x1, x2, x3, A6 =>
    nm (fun (x1 : Int32) (x3 : Int32) (y0 : Int32) (y1 : Int32) (A6 : Nat → Nat → Int32) =>
        nm ((y1 + y0) : Int32) fun v_1 =>
        nm (x3 + 1 : Int32) fun v_2 =>
        L_X6_seam_16 J75 n x1 v_1 v_2 A6
      ) fun J67 =>
    nm (fun (x1 : Int32) (x3 : Int32) (y0 : Int32) (A6 : Nat → Nat → Int32) =>
        J67 x1 x3 0 y0 A6
      ) fun J66 =>
    if 7200 ≤ x3 then (
      J75 x2 A6
    ) else (
      bd (F_X6_colourIn A6 x1 x3) fun z_4 =>
      bd (F_X6_colourIn z_4.2 ((x1 + 1) - (x1 + 1) / 12 * 12) x3) fun z_5 =>
      if z_4.1 = 0 then (
        J66 x1 x3 x2 z_5.2
      ) else (
        if z_5.1 = 0 then (
          J66 x1 x3 x2 z_5.2
        ) else (
          if z_4.1 = z_5.1 then (
            J66 x1 x3 x2 z_5.2
          ) else (
            J67 x1 x3 1 x2 z_5.2
          )
        )
      )
    )
def F_X6_seam (A6 : Nat → Nat → Int32) (p1 : Int32) : Option (Int32 × (Nat → Nat → Int32)) :=
  nm (fun (x2 : Int32) (A6 : Nat → Nat → Int32) =>
      some (x2, A6)
    ) fun J75 =>
  bd (F_X6_isIn p1 0 11) fun z_9 =>
  if z_9 = 0 then (
    some ((-1), A6)
  ) else (
    L_X6_seam_16 J75 FU p1 0 0 A6
  )
def F_X6_isSquare (p1 : Int32) : Option (Int32) :=
  bd (F_X6_isIn p1 0 71) fun z_1 =>
  zb z_1 <|
  some (z_1)
def L_X6_work_42 (J81 : Int32 → Int32 → Int32 → Int32 → (Nat → Nat → Int32) → Option (Int32 × (Nat → Nat → Int32))) : Nat → Int32 → Int32 → Int32 → Int32 → Int32 → (Nat → Nat → Int32) → Option (Int32 × (Nat → Nat → Int32))
  | 0, _, _, _, _, _, _ => none
  | n + 1, x1, x2, x3, x4, x5, A6 =>
    nm (fun (x1 : Int32) (x3 : Int32) (x4 : Int32) (x5 : Int32) (y0 : Int32) (y1 : Int32) (A6 : Nat → Nat → Int32) =>
        nm ((y1 + y0) : Int32) fun v_2 =>
        nm (x5 + 1 : Int32) fun v_3 =>
        L_X6_work_42 J81 n x1 v_2 x3 x4 v_3 A6
      ) fun J73 =>
    if (x3 + 10) ≤ x5 then (
      J81 x1 x2 x3 x4 A6
    ) else (
      bd (F_X6_viewAt A6 ((20 * x4) + x5)) fun z_5 =>
      if z_5.1 = (-1) then (
        J73 x1 x3 x4 x5 0 x2 z_5.2
      ) else (
        J73 x1 x3 x4 x5 1 x2 z_5.2
      )
    )
def L_X6_work_24 (J87 : Int32 → (Nat → Nat → Int32) → Option (Int32 × (Nat → Nat → Int32))) : Nat → Int32 → Int32 → Int32 → Int32 → (Nat → Nat → Int32) → Option (Int32 × (Nat → Nat → Int32))
  | 0, _, _, _, _, _ => none
  | n + 1, x1, x2, x3, x4, A6 =>
    nm (fun (x1 : Int32) (x2 : Int32) (x3 : Int32) (x4 : Int32) (A6 : Nat → Nat → Int32) =>
        nm (x4 + 1 : Int32) fun v_1 =>
        L_X6_work_24 J87 n x1 x2 x3 v_1 A6
      ) fun J81 =>
    if ((10 * (x1 - x1 / 36 * 36)) + 10) ≤ x4 then (
      J87 x2 A6
    ) else (
      L_X6_work_42 J81 FU x1 x2 x3 x4 x3 A6
    )
def F_X6_work (A6 : Nat → Nat → Int32) (p1 : Int32) : Option (Int32 × (Nat → Nat → Int32)) :=
  nm (fun (x2 : Int32) (A6 : Nat → Nat → Int32) =>
      some (x2, A6)
    ) fun J87 =>
  nm (fun (x1 : Int32) (x2 : Int32) (y0 : Int32) (A6 : Nat → Nat → Int32) =>
      nm ((10 * (x1 - x1 / 36 * 36)) : Int32) fun v_8 =>
      L_X6_work_24 J87 FU x1 x2 y0 v_8 A6
    ) fun J14 =>
  if 36 ≤ p1 then (
    J14 p1 3 0 A6
  ) else (
    J14 p1 3 10 A6
  )
def F_X6_gang (S6 : Nat → Int32) (A6 : Nat → Nat → Int32) (p1 : Int32) : Option (Int32 × (Nat → Int32) × (Nat → Nat → Int32)) :=
  bd (F_X6_isIn p1 1 20) fun z_1 =>
  if z_1 = 0 then (
    some ((-1), S6, A6)
  ) else (
    if (S6 4) = 6 then (
      some ((-1), S6, A6)
    ) else (
      ix (S6 4) 6 <|
      nm (va_up A6 5 (upd (A6 5) (S6 4).toNatClampNeg p1)) fun A6_5 =>
      nm (upd S6 4 ((S6 4) + 1)) fun S6_6 =>
      some (((S6_6 4) - 1), S6_6, A6_5)
    )
  )
def F_X6_put (S6 : Nat → Int32) (A6 : Nat → Nat → Int32) (p1 : Int32) (p2 : Int32) : Option (Int32 × (Nat → Nat → Int32)) :=
  nm (fun (x1 : Int32) (x2 : Int32) (x3 : Int32) (y0 : Int32) (y1 : Int32) (A6 : Nat → Nat → Int32) =>
      ix y1 72 <|
      nm (va_up A6 9 (upd (A6 9) (y1).toNatClampNeg y0)) fun A6_2 =>
      ix x2 72 <|
      nm (va_up A6_2 8 (upd (A6_2 8) (x2).toNatClampNeg x1)) fun A6_4 =>
      ix x1 6 <|
      nm (va_up A6_4 6 (upd (A6_4 6) (x1).toNatClampNeg x2)) fun A6_6 =>
      some (x3, A6_6)
    ) fun J147 =>
  nm (fun (x1 : Int32) (x2 : Int32) (x3 : Int32) (A6 : Nat → Nat → Int32) =>
      bd (F_X6_work A6 x2) fun z_7 =>
      if x3 = 1 then (
        J147 x1 x2 x3 z_7.1 x2 z_7.2
      ) else (
        nm ((if (1 : Int32) < (z_7.1 / 2) then (z_7.1 / 2) else 1) : Int32) fun v_9 =>
        J147 x1 x2 x3 v_9 x2 z_7.2
      )
    ) fun J117 =>
  nm (fun (x1 : Int32) (x2 : Int32) (x3 : Int32) (A6 : Nat → Nat → Int32) =>
      if 36 ≤ x2 then (
        J117 x1 x2 x3 A6
      ) else (
        ix (36 + x2) 72 <|
        if x3 ≤ (A6 7 ((36 + x2)).toNatClampNeg) then (
          J117 x1 x2 x3 A6
        ) else (
          some ((-7), A6)
        )
      )
    ) fun J95 =>
  bd (F_X6_isIn p1 0 ((S6 4) - 1)) fun z_13 =>
  if z_13 = 0 then (
    some ((-2), A6)
  ) else (
    bd (F_X6_isSquare p2) fun z_15 =>
    if z_15 = 0 then (
      some ((-2), A6)
    ) else (
      ix p1 6 <|
      if (A6 6 (p1).toNatClampNeg) = (-1) then (
        ix p2 72 <|
        if (A6 7 (p2).toNatClampNeg) = 2 then (
          some ((-4), A6)
        ) else (
          ix p2 72 <|
          if (A6 8 (p2).toNatClampNeg) = (-1) then (
            ix p2 72 <|
            nm (((A6 7 (p2).toNatClampNeg) + 1) : Int32) fun v_24 =>
            if v_24 = 2 then (
              ix p2 72 <|
              if ((A6 10 (p2).toNatClampNeg) + 3) ≤ (S6 3) then (
                J95 p1 p2 v_24 A6
              ) else (
                some ((-6), A6)
              )
            ) else (
              J95 p1 p2 v_24 A6
            )
          ) else (
            some ((-5), A6)
          )
        )
      ) else (
        some ((-3), A6)
      )
    )
  )
def L_X6_day_14 (J142 : (Nat → Int32) → (Nat → Nat → Int32) → Option (Int32 × (Nat → Int32) × (Nat → Nat → Int32))) : Nat → Int32 → (Nat → Int32) → (Nat → Nat → Int32) → Option (Int32 × (Nat → Int32) × (Nat → Nat → Int32))
  | 0, _, _, _ => none
  | n + 1, x1, S6, A6 =>
    nm (fun (x1 : Int32) (S6 : Nat → Int32) (A6 : Nat → Nat → Int32) =>
        nm (x1 + 1 : Int32) fun v_2 =>
        L_X6_day_14 J142 n v_2 S6 A6
      ) fun J136 =>
    nm (fun (x1 : Int32) (x2 : Int32) (S6 : Nat → Int32) (A6 : Nat → Nat → Int32) =>
        ix x2 72 <|
        nm (va_up A6 12 (upd (A6 12) (x2).toNatClampNeg x1)) fun A6_4 =>
        ix x2 72 <|
        nm (va_up A6_4 8 (upd (A6_4 8) (x2).toNatClampNeg (-1))) fun A6_6 =>
        ix x1 6 <|
        nm (va_up A6_6 6 (upd (A6_6 6) (x1).toNatClampNeg (-1))) fun A6_8 =>
        J136 x1 S6 A6_8
      ) fun J115 =>
    if (S6 4) ≤ x1 then (
      J142 S6 A6
    ) else (
      ix x1 6 <|
      nm ((A6 6 (x1).toNatClampNeg) : Int32) fun v_11 =>
      if v_11 = (-1) then (
        J136 x1 S6 A6
      ) else (
        ix v_11 72 <|
        ix x1 6 <|
        nm ((if (0 : Int32) < ((A6 9 (v_11).toNatClampNeg) - (A6 5 (x1).toNatClampNeg)) then ((A6 9 (v_11).toNatClampNeg) - (A6 5 (x1).toNatClampNeg)) else 0) : Int32) fun v_15 =>
        ix v_11 72 <|
        nm (va_up A6 9 (upd (A6 9) (v_11).toNatClampNeg v_15)) fun A6_17 =>
        ix v_11 72 <|
        if (A6_17 9 (v_11).toNatClampNeg) ≤ 0 then (
          ix v_11 72 <|
          ix v_11 72 <|
          nm (va_up A6_17 7 (upd (A6_17 7) (v_11).toNatClampNeg ((A6_17 7 (v_11).toNatClampNeg) + 1))) fun A6_22 =>
          ix v_11 72 <|
          if (A6_22 7 (v_11).toNatClampNeg) = 1 then (
            ix v_11 72 <|
            nm (va_up A6_22 10 (upd (A6_22 10) (v_11).toNatClampNeg (S6 3))) fun A6_28 =>
            J115 x1 v_11 S6 A6_28
          ) else (
            ix v_11 72 <|
            nm (va_up A6_22 11 (upd (A6_22 11) (v_11).toNatClampNeg (S6 3))) fun A6_26 =>
            J115 x1 v_11 S6 A6_26
          )
        ) else (
          J136 x1 S6 A6_17
        )
      )
    )
def F_X6_day (S6 : Nat → Int32) (A6 : Nat → Nat → Int32) : Option (Int32 × (Nat → Int32) × (Nat → Nat → Int32)) :=
  nm (fun (S6 : Nat → Int32) (A6 : Nat → Nat → Int32) =>
      nm (upd S6 3 ((S6 3) + 1)) fun S6_1 =>
      some (S6_1 3, S6_1, A6)
    ) fun J142 =>
  if (S6 3) = 1000 then (
    some ((-1), S6, A6)
  ) else (
    L_X6_day_14 J142 FU 0 S6 A6
  )
def F_X6_square (A6 : Nat → Nat → Int32) (p1 : Int32) (p2 : Int32) : Option (Int32 × (Nat → Nat → Int32)) :=
  bd (F_X6_isSquare p1) fun z_1 =>
  if z_1 = 0 then (
    some ((-1), A6)
  ) else (
    if p2 = 0 then (
      bd (F_X6_work A6 p1) fun z_4 =>
      some (z_4.1, z_4.2)
    ) else (
    if p2 = 1 then (
      ix p1 72 <|
      some ((A6 7 (p1).toNatClampNeg), A6)
    ) else (
    if p2 = 2 then (
      ix p1 72 <|
      some ((A6 8 (p1).toNatClampNeg), A6)
    ) else (
    if p2 = 3 then (
      ix p1 72 <|
      some ((A6 9 (p1).toNatClampNeg), A6)
    ) else (
    if p2 = 4 then (
      ix p1 72 <|
      some ((A6 10 (p1).toNatClampNeg), A6)
    ) else (
    if p2 = 5 then (
      ix p1 72 <|
      some ((A6 11 (p1).toNatClampNeg), A6)
    ) else (
    if p2 = 6 then (
      ix p1 72 <|
      some ((A6 12 (p1).toNatClampNeg), A6)
    ) else (
      some ((-1), A6)
    )))))))
  )
def L_X6_least_165 (S6 : Nat → Int32) (J209 : Int32 → Int32 → Int32 → Int32 → Int32 → Int32 → (Nat → Nat → Int32) → Option (Int32 × (Nat → Nat → Int32))) : Nat → Int32 → Int32 → Int32 → Int32 → Int32 → Int32 → Int32 → (Nat → Nat → Int32) → Option (Int32 × (Nat → Nat → Int32))
  | 0, _, _, _, _, _, _, _, _ => none
  | n + 1, x2, x3, x4, x5, x6, x8, x9, A6 =>
    if x3 ≤ x9 then (
      J209 x2 x3 x4 x5 x6 x8 A6
    ) else (
      ix x9 3 <|
      ix x9 6 <|
      ix x9 6 <|
      nz (A6 5 (x9).toNatClampNeg) <|
      nm ((if x8 < ((((A6 14 (x9).toNatClampNeg) + (A6 5 (x9).toNatClampNeg)) - 1) / (A6 5 (x9).toNatClampNeg)) then ((((A6 14 (x9).toNatClampNeg) + (A6 5 (x9).toNatClampNeg)) - 1) / (A6 5 (x9).toNatClampNeg)) else x8) : Int32) fun v_9 =>
      nm (x9 + 1 : Int32) fun v_10 =>
      L_X6_least_165 S6 J209 n x2 x3 x4 x5 x6 v_9 v_10 A6
    )
def L_X6_least_122 (S6 : Nat → Int32) (J159 : Int32 → Int32 → Int32 → Int32 → Int32 → (Nat → Nat → Int32) → Option (Int32 × (Nat → Nat → Int32))) : Nat → Int32 → Int32 → Int32 → Int32 → Int32 → Int32 → Int32 → (Nat → Nat → Int32) → Option (Int32 × (Nat → Nat → Int32))
  | 0, _, _, _, _, _, _, _, _ => none
  | n + 1, x2, x3, x4, x5, x6, x7, x8, A6 =>
    if x2 ≤ x8 then (
      J159 x2 x3 x4 x5 x6 A6
    ) else (
      nz x3 <|
      ix (x7 - x7 / x3 * x3) 3 <|
      ix x8 6 <|
      ix (x7 - x7 / x3 * x3) 3 <|
      nm (va_up A6 14 (upd (A6 14) ((x7 - x7 / x3 * x3)).toNatClampNeg ((A6 14 ((x7 - x7 / x3 * x3)).toNatClampNeg) + (A6 13 (x8).toNatClampNeg)))) fun A6_16 =>
      nz x3 <|
      nm ((x7 / x3) : Int32) fun v_18 =>
      nm (x8 + 1 : Int32) fun v_19 =>
      L_X6_least_122 S6 J159 n x2 x3 x4 x5 x6 v_18 v_19 A6_16
    )
def L_X6_least_95 (S6 : Nat → Int32) (J115 : Int32 → Int32 → Int32 → Int32 → Int32 → (Nat → Nat → Int32) → Option (Int32 × (Nat → Nat → Int32))) : Nat → Int32 → Int32 → Int32 → Int32 → Int32 → Int32 → (Nat → Nat → Int32) → Option (Int32 × (Nat → Nat → Int32))
  | 0, _, _, _, _, _, _, _ => none
  | n + 1, x2, x3, x4, x5, x6, x7, A6 =>
    if x3 ≤ x7 then (
      J115 x2 x3 x4 x5 x6 A6
    ) else (
      ix x7 3 <|
      nm (va_up A6 14 (upd (A6 14) (x7).toNatClampNeg 0)) fun A6_22 =>
      nm (x7 + 1 : Int32) fun v_23 =>
      L_X6_least_95 S6 J115 n x2 x3 x4 x5 x6 v_23 A6_22
    )
def L_X6_least_85 (S6 : Nat → Int32) (J232 : Int32 → (Nat → Nat → Int32) → Option (Int32 × (Nat → Nat → Int32))) : Nat → Int32 → Int32 → Int32 → Int32 → Int32 → (Nat → Nat → Int32) → Option (Int32 × (Nat → Nat → Int32))
  | 0, _, _, _, _, _, _ => none
  | n + 1, x2, x3, x4, x5, x6, A6 =>
    nm (fun (x2 : Int32) (x3 : Int32) (x4 : Int32) (x5 : Int32) (x6 : Int32) (A6 : Nat → Nat → Int32) =>
        nm (x6 + 1 : Int32) fun v_1 =>
        L_X6_least_85 S6 J232 n x2 x3 x4 x5 v_1 A6
      ) fun J226 =>
    nm (fun (x2 : Int32) (x3 : Int32) (x4 : Int32) (x6 : Int32) (x8 : Int32) (A6 : Nat → Nat → Int32) =>
        J226 x2 x3 x4 x8 x6 A6
      ) fun J222 =>
    nm (fun (x2 : Int32) (x3 : Int32) (x4 : Int32) (x5 : Int32) (x6 : Int32) (x8 : Int32) (A6 : Nat → Nat → Int32) =>
        if x5 = (-1) then (
          J222 x2 x3 x4 x6 x8 A6
        ) else (
          if x5 ≤ x8 then (
            J226 x2 x3 x4 x5 x6 A6
          ) else (
            J222 x2 x3 x4 x6 x8 A6
          )
        )
      ) fun J209 =>
    nm (fun (x2 : Int32) (x3 : Int32) (x4 : Int32) (x5 : Int32) (x6 : Int32) (A6 : Nat → Nat → Int32) =>
        L_X6_least_165 S6 J209 FU x2 x3 x4 x5 x6 0 0 A6
      ) fun J159 =>
    nm (fun (x2 : Int32) (x3 : Int32) (x4 : Int32) (x5 : Int32) (x6 : Int32) (A6 : Nat → Nat → Int32) =>
        L_X6_least_122 S6 J159 FU x2 x3 x4 x5 x6 x6 0 A6
      ) fun J115 =>
    if x4 ≤ x6 then (
      J232 x5 A6
    ) else (
      L_X6_least_95 S6 J115 FU x2 x3 x4 x5 x6 0 A6
    )
def L_X6_least_46 (S6 : Nat → Int32) (J79 : Int32 → Int32 → Int32 → (Nat → Nat → Int32) → Option (Int32 × (Nat → Nat → Int32))) : Nat → Int32 → Int32 → Int32 → Int32 → Int32 → (Nat → Nat → Int32) → Option (Int32 × (Nat → Nat → Int32))
  | 0, _, _, _, _, _, _ => none
  | n + 1, x1, x2, x3, x4, x5, A6 =>
    if x2 ≤ x5 then (
      J79 x2 x3 x4 A6
    ) else (
      bd (F_X6_work A6 (x1 + x5)) fun z_26 =>
      ix x5 6 <|
      nm (va_up z_26.2 13 (upd (z_26.2 13) (x5).toNatClampNeg z_26.1)) fun A6_28 =>
      nm ((x4 * x3) : Int32) fun v_29 =>
      nm (x5 + 1 : Int32) fun v_30 =>
      L_X6_least_46 S6 J79 n x1 x2 x3 v_29 v_30 A6_28
    )
def F_X6_least (S6 : Nat → Int32) (A6 : Nat → Nat → Int32) (p1 : Int32) (p2 : Int32) (p3 : Int32) : Option (Int32 × (Nat → Nat → Int32)) :=
  nm (fun (x5 : Int32) (A6 : Nat → Nat → Int32) =>
      some (x5, A6)
    ) fun J232 =>
  nm (fun (x2 : Int32) (x3 : Int32) (x4 : Int32) (A6 : Nat → Nat → Int32) =>
      L_X6_least_85 S6 J232 FU x2 x3 x4 (-1) 0 A6
    ) fun J79 =>
  bd (F_X6_isIn p2 1 6) fun z_31 =>
  if z_31 = 0 then (
    some ((-1), A6)
  ) else (
    bd (F_X6_isIn p1 0 (72 - p2)) fun z_33 =>
    if z_33 = 0 then (
      some ((-1), A6)
    ) else (
      nm ((if (S6 4) < 3 then (S6 4) else 3) : Int32) fun v_35 =>
      bd (F_X6_isIn p3 1 v_35) fun z_36 =>
      if z_36 = 0 then (
        some ((-1), A6)
      ) else (
        L_X6_least_46 S6 J79 FU p1 p2 p3 1 0 A6
      )
    )
  )
def L_X6_four_3 (J36 : (Nat → Int32) → (Nat → Nat → Int32) → Option ((Nat → Int32) × (Nat → Nat → Int32))) : Nat → Int32 → Int32 → (Nat → Int32) → (Nat → Nat → Int32) → Option ((Nat → Int32) × (Nat → Nat → Int32))
  | 0, _, _, _, _ => none
  | n + 1, x1, x2, S6, A6 =>
    if x2 < 0 then (
      J36 S6 A6
    ) else (
      ix (S6 17) 600 <|
      nm (va_up A6 15 (upd (A6 15) (S6 17).toNatClampNeg (vp_nar .byte (((x1 >>> (x2 &&& 31))).toInt8.toInt32)))) fun A6_3 =>
      nm (upd S6 17 ((S6 17) + 1)) fun S6_4 =>
      nm (x2 + (-8) : Int32) fun v_5 =>
      L_X6_four_3 J36 n x1 v_5 S6_4 A6_3
    )
def F_X6_four (S6 : Nat → Int32) (A6 : Nat → Nat → Int32) (p1 : Int32) : Option ((Nat → Int32) × (Nat → Nat → Int32)) :=
  nm (fun (S6 : Nat → Int32) (A6 : Nat → Nat → Int32) =>
      some (S6, A6)
    ) fun J36 =>
  L_X6_four_3 J36 FU p1 24 S6 A6
def F_X6_feed (S6 : Nat → Int32) (A6 : Nat → Nat → Int32) (p1 : Int32) (p2 : Int32) (p3 : Int32) (p4 : Int32) (p5 : Int32) : Option (Int32 × (Nat → Int32) × (Nat → Nat → Int32)) :=
  if ((S6 17) + 20) ≤ 600 then (
    bd (F_X6_four S6 A6 p1) fun z_2 =>
    bd (F_X6_four z_2.1 z_2.2 p2) fun z_3 =>
    bd (F_X6_four z_3.1 z_3.2 p3) fun z_4 =>
    bd (F_X6_four z_4.1 z_4.2 p4) fun z_5 =>
    bd (F_X6_four z_5.1 z_5.2 p5) fun z_6 =>
    some (z_6.1 17, z_6.1, z_6.2)
  ) else (
    some ((-1), S6, A6)
  )
def L_X6_blanks_0 (A6 : Nat → Nat → Int32) (J52 : (Nat → Int32) → Option ((Nat → Int32))) : Nat → (Nat → Int32) → Option ((Nat → Int32))
  | 0, _ => none
  | n + 1, S6 =>
    nm (fun (S6 : Nat → Int32) =>
        nm (upd S6 19 ((S6 19) + 1)) fun S6_1 =>
        L_X6_blanks_0 A6 J52 n S6_1
      ) fun J39 =>
    if (S6 18) ≤ (S6 19) then (
      J52 S6
    ) else (
      ix (S6 19) 600 <|
      if (A6 16 (S6 19).toNatClampNeg) = 32 then (
        J39 S6
      ) else (
        ix (S6 19) 600 <|
        if (A6 16 (S6 19).toNatClampNeg) = 10 then (
          J39 S6
        ) else (
          J52 S6
        )
      )
    )
def F_X6_blanks (S6 : Nat → Int32) (A6 : Nat → Nat → Int32) : Option ((Nat → Int32)) :=
  nm (fun (S6 : Nat → Int32) =>
      some (S6)
    ) fun J52 =>
  L_X6_blanks_0 A6 J52 FU S6
def L_X6_word_14 (A6 : Nat → Nat → Int32) (J100 : Int64 → (Nat → Int32) → Option (Int64 × (Nat → Int32))) : Nat → Int64 → (Nat → Int32) → Option (Int64 × (Nat → Int32))
  | 0, _, _ => none
  | n + 1, x1, S6 =>
    nm (fun (y0 : Int64) (S6 : Nat → Int32) =>
        nm (upd S6 33 ((S6 33) + 1)) fun S6_2 =>
        L_X6_word_14 A6 J100 n y0 S6_2
      ) fun J86 =>
    if (S6 18) ≤ (S6 33) then (
      J100 x1 S6
    ) else (
      ix (S6 33) 600 <|
      if (A6 16 (S6 33).toNatClampNeg) < 97 then (
        J100 x1 S6
      ) else (
        ix (S6 33) 600 <|
        if 122 < (A6 16 (S6 33).toNatClampNeg) then (
          J100 x1 S6
        ) else (
          if 7 ≤ ((S6 33) - (S6 19)) then (
            J86 0 S6
          ) else (
            ix (S6 33) 600 <|
            J86 ((x1 <<< ((8 : Int32).toInt64 &&& 63)) ||| (((A6 16 (S6 33).toNatClampNeg)).toInt64)) S6
          )
        )
      )
    )
def F_X6_word (S6 : Nat → Int32) (A6 : Nat → Nat → Int32) : Option (Int64 × (Nat → Int32)) :=
  nm (fun (x1 : Int64) (S6 : Nat → Int32) =>
      if ((S6 33) - (S6 19)) ≤ 7 then (
        some (x1, S6)
      ) else (
        some (0, S6)
      )
    ) fun J100 =>
  bd (F_X6_blanks S6 A6) fun z_10 =>
  nm (upd z_10 33 (z_10 19)) fun S6_11 =>
  L_X6_word_14 A6 J100 FU 0 S6_11
def F_X6_takes (S6 : Nat → Int32) (A6 : Nat → Nat → Int32) (p1 : Int64) : Option (Int32 × (Nat → Int32)) :=
  bd (F_X6_word S6 A6) fun z_1 =>
  if (lg_cmp z_1.1 p1) = 0 then (
    nm (upd z_1.2 19 (z_1.2 33)) fun S6_3 =>
    some (1, S6_3)
  ) else (
    some (0, z_1.2)
  )
def L_X6_takesNumber_14 (A6 : Nat → Nat → Int32) (J81 : Int32 → Int32 → (Nat → Int32) → Option (Int32 × (Nat → Int32))) : Nat → Int32 → Int32 → (Nat → Int32) → Option (Int32 × (Nat → Int32))
  | 0, _, _, _ => none
  | n + 1, x1, x2, S6 =>
    nm (fun (x1 : Int32) (x2 : Int32) (S6 : Nat → Int32) =>
        nm (x2 + 1 : Int32) fun v_5 =>
        L_X6_takesNumber_14 A6 J81 n x1 v_5 S6
      ) fun J75 =>
    if (S6 18) ≤ x2 then (
      J81 x1 x2 S6
    ) else (
      ix x2 600 <|
      if (A6 16 (x2).toNatClampNeg) < 48 then (
        J81 x1 x2 S6
      ) else (
        ix x2 600 <|
        if 57 < (A6 16 (x2).toNatClampNeg) then (
          J81 x1 x2 S6
        ) else (
          if 5 ≤ (x2 - (S6 19)) then (
            J75 x1 x2 S6
          ) else (
            ix x2 600 <|
            nm (upd S6 34 (((10 * (S6 34)) + (A6 16 (x2).toNatClampNeg)) - 48)) fun S6_13 =>
            J75 x1 x2 S6_13
          )
        )
      )
    )
def F_X6_takesNumber (S6 : Nat → Int32) (A6 : Nat → Nat → Int32) (p1 : Int32) : Option (Int32 × (Nat → Int32)) :=
  nm (fun (x1 : Int32) (x2 : Int32) (S6 : Nat → Int32) =>
      if x2 = (S6 19) then (
        some (0, S6)
      ) else (
        if 5 < (x2 - (S6 19)) then (
          some (0, S6)
        ) else (
          if (S6 34) ≤ x1 then (
            nm (upd S6 19 x2) fun S6_4 =>
            some (1, S6_4)
          ) else (
            some (0, S6)
          )
        )
      )
    ) fun J81 =>
  bd (F_X6_blanks S6 A6) fun z_14 =>
  nm (z_14 19 : Int32) fun v_15 =>
  nm (upd z_14 34 0) fun S6_16 =>
  L_X6_takesNumber_14 A6 J81 FU p1 v_15 S6_16
def F_X6_test (S6 : Nat → Int32) (A6 : Nat → Nat → Int32) (p1 : Int32) : Option (Int32 × (Nat → Int32) × (Nat → Nat → Int32)) :=
  nm (fun (x1 : Int32) (S6 : Nat → Int32) (A6 : Nat → Nat → Int32) =>
      ix (S6 19) 600 <|
      ix x1 468 <|
      nm (va_up A6 27 (upd (A6 27) (x1).toNatClampNeg (A6 16 (S6 19).toNatClampNeg))) fun A6_3 =>
      nm (upd S6 19 ((S6 19) + 1)) fun S6_4 =>
      bd (F_X6_takesNumber S6_4 A6_3 99999) fun z_5 =>
      if z_5.1 = 0 then (
        some (0, z_5.2, A6_3)
      ) else (
        ix x1 468 <|
        nm (va_up A6_3 28 (upd (A6_3 28) (x1).toNatClampNeg (z_5.2 34))) fun A6_8 =>
        some (1, z_5.2, A6_8)
      )
    ) fun J127 =>
  nm (fun (x1 : Int32) (y0 : Int32) (y1 : Int32) (S6 : Nat → Int32) (A6 : Nat → Nat → Int32) =>
      ix y1 468 <|
      nm (va_up A6 26 (upd (A6 26) (y1).toNatClampNeg y0)) fun A6_10 =>
      ix x1 468 <|
      if (A6_10 26 (x1).toNatClampNeg) = (-1) then (
        some (0, S6, A6_10)
      ) else (
        nm (upd S6 19 (S6 33)) fun S6_13 =>
        bd (F_X6_blanks S6_13 A6_10) fun z_14 =>
        if (z_14 19) = (z_14 18) then (
          some (0, z_14, A6_10)
        ) else (
          ix (z_14 19) 600 <|
          if (A6_10 16 (z_14 19).toNatClampNeg) = 60 then (
            J127 x1 z_14 A6_10
          ) else (
            ix (z_14 19) 600 <|
            if (A6_10 16 (z_14 19).toNatClampNeg) = 62 then (
              J127 x1 z_14 A6_10
            ) else (
              ix (z_14 19) 600 <|
              if (A6_10 16 (z_14 19).toNatClampNeg) = 61 then (
                J127 x1 z_14 A6_10
              ) else (
                some (0, z_14, A6_10)
              )
            )
          )
        )
      )
    ) fun J47 =>
  bd (F_X6_word S6 A6) fun z_22 =>
  if (lg_cmp z_22.1 2003133803) = 0 then (
    J47 p1 0 p1 z_22.2 A6
  ) else (
    if (lg_cmp z_22.1 123580963646565) = 0 then (
      J47 p1 1 p1 z_22.2 A6
    ) else (
      if (lg_cmp z_22.1 427070942835) = 0 then (
        J47 p1 2 p1 z_22.2 A6
      ) else (
        J47 p1 (-1) p1 z_22.2 A6
      )
    )
  )
def L_X6_statement_128 (J186 : (Nat → Int32) → (Nat → Nat → Int32) → Option (Int32 × (Nat → Int32) × (Nat → Nat → Int32))) : Nat → Int32 → Int32 → (Nat → Int32) → (Nat → Nat → Int32) → Option (Int32 × (Nat → Int32) × (Nat → Nat → Int32))
  | 0, _, _, _, _ => none
  | n + 1, x1, x2, S6, A6 =>
    if x2 = 0 then (
      J186 S6 A6
    ) else (
      bd (F_X6_blanks S6 A6) fun z_7 =>
      ix x1 156 <|
      if (A6 25 (x1).toNatClampNeg) = 3 then (
        some (0, z_7, A6)
      ) else (
        ix x1 156 <|
        bd (F_X6_test z_7 A6 ((3 * x1) + (A6 25 (x1).toNatClampNeg))) fun z_11 =>
        if z_11.1 = 0 then (
          some (0, z_11.2.1, z_11.2.2)
        ) else (
          ix x1 156 <|
          ix x1 156 <|
          nm (va_up z_11.2.2 25 (upd (z_11.2.2 25) (x1).toNatClampNeg ((z_11.2.2 25 (x1).toNatClampNeg) + 1))) fun A6_15 =>
          bd (F_X6_takes z_11.2.1 A6_15 6385252) fun z_16 =>
          L_X6_statement_128 J186 n x1 z_16.1 z_16.2 A6_15
        )
      )
    )
def F_X6_statement (S6 : Nat → Int32) (A6 : Nat → Nat → Int32) (p1 : Int32) : Option (Int32 × (Nat → Int32) × (Nat → Nat → Int32)) :=
  nm (fun (S6 : Nat → Int32) (A6 : Nat → Nat → Int32) =>
      bd (F_X6_blanks S6 A6) fun z_1 =>
      if (z_1 19) = (z_1 18) then (
        some (0, z_1, A6)
      ) else (
        ix (z_1 19) 600 <|
        if (A6 16 (z_1 19).toNatClampNeg) = 59 then (
          nm (upd z_1 19 ((z_1 19) + 1)) fun S6_5 =>
          some (1, S6_5, A6)
        ) else (
          some (0, z_1, A6)
        )
      )
    ) fun J186 =>
  nm (fun (x1 : Int32) (y0 : Int32) (S6 : Nat → Int32) (A6 : Nat → Nat → Int32) =>
      L_X6_statement_128 J186 FU x1 y0 S6 A6
    ) fun J127 =>
  nm (fun (x1 : Int32) (S6 : Nat → Int32) (A6 : Nat → Nat → Int32) =>
      J127 x1 0 S6 A6
    ) fun J126 =>
  nm (fun (x1 : Int32) (y0 : Int32) (S6 : Nat → Int32) (A6 : Nat → Nat → Int32) =>
      bd (F_X6_takesNumber S6 A6 y0) fun z_17 =>
      if z_17.1 = 0 then (
        some (0, z_17.2, A6)
      ) else (
        ix x1 156 <|
        nm (va_up A6 24 (upd (A6 24) (x1).toNatClampNeg (z_17.2 34))) fun A6_20 =>
        ix x1 156 <|
        if (A6_20 23 (x1).toNatClampNeg) = 2 then (
          bd (F_X6_takes z_17.2 A6_20 26982) fun z_23 =>
          if z_23.1 = 0 then (
            J126 x1 z_23.2 A6_20
          ) else (
            J127 x1 1 z_23.2 A6_20
          )
        ) else (
          J126 x1 z_17.2 A6_20
        )
      )
    ) fun J84 =>
  nm (fun (x1 : Int32) (y0 : Int32) (y1 : Int32) (S6 : Nat → Int32) (A6 : Nat → Nat → Int32) =>
      ix y1 156 <|
      nm (va_up A6 23 (upd (A6 23) (y1).toNatClampNeg y0)) fun A6_26 =>
      ix x1 156 <|
      if (A6_26 23 (x1).toNatClampNeg) = (-1) then (
        some (0, S6, A6_26)
      ) else (
        ix x1 156 <|
        if (A6_26 23 (x1).toNatClampNeg) = 2 then (
          J84 x1 100 S6 A6_26
        ) else (
          J84 x1 99999 S6 A6_26
        )
      )
    ) fun J55 =>
  ix p1 156 <|
  nm (va_up A6 25 (upd (A6 25) (p1).toNatClampNeg 0)) fun A6_32 =>
  bd (F_X6_takes S6 A6_32 512802253683) fun z_33 =>
  if z_33.1 = 0 then (
    bd (F_X6_takes z_33.2 A6_32 1919250036) fun z_35 =>
    if z_35.1 = 0 then (
      bd (F_X6_takes z_35.2 A6_32 1885434484) fun z_37 =>
      if z_37.1 = 0 then (
        J55 p1 (-1) p1 z_37.2 A6_32
      ) else (
        J55 p1 2 p1 z_37.2 A6_32
      )
    ) else (
      J55 p1 1 p1 z_35.2 A6_32
    )
  ) else (
    J55 p1 0 p1 z_33.2 A6_32
  )
def L_X6_hall_83 (J169 : Int32 → (Nat → Int32) → (Nat → Nat → Int32) → Option (Int32 × (Nat → Int32) × (Nat → Nat → Int32))) : Nat → Int32 → (Nat → Int32) → (Nat → Nat → Int32) → Option (Int32 × (Nat → Int32) × (Nat → Nat → Int32))
  | 0, _, _, _ => none
  | n + 1, x2, S6, A6 =>
    nm (fun (y0 : Int32) (S6 : Nat → Int32) (A6 : Nat → Nat → Int32) =>
        if y0 = 0 then (
          L_X6_hall_83 J169 n y0 S6 A6
        ) else (
          ix (S6 21) 13 <|
          ix (S6 21) 13 <|
          nm (va_up A6 22 (upd (A6 22) (S6 21).toNatClampNeg ((A6 22 (S6 21).toNatClampNeg) + 1))) fun A6_8 =>
          bd (F_X6_blanks S6 A6_8) fun z_9 =>
          L_X6_hall_83 J169 n y0 z_9 A6_8
        )
      ) fun J141 =>
    nm (fun (S6 : Nat → Int32) (A6 : Nat → Nat → Int32) =>
        J141 0 S6 A6
      ) fun J140 =>
    if x2 = 0 then (
      J169 x2 S6 A6
    ) else (
      if (S6 18) ≤ (S6 19) then (
        J169 x2 S6 A6
      ) else (
        ix (S6 21) 13 <|
        if 12 ≤ (A6 22 (S6 21).toNatClampNeg) then (
          J140 S6 A6
        ) else (
          ix (S6 21) 13 <|
          bd (F_X6_statement S6 A6 ((12 * (S6 21)) + (A6 22 (S6 21).toNatClampNeg))) fun z_15 =>
          if z_15.1 = 0 then (
            J140 z_15.2.1 z_15.2.2
          ) else (
            J141 1 z_15.2.1 z_15.2.2
          )
        )
      )
    )
def L_X6_hall_29 (J52 : Int32 → (Nat → Int32) → (Nat → Nat → Int32) → Option (Int32 × (Nat → Int32) × (Nat → Nat → Int32))) : Nat → Int32 → Int32 → (Nat → Int32) → (Nat → Nat → Int32) → Option (Int32 × (Nat → Int32) × (Nat → Nat → Int32))
  | 0, _, _, _, _ => none
  | n + 1, x1, x2, S6, A6 =>
    if x1 ≤ x2 then (
      J52 x1 S6 A6
    ) else (
      ix x2 600 <|
      ix x2 600 <|
      nm (va_up A6 16 (upd (A6 16) (x2).toNatClampNeg (vp_nar .byte (A6 15 (x2).toNatClampNeg)))) fun A6_26 =>
      nm (x2 + 1 : Int32) fun v_27 =>
      L_X6_hall_29 J52 n x1 v_27 S6 A6_26
    )
def F_X6_hall (S6 : Nat → Int32) (A6 : Nat → Nat → Int32) (p1 : Int32) : Option (Int32 × (Nat → Int32) × (Nat → Nat → Int32)) :=
  nm (fun (x2 : Int32) (y0 : Int32) (S6 : Nat → Int32) (A6 : Nat → Nat → Int32) =>
      nm (upd S6 20 y0) fun S6_1 =>
      if x2 = 0 then (
        some ((-1), S6_1, A6)
      ) else (
        nm (upd S6_1 21 ((S6_1 21) + 1)) fun S6_3 =>
        some (((S6_3 21) - 1), S6_3, A6)
      )
    ) fun J182 =>
  nm (fun (x2 : Int32) (S6 : Nat → Int32) (A6 : Nat → Nat → Int32) =>
      if x2 = 0 then (
        J182 x2 (S6 19) S6 A6
      ) else (
        J182 x2 (-1) S6 A6
      )
    ) fun J169 =>
  nm (fun (x1 : Int32) (S6 : Nat → Int32) (A6 : Nat → Nat → Int32) =>
      nm (upd S6 18 x1) fun S6_17 =>
      nm (upd S6_17 17 0) fun S6_18 =>
      nm (upd S6_18 19 0) fun S6_19 =>
      ix (S6_19 21) 13 <|
      nm (va_up A6 22 (upd (A6 22) (S6_19 21).toNatClampNeg 0)) fun A6_21 =>
      bd (F_X6_blanks S6_19 A6_21) fun z_22 =>
      L_X6_hall_83 J169 FU 1 z_22 A6_21
    ) fun J52 =>
  bd (F_X6_isIn p1 0 (S6 17)) fun z_28 =>
  if z_28 = 0 then (
    some ((-2), S6, A6)
  ) else (
    if (S6 21) = 12 then (
      some ((-3), S6, A6)
    ) else (
      L_X6_hall_29 J52 FU p1 0 S6 A6
    )
  )
def F_X6_fault (S6 : Nat → Int32) : Option (Int32) :=
  some (S6 20)
def L_X6_lastOf_9 (A6 : Nat → Nat → Int32) (J51 : Int32 → Option (Int32)) : Nat → Int32 → Int32 → Int32 → Int32 → Option (Int32)
  | 0, _, _, _, _ => none
  | n + 1, x1, x2, x4, x5 =>
    nm (fun (x1 : Int32) (x2 : Int32) (x4 : Int32) (x5 : Int32) =>
        nm (x5 + 1 : Int32) fun v_1 =>
        L_X6_lastOf_9 A6 J51 n x1 x2 x4 v_1
      ) fun J45 =>
    ix x1 13 <|
    if ((12 * x1) + (A6 22 (x1).toNatClampNeg)) ≤ x5 then (
      J51 x4
    ) else (
      ix x5 156 <|
      if (A6 23 (x5).toNatClampNeg) = x2 then (
        ix x5 156 <|
        nm ((A6 24 (x5).toNatClampNeg) : Int32) fun v_7 =>
        J45 x1 x2 v_7 x5
      ) else (
        J45 x1 x2 x4 x5
      )
    )
def F_X6_lastOf (A6 : Nat → Nat → Int32) (p1 : Int32) (p2 : Int32) (p3 : Int32) : Option (Int32) :=
  nm (fun (x4 : Int32) =>
      some (x4)
    ) fun J51 =>
  nm ((12 * p1) : Int32) fun v_8 =>
  L_X6_lastOf_9 A6 J51 FU p1 p2 p3 v_8
def L_X6_partOf_46 (A6 : Nat → Nat → Int32) (J180 : Int32 → Int32 → Int32 → Int32 → Int32 → Int32 → Option (Int32)) : Nat → Int32 → Int32 → Int32 → Int32 → Int32 → Int32 → Int32 → Option (Int32)
  | 0, _, _, _, _, _, _, _ => none
  | n + 1, x1, x2, x3, x4, x5, x6, x7 =>
    nm (fun (x1 : Int32) (x2 : Int32) (x3 : Int32) (x4 : Int32) (x5 : Int32) (x7 : Int32) (y0 : Int32) =>
        nm (x7 + 1 : Int32) fun v_4 =>
        L_X6_partOf_46 A6 J180 n x1 x2 x3 x4 x5 y0 v_4
      ) fun J172 =>
    nm (fun (x1 : Int32) (x2 : Int32) (x3 : Int32) (x4 : Int32) (x5 : Int32) (x7 : Int32) =>
        J172 x1 x2 x3 x4 x5 x7 0
      ) fun J171 =>
    nm (fun (x1 : Int32) (x2 : Int32) (x3 : Int32) (x4 : Int32) (x5 : Int32) (x7 : Int32) =>
        J172 x1 x2 x3 x4 x5 x7 1
      ) fun J167 =>
    nm (fun (x1 : Int32) (x2 : Int32) (x3 : Int32) (x4 : Int32) (x5 : Int32) (x6 : Int32) (x7 : Int32) (y0 : Int32) =>
        if x6 = 0 then (
          J171 x1 x2 x3 x4 x5 x7
        ) else (
          ix x7 468 <|
          if (A6 27 (x7).toNatClampNeg) = 60 then (
            ix x7 468 <|
            if (A6 28 (x7).toNatClampNeg) ≤ y0 then (
              J171 x1 x2 x3 x4 x5 x7
            ) else (
              J167 x1 x2 x3 x4 x5 x7
            )
          ) else (
            ix x7 468 <|
            if (A6 27 (x7).toNatClampNeg) = 62 then (
              ix x7 468 <|
              if y0 ≤ (A6 28 (x7).toNatClampNeg) then (
                J171 x1 x2 x3 x4 x5 x7
              ) else (
                J167 x1 x2 x3 x4 x5 x7
              )
            ) else (
              ix x7 468 <|
              if y0 = (A6 28 (x7).toNatClampNeg) then (
                J167 x1 x2 x3 x4 x5 x7
              ) else (
                J171 x1 x2 x3 x4 x5 x7
              )
            )
          )
        )
      ) fun J94 =>
    ix x5 156 <|
    if ((3 * x5) + (A6 25 (x5).toNatClampNeg)) ≤ x7 then (
      J180 x1 x2 x3 x4 x5 x6
    ) else (
      ix x7 468 <|
      if (A6 26 (x7).toNatClampNeg) = 0 then (
        J94 x1 x2 x3 x4 x5 x6 x7 x2
      ) else (
        ix x7 468 <|
        if (A6 26 (x7).toNatClampNeg) = 1 then (
          J94 x1 x2 x3 x4 x5 x6 x7 x3
        ) else (
          J94 x1 x2 x3 x4 x5 x6 x7 x4
        )
      )
    )
def L_X6_partOf_6 (A6 : Nat → Nat → Int32) (J199 : Option (Int32)) : Nat → Int32 → Int32 → Int32 → Int32 → Int32 → Option (Int32)
  | 0, _, _, _, _, _ => none
  | n + 1, x1, x2, x3, x4, x5 =>
    nm (fun (x1 : Int32) (x2 : Int32) (x3 : Int32) (x4 : Int32) (x5 : Int32) (x6 : Int32) =>
        if x6 = 0 then (
          nm (x5 + 1 : Int32) fun v_2 =>
          L_X6_partOf_6 A6 J199 n x1 x2 x3 x4 v_2
        ) else (
          ix x5 156 <|
          some ((A6 24 (x5).toNatClampNeg))
        )
      ) fun J180 =>
    nm (fun (x1 : Int32) (x2 : Int32) (x3 : Int32) (x4 : Int32) (x5 : Int32) (y0 : Int32) =>
        nm ((3 * x5) : Int32) fun v_22 =>
        L_X6_partOf_46 A6 J180 FU x1 x2 x3 x4 x5 y0 v_22
      ) fun J38 =>
    ix x1 13 <|
    if ((12 * x1) + (A6 22 (x1).toNatClampNeg)) ≤ x5 then (
      J199
    ) else (
      ix x5 156 <|
      if (A6 23 (x5).toNatClampNeg) = 2 then (
        J38 x1 x2 x3 x4 x5 1
      ) else (
        J38 x1 x2 x3 x4 x5 0
      )
    )
def F_X6_partOf (A6 : Nat → Nat → Int32) (p1 : Int32) (p2 : Int32) (p3 : Int32) (p4 : Int32) : Option (Int32) :=
  nm (
      some (50)
    ) fun J199 =>
  nm ((12 * p1) : Int32) fun v_27 =>
  L_X6_partOf_6 A6 J199 FU p1 p2 p3 p4 v_27
def F_X6_week (S6 : Nat → Int32) (A6 : Nat → Nat → Int32) (G6 : Nat → Nat → Int64) (p1 : Int32) (p2 : Int32) (p3 : Int32) : Option (Int32 × (Nat → Nat → Int32) × (Nat → Nat → Int64)) :=
  bd (F_X6_isIn p1 0 ((S6 21) - 1)) fun z_1 =>
  if z_1 = 0 then (
    some ((-1), A6, G6)
  ) else (
    ix p1 12 <|
    bd (F_X6_lastOf A6 p1 0 1) fun z_4 =>
    if z_4 ≤ (A6 29 (p1).toNatClampNeg) then (
      some ((-1), A6, G6)
    ) else (
      bd (F_X6_isIn p2 0 99999) fun z_6 =>
      if z_6 = 0 then (
        some ((-1), A6, G6)
      ) else (
        bd (F_X6_isIn p3 0 99999) fun z_8 =>
        if z_8 = 0 then (
          some ((-1), A6, G6)
        ) else (
          ix p1 12 <|
          ix p1 12 <|
          nm (va_up A6 29 (upd (A6 29) (p1).toNatClampNeg ((A6 29 (p1).toNatClampNeg) + 1))) fun A6_12 =>
          bd (F_X6_lastOf A6_12 p1 1 0) fun z_13 =>
          nm ((if z_13 < p3 then z_13 else p3) : Int32) fun v_14 =>
          nm ((p3 - v_14) : Int32) fun v_15 =>
          ix p1 12 <|
          bd (F_X6_partOf A6_12 p1 (A6_12 29 (p1).toNatClampNeg) p2 p3) fun z_17 =>
          nm (((v_15 * z_17) / 100) : Int32) fun v_18 =>
          ix p1 12 <|
          ix p1 12 <|
          nm (va_up A6_12 30 (upd (A6_12 30) (p1).toNatClampNeg ((A6_12 30 (p1).toNatClampNeg) + p2))) fun A6_21 =>
          ix p1 12 <|
          ix p1 12 <|
          nm (va_up G6 31 (vp_updL (G6 31) (p1).toNatClampNeg ((G6 31 (p1).toNatClampNeg) + ((v_18).toInt64)))) fun G6_24 =>
          ix p1 12 <|
          ix p1 12 <|
          nm (va_up G6_24 32 (vp_updL (G6_24 32) (p1).toNatClampNeg ((G6_24 32 (p1).toNatClampNeg) + (((p3 - v_18)).toInt64)))) fun G6_27 =>
          some (v_18, A6_21, G6_27)
        )
      )
    )
  )
def F_X6_hallOf (S6 : Nat → Int32) (A6 : Nat → Nat → Int32) (G6 : Nat → Nat → Int64) (p1 : Int32) (p2 : Int32) : Option (Int32) :=
  bd (F_X6_isIn p1 0 ((S6 21) - 1)) fun z_1 =>
  if z_1 = 0 then (
    some ((-1))
  ) else (
    if p2 = 0 then (
      bd (F_X6_lastOf A6 p1 0 1) fun z_4 =>
      some (z_4)
    ) else (
    if p2 = 1 then (
      ix p1 12 <|
      some ((A6 29 (p1).toNatClampNeg))
    ) else (
    if p2 = 2 then (
      ix p1 12 <|
      some (((G6 31 (p1).toNatClampNeg)).toInt32)
    ) else (
    if p2 = 3 then (
      ix p1 12 <|
      some (((G6 32 (p1).toNatClampNeg)).toInt32)
    ) else (
    if p2 = 4 then (
      ix p1 12 <|
      some ((A6 30 (p1).toNatClampNeg))
    ) else (
    if p2 = 5 then (
      bd (F_X6_lastOf A6 p1 1 0) fun z_14 =>
      some (z_14)
    ) else (
      some ((-1))
    ))))))
  )
def F_X6_room (S6 : Nat → Int32) (p1 : Int32) : Option (Int32 × (Nat → Int32)) :=
  bd (F_X6_isIn p1 1 200) fun z_1 =>
  if z_1 = 0 then (
    some (0, S6)
  ) else (
    nm (upd S6 35 p1) fun S6_3 =>
    some (1, S6_3)
  )
def F_X6_minute (S6 : Nat → Int32) (A6 : Nat → Nat → Int32) (p1 : Int32) : Option (Int32 × (Nat → Int32) × (Nat → Nat → Int32)) :=
  bd (F_X6_isIn p1 0 500) fun z_1 =>
  if z_1 = 0 then (
    some ((-1), S6, A6)
  ) else (
    if ((S6 36) + p1) ≤ 2000 then (
      nm (((S6 39) - (S6 39) / 12 * 12) : Int32) fun v_4 =>
      ix v_4 12 <|
      nm (upd S6 37 ((S6 37) - (A6 41 (v_4).toNatClampNeg))) fun S6_6 =>
      ix v_4 12 <|
      nm (upd S6_6 38 ((S6_6 38) + (A6 41 (v_4).toNatClampNeg))) fun S6_8 =>
      nm (upd S6_8 36 ((S6_8 36) + p1)) fun S6_9 =>
      nm ((if ((S6_9 35) - (S6_9 37)) < (S6_9 36) then ((S6_9 35) - (S6_9 37)) else (S6_9 36)) : Int32) fun v_10 =>
      nm ((if v_10 < 8 then v_10 else 8) : Int32) fun v_11 =>
      nm ((if (0 : Int32) < v_11 then v_11 else 0) : Int32) fun v_12 =>
      ix v_4 12 <|
      nm (va_up A6 41 (upd (A6 41) (v_4).toNatClampNeg v_12)) fun A6_14 =>
      ix v_4 12 <|
      nm (upd S6_9 36 ((S6_9 36) - (A6_14 41 (v_4).toNatClampNeg))) fun S6_16 =>
      ix v_4 12 <|
      nm (upd S6_16 37 ((S6_16 37) + (A6_14 41 (v_4).toNatClampNeg))) fun S6_18 =>
      nm ((if (S6_18 40) < (S6_18 37) then (S6_18 37) else (S6_18 40)) : Int32) fun v_19 =>
      nm (upd S6_18 40 v_19) fun S6_20 =>
      nm (upd S6_20 39 ((S6_20 39) + 1)) fun S6_21 =>
      ix v_4 12 <|
      some ((A6_14 41 (v_4).toNatClampNeg), S6_21, A6_14)
    ) else (
      some ((-1), S6, A6)
    )
  )
def F_X6_crowd (S6 : Nat → Int32) (p1 : Int32) : Option (Int32) :=
  if p1 = 0 then (
    some (S6 37)
  ) else (
  if p1 = 1 then (
    some (S6 36)
  ) else (
  if p1 = 2 then (
    some (S6 38)
  ) else (
  if p1 = 3 then (
    some (S6 39)
  ) else (
  if p1 = 4 then (
    some (S6 40)
  ) else (
  if p1 = 5 then (
    some (S6 35)
  ) else (
    some ((-1))
  ))))))
def L_X6_count_96 (S6 : Nat → Int32) (J126 : Int32 → (Nat → Nat → Int32) → Option (Int32 × (Nat → Nat → Int32))) : Nat → Int32 → Int32 → (Nat → Nat → Int32) → Option (Int32 × (Nat → Nat → Int32))
  | 0, _, _, _ => none
  | n + 1, x2, x3, A6 =>
    nm (fun (x3 : Int32) (y0 : Int32) (y1 : Int32) (A6 : Nat → Nat → Int32) =>
        nm ((y1 + y0) : Int32) fun v_1 =>
        nm (x3 + 1 : Int32) fun v_2 =>
        L_X6_count_96 S6 J126 n v_1 v_2 A6
      ) fun J118 =>
    if 72 ≤ x3 then (
      J126 x2 A6
    ) else (
      ix x3 72 <|
      if (A6 7 (x3).toNatClampNeg) = 2 then (
        J118 x3 1 x2 A6
      ) else (
        J118 x3 0 x2 A6
      )
    )
def L_X6_count_62 (S6 : Nat → Int32) (J92 : Int32 → (Nat → Nat → Int32) → Option (Int32 × (Nat → Nat → Int32))) : Nat → Int32 → Int32 → (Nat → Nat → Int32) → Option (Int32 × (Nat → Nat → Int32))
  | 0, _, _, _ => none
  | n + 1, x2, x3, A6 =>
    nm (fun (x3 : Int32) (y0 : Int32) (y1 : Int32) (A6 : Nat → Nat → Int32) =>
        nm ((y1 + y0) : Int32) fun v_6 =>
        nm (x3 + 1 : Int32) fun v_7 =>
        L_X6_count_62 S6 J92 n v_6 v_7 A6
      ) fun J84 =>
    if 7200 ≤ x3 then (
      J92 x2 A6
    ) else (
      bd (F_X6_viewAt A6 x3) fun z_9 =>
      if z_9.1 = (-1) then (
        J84 x3 0 x2 z_9.2
      ) else (
        J84 x3 1 x2 z_9.2
      )
    )
def F_X6_count (S6 : Nat → Int32) (A6 : Nat → Nat → Int32) (p1 : Int32) : Option (Int32 × (Nat → Nat → Int32)) :=
  nm (fun (x2 : Int32) (A6 : Nat → Nat → Int32) =>
      some (x2, A6)
    ) fun J126 =>
  nm (fun (x2 : Int32) (A6 : Nat → Nat → Int32) =>
      some (x2, A6)
    ) fun J92 =>
  if p1 = 0 then (
    some (S6 3, A6)
  ) else (
  if p1 = 1 then (
    some (S6 4, A6)
  ) else (
  if p1 = 2 then (
    some (S6 21, A6)
  ) else (
  if p1 = 3 then (
    some (S6 17, A6)
  ) else (
  if p1 = 4 then (
    L_X6_count_62 S6 J92 FU 0 0 A6
  ) else (
  if p1 = 5 then (
    L_X6_count_96 S6 J126 FU 0 0 A6
  ) else (
    some ((-1), A6)
  ))))))
def F_X5_mark (A4 : Nat → Nat → Int32) (p1 : Int32) (p2 : Int32) (p3 : Int32) (p4 : Int32) : Option (Int32 × (Nat → Nat → Int32)) :=
  bd (F_X4_setMark A4 p1 p2 p3 p4) fun z_1 =>
  zb z_1.1 <|
  some (z_1.1, z_1.2)
def F_X5_line (A4 : Nat → Nat → Int32) (p1 : Int32) (p2 : Int32) (p3 : Int32) (p4 : Int32) (p5 : Int32) (p6 : Int32) : Option (Int32 × (Nat → Nat → Int32)) :=
  bd (F_X4_drawLine A4 p1 p2 p3 p4 p5 p6) fun z_1 =>
  some (z_1.1, z_1.2)
def F_X5_stands (p1 : Int32) (p2 : Int32) (p3 : Int32) (p4 : Int32) : Option (Int32) :=
  bd (F_X4_isMark p1 p2 p3) fun z_1 =>
  if z_1 = 0 then (
    some ((-1))
  ) else (
    if p4 = 0 then (
      bd (F_X4_columnOf p1 p2) fun z_4 =>
      some (z_4)
    ) else (
    if p4 = 1 then (
      bd (F_X4_rowOf p2 p3) fun z_6 =>
      some (z_6)
    ) else (
      some ((-1))
    ))
  )
def F_X5_colour (A4 : Nat → Nat → Int32) (p1 : Int32) (p2 : Int32) : Option (Int32) :=
  bd (F_X4_isPlace p1 p2) fun z_1 =>
  if z_1 = 0 then (
    some ((-1))
  ) else (
    bd (F_X4_colourAt A4 p1 p2) fun z_3 =>
    some (z_3)
  )
def F_X5_from (A4 : Nat → Nat → Int32) (p1 : Int32) (p2 : Int32) : Option (Int32) :=
  bd (F_X4_isPlace p1 p2) fun z_1 =>
  if z_1 = 0 then (
    some ((-1))
  ) else (
    bd (F_X4_viewAt A4 p1 p2) fun z_3 =>
    some (z_3)
  )
def F_X5_seam (A4 : Nat → Nat → Int32) (p1 : Int32) : Option (Int32) :=
  bd (F_X4_quarrelsBehind A4 p1) fun z_1 =>
  some (z_1)
def F_X5_gang (S2 : Nat → Int32) (A2 : Nat → Nat → Int32) (p1 : Int32) : Option (Int32 × (Nat → Int32) × (Nat → Nat → Int32)) :=
  bd (F_X2_hire S2 A2 p1) fun z_1 =>
  some (z_1.1, z_1.2.1, z_1.2.2)
def F_X5_put (S2 : Nat → Int32) (A2 : Nat → Nat → Int32) (A4 : Nat → Nat → Int32) (p1 : Int32) (p2 : Int32) : Option (Int32 × (Nat → Nat → Int32)) :=
  bd (F_X2_beginCoat S2 A2 A4 p1 p2) fun z_1 =>
  some (z_1.1, z_1.2)
def F_X5_day (S2 : Nat → Int32) (A2 : Nat → Nat → Int32) : Option (Int32 × (Nat → Int32) × (Nat → Nat → Int32)) :=
  bd (F_X2_passDay S2 A2) fun z_1 =>
  some (z_1.1, z_1.2.1, z_1.2.2)
def F_X5_square (A2 : Nat → Nat → Int32) (A4 : Nat → Nat → Int32) (p1 : Int32) (p2 : Int32) : Option (Int32) :=
  bd (F_X2_tellSquare A2 A4 p1 p2) fun z_1 =>
  some (z_1)
def F_X5_least (S2 : Nat → Int32) (A2 : Nat → Nat → Int32) (A4 : Nat → Nat → Int32) (p1 : Int32) (p2 : Int32) (p3 : Int32) : Option (Int32 × (Nat → Nat → Int32)) :=
  bd (F_X2_leastDays S2 A2 A4 p1 p2 p3) fun z_1 =>
  some (z_1.1, z_1.2)
def F_X5_feed (S0 : Nat → Int32) (A0 : Nat → Nat → Int32) (p1 : Int32) (p2 : Int32) (p3 : Int32) (p4 : Int32) (p5 : Int32) : Option (Int32 × (Nat → Int32) × (Nat → Nat → Int32)) :=
  bd (F_X0_takeBytes S0 A0 p1 p2 p3 p4 p5) fun z_1 =>
  some (z_1.1, z_1.2.1, z_1.2.2)
def F_X5_fault (S5 : Nat → Int32) : Option (Int32) :=
  some (S5 7)
def F_X5_room (S3 : Nat → Int32) (p1 : Int32) : Option (Int32 × (Nat → Int32)) :=
  bd (F_X3_setRoom S3 p1) fun z_1 =>
  zb z_1.1 <|
  some (z_1.1, z_1.2)
def F_X5_minute (S3 : Nat → Int32) (A3 : Nat → Nat → Int32) (p1 : Int32) : Option (Int32 × (Nat → Int32) × (Nat → Nat → Int32)) :=
  bd (F_X3_passMinute S3 A3 p1) fun z_1 =>
  some (z_1.1, z_1.2.1, z_1.2.2)
def F_X5_crowd (S3 : Nat → Int32) (p1 : Int32) : Option (Int32) :=
  bd (F_X3_tell S3 p1) fun z_1 =>
  some (z_1)
def F_X5_count (S5 : Nat → Int32) (S2 : Nat → Int32) (A2 : Nat → Nat → Int32) (A4 : Nat → Nat → Int32) (S0 : Nat → Int32) (p1 : Int32) : Option (Int32) :=
  if p1 = 0 then (
    bd (F_X2_today S2) fun z_2 =>
    some (z_2)
  ) else (
  if p1 = 1 then (
    bd (F_X2_gangs S2) fun z_4 =>
    some (z_4)
  ) else (
  if p1 = 2 then (
    some (S5 6)
  ) else (
  if p1 = 3 then (
    bd (F_X0_bytes S0) fun z_7 =>
    some (z_7)
  ) else (
  if p1 = 4 then (
    bd (F_X4_colouredPlaces A4) fun z_9 =>
    some (z_9)
  ) else (
  if p1 = 5 then (
    bd (F_X2_finishedSquares A2) fun z_11 =>
    some (z_11)
  ) else (
    some ((-1))
  ))))))
end
section
def L_X2_init_103 (J143 : (Nat → Nat → Int32) → Option ((Nat → Nat → Int32))) : Nat → Int32 → (Nat → Nat → Int32) → Option ((Nat → Nat → Int32))
  | 0, _, _ => none
  | n + 1, x2, A2 =>
    if 72 ≤ x2 then (
      J143 A2
    ) else (
      ix x2 72 <|
      nm (va_up A2 4 (upd (A2 4) (x2).toNatClampNeg (-1))) fun A2_3 =>
      ix x2 72 <|
      nm (va_up A2_3 6 (upd (A2_3 6) (x2).toNatClampNeg (-1))) fun A2_5 =>
      ix x2 72 <|
      nm (va_up A2_5 7 (upd (A2_5 7) (x2).toNatClampNeg (-1))) fun A2_7 =>
      ix x2 72 <|
      nm (va_up A2_7 8 (upd (A2_7 8) (x2).toNatClampNeg (-1))) fun A2_9 =>
      nm (x2 + 1 : Int32) fun v_10 =>
      L_X2_init_103 J143 n v_10 A2_9
    )
def L_X2_init_82 (J101 : (Nat → Nat → Int32) → Option ((Nat → Nat → Int32))) : Nat → Int32 → (Nat → Nat → Int32) → Option ((Nat → Nat → Int32))
  | 0, _, _ => none
  | n + 1, x2, A2 =>
    if 6 ≤ x2 then (
      J101 A2
    ) else (
      ix x2 6 <|
      nm (va_up A2 2 (upd (A2 2) (x2).toNatClampNeg (-1))) fun A2_13 =>
      nm (x2 + 1 : Int32) fun v_14 =>
      L_X2_init_82 J101 n v_14 A2_13
    )
def F_X2_init (A2 : Nat → Nat → Int32) : Option (Nat → Nat → Int32) :=
  nm (fun (A2 : Nat → Nat → Int32) =>
      some (A2)
    ) fun J143 =>
  nm (fun (A2 : Nat → Nat → Int32) =>
      L_X2_init_103 J143 FU 0 A2
    ) fun J101 =>
  L_X2_init_82 J101 FU 0 A2
def L_X6_init_262 (J302 : (Nat → Nat → Int32) → Option ((Nat → Nat → Int32))) : Nat → Int32 → (Nat → Nat → Int32) → Option ((Nat → Nat → Int32))
  | 0, _, _ => none
  | n + 1, x1, A6 =>
    if 72 ≤ x1 then (
      J302 A6
    ) else (
      ix x1 72 <|
      nm (va_up A6 8 (upd (A6 8) (x1).toNatClampNeg (-1))) fun A6_3 =>
      ix x1 72 <|
      nm (va_up A6_3 10 (upd (A6_3 10) (x1).toNatClampNeg (-1))) fun A6_5 =>
      ix x1 72 <|
      nm (va_up A6_5 11 (upd (A6_5 11) (x1).toNatClampNeg (-1))) fun A6_7 =>
      ix x1 72 <|
      nm (va_up A6_7 12 (upd (A6_7 12) (x1).toNatClampNeg (-1))) fun A6_9 =>
      nm (x1 + 1 : Int32) fun v_10 =>
      L_X6_init_262 J302 n v_10 A6_9
    )
def L_X6_init_241 (J260 : (Nat → Nat → Int32) → Option ((Nat → Nat → Int32))) : Nat → Int32 → (Nat → Nat → Int32) → Option ((Nat → Nat → Int32))
  | 0, _, _ => none
  | n + 1, x1, A6 =>
    if 6 ≤ x1 then (
      J260 A6
    ) else (
      ix x1 6 <|
      nm (va_up A6 6 (upd (A6 6) (x1).toNatClampNeg (-1))) fun A6_13 =>
      nm (x1 + 1 : Int32) fun v_14 =>
      L_X6_init_241 J260 n v_14 A6_13
    )
def F_X6_init (A6 : Nat → Nat → Int32) : Option (Nat → Nat → Int32) :=
  nm (fun (A6 : Nat → Nat → Int32) =>
      some (A6)
    ) fun J302 =>
  nm (fun (A6 : Nat → Nat → Int32) =>
      L_X6_init_262 J302 FU 0 A6
    ) fun J260 =>
  L_X6_init_241 J260 FU 0 A6
end
section
/-! functions of the house's methods on halls -/
def hNo (f : Nat → Option Nat) (p1 : Int32) : Option Nat := if p1 < 0 then none else if 12 ≤ p1 then none else f p1.toNatClampNeg
def F_X5_week (S1 : Nat → Int32) (A1 : Nat → Nat → Int32) (p2 p3 : Int32) : Option (Int32 × (Nat → Int32)) :=
  bd (F_X5_isTold p2) fun z1 =>
  if z1 = 0 then some (-1, S1) else
  bd (F_X5_isTold p3) fun z2 =>
  if z2 = 0 then some (-1, S1) else
  F_X1_passWeek S1 A1 p2 p3
def hlS : Nat → Int32 := upd (fun _ => 0) 6 1
def hlA : Nat → Nat → Int32 := fun _ _ => 0
/-- answer; is a hall made; the house's, the reader's, the draft's cells -/
def F_X5_hall (S5 S0 : Nat → Int32) (A0 : Nat → Nat → Int32) (S1 : Nat → Int32) (A1 : Nat → Nat → Int32) (p1 : Int32) : Option (Int32 × Bool × (Nat → Int32) × (Nat → Int32) × (Nat → Int32) × (Nat → Nat → Int32)) :=
  if p1 < 0 then some (-2, false, S5, S0, S1, A1) else
  if p1 ≤ S0 1 then
    (if S5 6 < 0 then some (-3, false, S5, S0, S1, A1) else
    if S5 6 < 12 then
      bd (F_X0_readContract S0 A0 S1 A1 p1) fun z =>
      if z.1 = -1 then
        ix (S5 6) 12 <| some (S5 6, true, upd (upd S5 7 z.1) 6 (S5 6 + 1), z.2.1, z.2.2.1, z.2.2.2)
      else some (-1, false, upd S5 7 z.1, z.2.1, z.2.2.1, z.2.2.2)
    else some (-3, false, S5, S0, S1, A1))
  else some (-2, false, S5, S0, S1, A1)
end
section
/-! numbers -/
theorem i_lt {a b : Int32} : a < b ↔ a.toInt < b.toInt := Int32.lt_iff_toInt_lt
theorem i_le {a b : Int32} : a ≤ b ↔ a.toInt ≤ b.toInt := Int32.le_iff_toInt_le
theorem i_eq {a b : Int32} : a = b ↔ a.toInt = b.toInt := Int32.toInt_inj.symm
theorem i_rng (a : Int32) : -2147483648 ≤ a.toInt ∧ a.toInt < 2147483648 := ⟨Int32.le_toInt a, Int32.toInt_lt a⟩
theorem i_add {a b : Int32} (h1 : -2147483648 ≤ a.toInt + b.toInt) (h2 : a.toInt + b.toInt < 2147483648) : (a + b).toInt = a.toInt + b.toInt := by
  rw [Int32.toInt_add]
  exact Int.bmod_eq_of_le (by omega) (by omega)
theorem i_sub {a b : Int32} (h1 : -2147483648 ≤ a.toInt - b.toInt) (h2 : a.toInt - b.toInt < 2147483648) : (a - b).toInt = a.toInt - b.toInt := by
  rw [Int32.toInt_sub]
  exact Int.bmod_eq_of_le (by omega) (by omega)
theorem i_mul {a b : Int32} (h1 : -2147483648 ≤ a.toInt * b.toInt) (h2 : a.toInt * b.toInt < 2147483648) : (a * b).toInt = a.toInt * b.toInt := by
  rw [Int32.toInt_mul]
  exact Int.bmod_eq_of_le (by omega) (by omega)
theorem i_div {a b : Int32} (h1 : -2147483648 ≤ a.toInt.tdiv b.toInt) (h2 : a.toInt.tdiv b.toInt < 2147483648) : (a / b).toInt = a.toInt.tdiv b.toInt := by
  rw [Int32.toInt_div]
  exact Int.bmod_eq_of_le (by omega) (by omega)
theorem upd_at (f : Nat → Int32) (k : Nat) (x : Int32) (j : Nat) : upd f k x j = if j = k then x else f j := rfl
theorem upA_at {α : Type} (f : Nat → α) (k : Nat) (x : α) (j : Nat) : va_up f k x j = if j = k then x else f j := rfl
theorem updL_at (f : Nat → Int64) (k : Nat) (x : Int64) (j : Nat) : vp_updL f k x j = if j = k then x else f j := rfl
theorem i_of {x : Int32} (h : 0 ≤ x.toInt) : ∃ j : Nat, j < 2 ^ 31 ∧ x = nI j ∧ x.toInt = j := by
  obtain ⟨j, hj, e⟩ := nI_of (x := x) (fun h2 => by have := i_lt.mp h2; simp at this; omega)
  exact ⟨j, hj, e, by rw [e]; exact nI_toInt hj⟩
theorem ix_nI {β : Type} {j n : Nat} {x : Option β} (h : j < n) (hn : n < 2 ^ 31) : ix (nI j) n x = x := by
  unfold ix
  exact if_neg (vp_in_nI h hn)
theorem nm_eq {α β : Type} (e : α) (f : α → β) : nm e f = f e := rfl
theorem bd_some {α β : Type} (a : α) (f : α → Option β) : bd (some a) f = f a := rfl
theorem zb_0 {β : Type} (x : Option β) : zb 0 x = x := rfl
theorem zb_1 {β : Type} (x : Option β) : zb 1 x = x := rfl
theorem isIn_eq (p a b : Int32) : F_X6_isIn p a b = some (if p < a ∨ b < p then 0 else 1) := by
  unfold F_X6_isIn
  by_cases h1 : p < a
  · rw [if_pos h1, if_pos (Or.inl h1)]
  · rw [if_neg h1]
    by_cases h2 : b < p
    · rw [if_pos h2, if_pos (Or.inr h2)]
    · rw [if_neg h2, if_neg (fun h => h.elim h1 h2)]
theorem fmod_eq (j d : Nat) (hj : j < 2 ^ 31) (hd : d < 2 ^ 31) (h0 : 0 < d) : F_J9_floorMod_7cf53 (nI j) (nI d) = some (nI (j % d)) := by
  unfold F_J9_floorMod_7cf53
  have hx : (0 : Int32) ≤ (nI j ^^^ nI d) := by
    rw [show nI j ^^^ nI d = nI (j ^^^ d) from by apply Int32.toBitVec_inj.mp; simp [nI, Int32.toBitVec_xor, BitVec.ofNat_xor]]
    exact nI_pos' (Nat.xor_lt_two_pow hj hd)
  unfold nz
  rw [if_neg (nI_ne0 h0 hd), nm_eq, if_pos hx, pk_rem hj h0 hd]
end
section
def bt (x : Int32) (i : Nat) : Bool := x.toBitVec.getLsbD i
theorem b_ext {x y : Int32} (h : ∀ i, i < 32 → bt x i = bt y i) : x = y := Int32.toBitVec_inj.mp (BitVec.eq_of_getLsbD_eq (fun i hi => h i hi))
theorem b_or (x y : Int32) (i : Nat) : bt (x ||| y) i = (bt x i || bt y i) := by unfold bt; rw [Int32.toBitVec_or, BitVec.getLsbD_or]
theorem b_and (x y : Int32) (i : Nat) : bt (x &&& y) i = (bt x i && bt y i) := by unfold bt; rw [Int32.toBitVec_and, BitVec.getLsbD_and]
theorem b_xor (x y : Int32) (i : Nat) : bt (x ^^^ y) i = (bt x i ^^ bt y i) := by unfold bt; rw [Int32.toBitVec_xor, BitVec.getLsbD_xor]
theorem b_big {x : Int32} {i : Nat} (h : 32 ≤ i) : bt x i = false := BitVec.getLsbD_of_ge _ _ h
theorem b_255 (i : Nat) : bt 255 i = decide (i < 8) := by
  rcases Nat.lt_or_ge i 32 with h | h
  · exact (by decide +kernel : ∀ i, i < 32 → bt 255 i = decide (i < 8)) i h
  · rw [b_big h, decide_eq_false (by omega)]
theorem b_65535 (i : Nat) : bt 65535 i = decide (i < 16) := by
  rcases Nat.lt_or_ge i 32 with h | h
  · exact (by decide +kernel : ∀ i, i < 32 → bt 65535 i = decide (i < 16)) i h
  · rw [b_big h, decide_eq_false (by omega)]
theorem b_m1 : ∀ i, i < 32 → bt (-1) i = true := by decide +kernel
theorem b_0 (i : Nat) : bt 0 i = false := BitVec.getLsbD_zero
theorem s_l : ∀ n, n < 32 → ((nI n &&& 31).toBitVec.smod 32).toNat = n := by decide +kernel
theorem s_u : ∀ n, n < 32 → (((nI n).toUInt32 &&& Int32.toUInt32 31).toBitVec % 32).toNat = n := by decide +kernel
theorem b_shl (n : Nat) (hn : n < 32) (x : Int32) {i : Nat} (hi : i < 32) : bt (x <<< (nI n &&& 31)) i = (decide (n ≤ i) && bt x (i - n)) := by
  unfold bt
  rw [Int32.toBitVec_shiftLeft]
  show (x.toBitVec <<< ((nI n &&& 31).toBitVec.smod 32).toNat).getLsbD i = _
  rw [s_l n hn, BitVec.getLsbD_shiftLeft]
  rcases Nat.lt_or_ge i n with h | h
  · simp [h, Nat.not_le.mpr h]
  · simp [hi, h, Nat.not_lt.mpr h]
theorem b_ushr (n : Nat) (hn : n < 32) (x : Int32) (i : Nat) : bt ((x.toUInt32 >>> ((nI n).toUInt32 &&& Int32.toUInt32 31)).toInt32) i = bt x (n + i) := by
  show (x.toUInt32 >>> ((nI n).toUInt32 &&& Int32.toUInt32 31)).toBitVec.getLsbD i = x.toUInt32.toBitVec.getLsbD (n + i)
  rw [UInt32.toBitVec_shiftRight]
  show (x.toUInt32.toBitVec >>> (((nI n).toUInt32 &&& Int32.toUInt32 31).toBitVec % 32).toNat).getLsbD i = _
  rw [s_u n hn, BitVec.getLsbD_ushiftRight]
theorem b_sshr (n : Nat) (hn : n < 32) (x : Int32) {i : Nat} (hi : i < 32) : bt (x >>> (nI n &&& 31)) i = if n + i < 32 then bt x (n + i) else bt x 31 := by
  unfold bt
  rw [Int32.toBitVec_shiftRight]
  show (x.toBitVec.sshiftRight ((nI n &&& 31).toBitVec.smod 32).toNat).getLsbD i = _
  rw [s_l n hn, BitVec.getLsbD_sshiftRight, BitVec.msb_eq_getLsbD_last]
  simp [hi]
theorem b_shl8 (x : Int32) {i : Nat} (hi : i < 32) : bt (x <<< ((8 : Int32) &&& 31)) i = (decide (8 ≤ i) && bt x (i - 8)) := b_shl 8 (by omega) x hi
theorem b_shl16 (x : Int32) {i : Nat} (hi : i < 32) : bt (x <<< ((16 : Int32) &&& 31)) i = (decide (16 ≤ i) && bt x (i - 16)) := b_shl 16 (by omega) x hi
theorem b_shl24 (x : Int32) {i : Nat} (hi : i < 32) : bt (x <<< ((24 : Int32) &&& 31)) i = (decide (24 ≤ i) && bt x (i - 24)) := b_shl 24 (by omega) x hi
theorem b_sshr8 (x : Int32) {i : Nat} (hi : i < 32) : bt (x >>> ((8 : Int32) &&& 31)) i = if 8 + i < 32 then bt x (8 + i) else bt x 31 := b_sshr 8 (by omega) x hi
theorem bp_b (x : Int32) : x.toInt8.toInt32 &&& 255 = x &&& 255 := by
  apply Int32.toBitVec_inj.mp
  rw [Int32.toBitVec_and, Int32.toBitVec_and, Int8.toBitVec_toInt32, Int32.toBitVec_toInt8]
  apply BitVec.eq_of_getLsbD_eq
  intro i hi
  rw [BitVec.getLsbD_and, BitVec.getLsbD_and]
  have hm : ∀ i < 32, 8 ≤ i → (255 : Int32).toBitVec.getLsbD i = false := by decide
  rcases Nat.lt_or_ge i 8 with z | z
  · rw [BitVec.getLsbD_signExtend, BitVec.getLsbD_signExtend, if_pos z, if_pos hi]
    simp only [z, hi, decide_true, Bool.true_and]
  · rw [hm i hi z]; simp
/-! ===== the char cast and 65535 ===== -/
end
section
/-! the platform -/
def RPl (n : Nat) (S3 : Nat → Int32) (A3 : Nat → Nat → Int32) (S6 : Nat → Int32) (A6 : Nat → Nat → Int32) : Prop :=
  S3 1 = S6 35 ∧ S3 2 = S6 37 ∧ S3 3 = S6 36 ∧ S3 4 = S6 38 ∧ S3 5 = S6 39 ∧ S3 6 = S6 40 ∧ A3 0 = A6 41 ∧ 0 ≤ (S3 5).toInt ∧ (S3 5).toInt ≤ n ∧ 0 ≤ (S3 3).toInt ∧ (S3 3).toInt ≤ 2000
theorem RPl.mono {n : Nat} {S3 : Nat → Int32} {A3 : Nat → Nat → Int32} {S6 : Nat → Int32} {A6 : Nat → Nat → Int32} (h : RPl n S3 A3 S6 A6) : RPl (n + 1) S3 A3 S6 A6 := by
  obtain ⟨h1, h2, h3, h4, h5, h6, h7, h8, h9, h10⟩ := h
  exact ⟨h1, h2, h3, h4, h5, h6, h7, h8, by omega, h10⟩
theorem RPl.congr {n : Nat} {S3 : Nat → Int32} {A3 : Nat → Nat → Int32} {S6 T6 : Nat → Int32} {A6 B6 : Nat → Nat → Int32} (h : RPl n S3 A3 S6 A6) (hS : ∀ j, 35 ≤ j → j ≤ 40 → T6 j = S6 j) (hA : B6 41 = A6 41) : RPl n S3 A3 T6 B6 := by
  obtain ⟨h1, h2, h3, h4, h5, h6, h7, h8⟩ := h
  exact ⟨by rw [hS 35 (by omega) (by omega)]; exact h1, by rw [hS 37 (by omega) (by omega)]; exact h2, by rw [hS 36 (by omega) (by omega)]; exact h3, by rw [hS 38 (by omega) (by omega)]; exact h4, by rw [hS 39 (by omega) (by omega)]; exact h5, by rw [hS 40 (by omega) (by omega)]; exact h6, by rw [hA]; exact h7, h8⟩
def plU (d w : Int32) : Int32 := if 8 < (if w < (if d < 0 then 0 else d) then w else (if d < 0 then 0 else d)) then 8 else (if w < (if d < 0 then 0 else d) then w else (if d < 0 then 0 else d))
def plM (d w : Int32) : Int32 := if (0 : Int32) < (if (if d < w then d else w) < 8 then (if d < w then d else w) else 8) then (if (if d < w then d else w) < 8 then (if d < w then d else w) else 8) else 0
theorem pl_up (d w : Int32) (hw : 0 ≤ w.toInt) : plU d w = plM d w := by
  unfold plU plM
  have e0 : (0 : Int32).toInt = 0 := rfl
  have e8 : (8 : Int32).toInt = 8 := rfl
  by_cases h1 : d < 0
  · have h2 : d < w := by rw [i_lt] at h1 ⊢; omega
    have h3 : ¬ w < 0 := by rw [i_lt]; omega
    have h4 : d < 8 := by rw [i_lt] at h1 ⊢; omega
    have h5 : ¬ (8 : Int32) < 0 := by decide
    have h6 : ¬ 0 < d := by rw [i_lt] at h1 ⊢; omega
    simp only [if_pos h1, if_neg h3, if_neg h5, if_pos h2, if_pos h4, if_neg h6]
  · simp only [if_neg h1]
    by_cases h2 : w < d
    · have h3 : ¬ d < w := by rw [i_lt] at h2 ⊢; omega
      simp only [if_pos h2, if_neg h3]
      by_cases h4 : 8 < w
      · have h5 : ¬ w < 8 := by rw [i_lt] at h4 ⊢; omega
        simp only [if_pos h4, if_neg h5]
        rfl
      · simp only [if_neg h4]
        by_cases h5 : w < 8
        · simp only [if_pos h5]
          by_cases h6 : 0 < w
          · simp only [if_pos h6]
          · simp only [if_neg h6]
            rw [i_lt] at h6
            exact i_eq.mpr (by omega)
        · simp only [if_neg h5]
          have h7 : w = 8 := i_eq.mpr (by rw [i_lt] at h4 h5; omega)
          rw [h7]; rfl
    · simp only [if_neg h2]
      have h3 : (if d < w then d else w) = d := by
        by_cases h3 : d < w
        · rw [if_pos h3]
        · rw [if_neg h3]; exact i_eq.mpr (by rw [i_lt] at h2 h3; omega)
      rw [h3]
      by_cases h4 : 8 < d
      · have h5 : ¬ d < 8 := by rw [i_lt] at h4 ⊢; omega
        simp only [if_pos h4, if_neg h5]
        rfl
      · simp only [if_neg h4]
        by_cases h5 : d < 8
        · simp only [if_pos h5]
          by_cases h6 : 0 < d
          · simp only [if_pos h6]
          · simp only [if_neg h6]
            rw [i_lt] at h6 h1
            exact i_eq.mpr (by omega)
        · simp only [if_neg h5]
          have h7 : d = 8 := i_eq.mpr (by rw [i_lt] at h4 h5; omega)
          rw [h7]; rfl
/-- at most the waiting go up, and none less than nobody -/
theorem pl_up_in (d w : Int32) (hw : 0 ≤ w.toInt) : 0 ≤ (plU d w).toInt ∧ (plU d w).toInt ≤ w.toInt := by
  unfold plU
  have e0 : (0 : Int32).toInt = 0 := rfl
  have e8 : (8 : Int32).toInt = 8 := rfl
  obtain ⟨v, hv, h0, h1⟩ : ∃ v : Int32, v = (if w < (if d < 0 then 0 else d) then w else (if d < 0 then 0 else d)) ∧ 0 ≤ v.toInt ∧ v.toInt ≤ w.toInt := by
    refine ⟨_, rfl, ?_⟩
    obtain ⟨u, hu, h0⟩ : ∃ u : Int32, u = (if d < 0 then 0 else d) ∧ 0 ≤ u.toInt := by
      refine ⟨_, rfl, ?_⟩
      by_cases h : d < 0
      · rw [if_pos h]; decide
      · rw [if_neg h]; rw [i_lt] at h; omega
    rw [← hu]
    by_cases h : w < u
    · rw [if_pos h]; exact ⟨hw, by omega⟩
    · rw [if_neg h]; rw [i_lt] at h; exact ⟨h0, by omega⟩
  rw [← hv]
  by_cases h : 8 < v
  · rw [if_pos h]; rw [i_lt] at h; omega
  · rw [if_neg h]; exact ⟨h0, h1⟩
theorem X3_min {S3 : Nat → Int32} {A3 : Nat → Nat → Int32} {p1 : Int32} {j : Nat} (hj : j < 2 ^ 31) (ej : S3 5 = nI j) (h1 : ¬ p1 < 0) (h2 : ¬ 500 < p1) (h3 : S3 3 + p1 ≤ 2000) {d v : Int32} (hd : d = S3 1 - (S3 2 - A3 0 (j % 12))) (hv : v = plU d (S3 3 + p1)) :
    ∃ S' A', F_X3_passMinute S3 A3 p1 = some (v, S', A') ∧ S' 1 = S3 1 ∧ S' 2 = S3 2 - A3 0 (j % 12) + v ∧ S' 3 = S3 3 + p1 - v ∧ S' 4 = S3 4 + A3 0 (j % 12) ∧ S' 5 = S3 5 + 1 ∧ S' 6 = (if S3 6 < S3 2 - A3 0 (j % 12) + v then S3 2 - A3 0 (j % 12) + v else S3 6) ∧ A' 0 = upd (A3 0) (j % 12) v := by
  subst hv hd
  unfold F_X3_passMinute
  rw [if_neg h1, if_neg h2, if_pos h3, ej, show (12 : Int32) = nI 12 from rfl, fmod_eq j 12 hj (by decide) (by decide), bd_some]
  have hm : j % 12 < 12 := Nat.mod_lt _ (by decide)
  have hc : (nI (j % 12)).toNatClampNeg = j % 12 := nI_clamp (by omega)
  simp only [ix_nI hm (by decide), hc]
  rw [← ej]
  exact ⟨_, _, rfl, rfl, rfl, rfl, rfl, rfl, rfl, rfl⟩
theorem M_min {S6 : Nat → Int32} {A6 : Nat → Nat → Int32} {p1 : Int32} {j : Nat} (hj : j < 2 ^ 31) (ej : S6 39 = nI j) (h1 : ¬ p1 < 0) (h2 : ¬ 500 < p1) (h3 : S6 36 + p1 ≤ 2000) {d v : Int32} (hd : d = S6 35 - (S6 37 - A6 41 (j % 12))) (hv : v = plM d (S6 36 + p1)) :
    ∃ S' A', F_X6_minute S6 A6 p1 = some (v, S', A') ∧ S' 35 = S6 35 ∧ S' 37 = S6 37 - A6 41 (j % 12) + v ∧ S' 36 = S6 36 + p1 - v ∧ S' 38 = S6 38 + A6 41 (j % 12) ∧ S' 39 = S6 39 + 1 ∧ S' 40 = (if S6 40 < S6 37 - A6 41 (j % 12) + v then S6 37 - A6 41 (j % 12) + v else S6 40) ∧ A' 41 = upd (A6 41) (j % 12) v ∧ (∀ q, (q < 36 ∨ 40 < q) → S' q = S6 q) ∧ ∀ q, q ≠ 41 → A' q = A6 q := by
  unfold F_X6_minute
  have hnot : ¬ (p1 < 0 ∨ 500 < p1) := fun h => h.elim h1 h2
  rw [isIn_eq, bd_some, if_neg hnot, if_neg (show ¬ (1 : Int32) = 0 by decide), if_pos h3, ej, show (12 : Int32) = nI 12 from rfl, pk_rem hj (by decide) (by decide), nm_eq]
  have hm : j % 12 < 12 := Nat.mod_lt _ (by decide)
  have hc : (nI (j % 12)).toNatClampNeg = j % 12 := nI_clamp (by omega)
  simp only [ix_nI hm (by decide), hc]
  rw [← ej]
  have eu : ∀ x : Int32, va_up A6 41 (upd (A6 41) (j % 12) x) 41 (j % 12) = x := fun x => by simp [upA_at, upd_at]
  simp only [nm_eq, eu]
  subst hd
  subst hv
  refine ⟨_, _, rfl, rfl, rfl, rfl, rfl, rfl, rfl, ?_, ?_, ?_⟩
  · rfl
  · intro q hq
    have e1 : q ≠ 36 := by omega
    have e2 : q ≠ 37 := by omega
    have e3 : q ≠ 38 := by omega
    have e4 : q ≠ 39 := by omega
    have e5 : q ≠ 40 := by omega
    simp only [upd_at, if_neg e1, if_neg e2, if_neg e3, if_neg e4, if_neg e5]
  · intro q hq
    simp only [upA_at, if_neg hq]
theorem pl_minute {n : Nat} {S3 : Nat → Int32} {A3 : Nat → Nat → Int32} {S6 : Nat → Int32} {A6 : Nat → Nat → Int32} (hR : RPl n S3 A3 S6 A6) (hn : n ≤ 1000) (p1 : Int32) :
    ∃ (r : Int32) (S3' : Nat → Int32) (A3' : Nat → Nat → Int32) (S6' : Nat → Int32) (A6' : Nat → Nat → Int32), F_X3_passMinute S3 A3 p1 = some (r, S3', A3') ∧ F_X6_minute S6 A6 p1 = some (r, S6', A6') ∧ RPl (n + 1) S3' A3' S6' A6' ∧ (∀ j, (j < 36 ∨ 40 < j) → S6' j = S6 j) ∧ ∀ j, j ≠ 41 → A6' j = A6 j := by
  have e0 : (0 : Int32).toInt = 0 := rfl
  have e5 : (500 : Int32).toInt = 500 := rfl
  have e2 : (2000 : Int32).toInt = 2000 := rfl
  have e1 : (1 : Int32).toInt = 1 := rfl
  have refuse : (p1 < 0 ∨ 500 < p1) ∨ ¬ S3 3 + p1 ≤ 2000 → F_X3_passMinute S3 A3 p1 = some (-1, S3, A3) ∧ F_X6_minute S6 A6 p1 = some (-1, S6, A6) := by
    intro h
    unfold F_X3_passMinute F_X6_minute
    rw [isIn_eq, bd_some]
    by_cases h1 : p1 < 0
    · rw [if_pos h1, if_pos (Or.inl h1), if_pos rfl]; exact ⟨rfl, rfl⟩
    by_cases h2 : 500 < p1
    · rw [if_neg h1, if_pos h2, if_pos (Or.inr h2), if_pos rfl]; exact ⟨rfl, rfl⟩
    have hnot : ¬ (p1 < 0 ∨ 500 < p1) := fun h => h.elim h1 h2
    have h3 : ¬ S3 3 + p1 ≤ 2000 := h.elim (fun h => absurd h hnot) id
    rw [if_neg h1, if_neg h2, if_neg h3, if_neg hnot, if_neg (show ¬ (1 : Int32) = 0 by decide), ← hR.2.2.1, if_neg h3]
    exact ⟨rfl, rfl⟩
  by_cases hr : (p1 < 0 ∨ 500 < p1) ∨ ¬ S3 3 + p1 ≤ 2000
  · obtain ⟨f1, f2⟩ := refuse hr
    exact ⟨_, _, _, _, _, f1, f2, hR.mono, fun _ _ => rfl, fun _ _ => rfl⟩
  have h1 : ¬ p1 < 0 := fun h => hr (Or.inl (Or.inl h))
  have h2 : ¬ 500 < p1 := fun h => hr (Or.inl (Or.inr h))
  have h3 : S3 3 + p1 ≤ 2000 := Classical.not_not.mp (fun h => hr (Or.inr h))
  obtain ⟨g1, g2, g3, g4, g5, g6, g7, g8, g9, g10, g11⟩ := hR
  obtain ⟨j, hj, ej, tj⟩ := i_of g8
  have b1 : ¬ p1.toInt < (0 : Int32).toInt := fun h => h1 (i_lt.mpr h)
  have b2 : ¬ (500 : Int32).toInt < p1.toInt := fun h => h2 (i_lt.mpr h)
  have b3 := i_le.mp h3
  have t3 : (S3 3 + p1).toInt = (S3 3).toInt + p1.toInt := i_add (by omega) (by omega)
  have hw : 0 ≤ (S3 3 + p1).toInt := by omega
  obtain ⟨v, hv⟩ : ∃ v, v = plU (S3 1 - (S3 2 - A3 0 (j % 12))) (S3 3 + p1) := ⟨_, rfl⟩
  obtain ⟨u1, u2⟩ := pl_up_in (S3 1 - (S3 2 - A3 0 (j % 12))) (S3 3 + p1) hw
  rw [← hv] at u1 u2
  obtain ⟨S3', A3', x0, x1, x2, x3, x4, x5, x6, x7⟩ := X3_min (p1 := p1) hj ej h1 h2 h3 rfl hv
  obtain ⟨S6', A6', y0, y1, y2, y3, y4, y5, y6, y7, y8, y9⟩ := M_min (S6 := S6) (A6 := A6) (p1 := p1) (v := v) hj (by rw [← g5]; exact ej) h1 h2 (by rw [← g3]; exact h3) rfl (by rw [hv, pl_up _ _ hw, g1, g2, g3, g7])
  refine ⟨v, S3', A3', S6', A6', x0, y0, ⟨?_, ?_, ?_, ?_, ?_, ?_, ?_, ?_, ?_, ?_, ?_⟩, y8, y9⟩
  · rw [x1, y1, g1]
  · rw [x2, y2, g2, g7]
  · rw [x3, y3, g3]
  · rw [x4, y4, g4, g7]
  · rw [x5, y5, g5]
  · rw [x6, y6, g6, g2, g7]
  · rw [x7, y7, g7]
  · rw [x5, i_add (by omega) (by omega)]; omega
  · rw [x5, i_add (by omega) (by omega)]; omega
  · rw [x3, i_sub (by omega) (by omega)]; omega
  · rw [x3, i_sub (by omega) (by omega)]; omega
end
section
/-! the tape: feed -/
def RTp (S0 : Nat → Int32) (A0 : Nat → Nat → Int32) (S6 : Nat → Int32) (A6 : Nat → Nat → Int32) : Prop :=
  ∃ t : Nat, t ≤ 600 ∧ S0 1 = nI t ∧ S6 17 = nI t ∧ ∀ j, j < t → A0 0 j = A6 15 j &&& 255
/-- one byte, as the class and as the model lay it -/
def byX (x : Int32) (s : Nat) : Int32 := (((x).toUInt32 >>> ((nI s : Int32).toUInt32 &&& Int32.toUInt32 31)).toInt32 &&& 255)
def byM (x : Int32) (s : Nat) : Int32 := vp_nar .byte ((x >>> (nI s &&& 31))).toInt8.toInt32
theorem by_eq (x : Int32) (s : Nat) (hs : s ≤ 24) : byX x s = byM x s &&& 255 := by
  unfold byX byM
  rw [pk_vb, bp_b]
  apply b_ext
  intro i hi
  rw [b_and, b_and, b_255, b_ushr s (by omega), b_sshr s (by omega) x hi]
  by_cases h : i < 8
  · rw [if_pos (by omega)]
  · simp [h]
theorem tf_step {J : (Nat → Int32) → (Nat → Nat → Int32) → Option ((Nat → Int32) × (Nat → Nat → Int32))} {S0 : Nat → Int32} {A0 : Nat → Nat → Int32} (n t s : Nat) (x1 : Int32) (h : S0 1 = nI t) (ht : t < 600) (hs : s ≤ 24) :
    L_X0_takeFour_3 J (n + 1) x1 (nI s) S0 A0 = L_X0_takeFour_3 J n x1 (nI s + (-8)) (upd S0 1 (nI (t + 1))) (va_up A0 0 (upd (A0 0) t (byX x1 s))) := by
  have hc : (nI t).toNatClampNeg = t := nI_clamp (by omega)
  have h1 : ¬ nI s < 0 := nI_pos (by omega)
  have h2 : ¬ nI t < 0 := nI_pos (by omega)
  have h3 : ¬ (600 : Int32) ≤ nI t := by rw [show (600 : Int32) = nI 600 from rfl, nI_leI (by decide) (by omega)]; omega
  rw [L_X0_takeFour_3.eq_2, nm_eq, if_neg h1, h, if_neg h2, if_neg h3, ix_nI ht (by decide), hc]
  rw [nI_succ]
  simp only [nm_eq, h]
  rfl
theorem fm_step {J : (Nat → Int32) → (Nat → Nat → Int32) → Option ((Nat → Int32) × (Nat → Nat → Int32))} {S6 : Nat → Int32} {A6 : Nat → Nat → Int32} (n t s : Nat) (x1 : Int32) (h : S6 17 = nI t) (ht : t < 600) (hs : s ≤ 24) :
    L_X6_four_3 J (n + 1) x1 (nI s) S6 A6 = L_X6_four_3 J n x1 (nI s + (-8)) (upd S6 17 (nI (t + 1))) (va_up A6 15 (upd (A6 15) t (byM x1 s))) := by
  have hc : (nI t).toNatClampNeg = t := nI_clamp (by omega)
  have h1 : ¬ nI s < 0 := nI_pos (by omega)
  rw [L_X6_four_3.eq_2, if_neg h1, h, ix_nI ht (by decide), hc]
  rw [nI_succ]
  simp only [nm_eq]
  rfl
/-- the two tapes, t bytes on each, everything else as at the begin -/
def TpS (t : Nat) (S0 T0 : Nat → Int32) (A0 : Nat → Nat → Int32) (S6 T6 : Nat → Int32) (A6 B6 : Nat → Nat → Int32) : Prop :=
  S0 1 = nI t ∧ S6 17 = nI t ∧ (∀ j, j < t → A0 0 j = A6 15 j &&& 255) ∧ (∀ q, q ≠ 1 → S0 q = T0 q) ∧ (∀ q, q ≠ 17 → S6 q = T6 q) ∧ ∀ q, q ≠ 15 → A6 q = B6 q
theorem TpS.step {t s : Nat} {S0 T0 : Nat → Int32} {A0 : Nat → Nat → Int32} {S6 T6 : Nat → Int32} {A6 B6 : Nat → Nat → Int32} (h : TpS t S0 T0 A0 S6 T6 A6 B6) (hs : s ≤ 24) (x : Int32) :
    TpS (t + 1) (upd S0 1 (nI (t + 1))) T0 (va_up A0 0 (upd (A0 0) t (byX x s))) (upd S6 17 (nI (t + 1))) T6 (va_up A6 15 (upd (A6 15) t (byM x s))) B6 := by
  obtain ⟨h1, h2, h3, h4, h5, h6⟩ := h
  refine ⟨rfl, rfl, ?_, ?_, ?_, ?_⟩
  · intro j hj
    show upd (A0 0) t (byX x s) j = upd (A6 15) t (byM x s) j &&& 255
    rw [upd_at, upd_at]
    by_cases e : j = t
    · rw [if_pos e, if_pos e]; exact by_eq x s hs
    · rw [if_neg e, if_neg e]; exact h3 j (by omega)
  · intro q hq; rw [upd_at, if_neg hq]; exact h4 q hq
  · intro q hq; rw [upd_at, if_neg hq]; exact h5 q hq
  · intro q hq; rw [upA_at, if_neg hq]; exact h6 q hq
theorem four_both {t : Nat} {S0 T0 : Nat → Int32} {A0 : Nat → Nat → Int32} {S6 T6 : Nat → Int32} {A6 B6 : Nat → Nat → Int32} (h : TpS t S0 T0 A0 S6 T6 A6 B6) (ht : t + 4 ≤ 600) (x : Int32) :
    ∃ S0' A0' S6' A6', F_X0_takeFour S0 A0 x = some (S0', A0') ∧ F_X6_four S6 A6 x = some (S6', A6') ∧ TpS (t + 4) S0' T0 A0' S6' T6 A6' B6 := by
  have e1 := h.step (s := 24) (by omega) x
  have e2 := e1.step (s := 16) (by omega) x
  have e3 := e2.step (s := 8) (by omega) x
  have e4 := e3.step (s := 0) (by omega) x
  refine ⟨_, _, _, _, ?_, ?_, e4⟩
  · unfold F_X0_takeFour
    rw [nm_eq, show FU = 99995 + 1 + 1 + 1 + 1 + 1 from rfl, show (24 : Int32) = nI 24 from rfl, tf_step _ t 24 x h.1 (by omega) (by omega), show nI 24 + (-8) = nI 16 from rfl, tf_step _ (t + 1) 16 x e1.1 (by omega) (by omega), show nI 16 + (-8) = nI 8 from rfl, tf_step _ (t + 2) 8 x e2.1 (by omega) (by omega), show nI 8 + (-8) = nI 0 from rfl, tf_step _ (t + 3) 0 x e3.1 (by omega) (by omega), L_X0_takeFour_3.eq_2, nm_eq, if_pos (show nI 0 + (-8) < 0 by decide)]
  · unfold F_X6_four
    rw [nm_eq, show FU = 99995 + 1 + 1 + 1 + 1 + 1 from rfl, show (24 : Int32) = nI 24 from rfl, fm_step _ t 24 x h.2.1 (by omega) (by omega), show nI 24 + (-8) = nI 16 from rfl, fm_step _ (t + 1) 16 x e1.2.1 (by omega) (by omega), show nI 16 + (-8) = nI 8 from rfl, fm_step _ (t + 2) 8 x e2.2.1 (by omega) (by omega), show nI 8 + (-8) = nI 0 from rfl, fm_step _ (t + 3) 0 x e3.2.1 (by omega) (by omega), L_X6_four_3.eq_2, if_pos (show nI 0 + (-8) < 0 by decide)]
theorem tp_feed {S0 : Nat → Int32} {A0 : Nat → Nat → Int32} {S6 : Nat → Int32} {A6 : Nat → Nat → Int32} (h : RTp S0 A0 S6 A6) (p1 p2 p3 p4 p5 : Int32) :
    ∃ r S0' A0' S6' A6', F_X5_feed S0 A0 p1 p2 p3 p4 p5 = some (r, S0', A0') ∧ F_X6_feed S6 A6 p1 p2 p3 p4 p5 = some (r, S6', A6') ∧ RTp S0' A0' S6' A6' ∧ (∀ q, q ≠ 1 → S0' q = S0 q) ∧ (∀ q, q ≠ 17 → S6' q = S6 q) ∧ ∀ q, q ≠ 15 → A6' q = A6 q := by
  obtain ⟨t, ht, h0, h6, hr⟩ := h
  unfold F_X5_feed F_X0_takeBytes F_X6_feed
  by_cases hc : t ≤ 580
  · have c1 : S0 1 ≤ 580 := by rw [h0, show (580 : Int32) = nI 580 from rfl, nI_leI (by omega) (by decide)]; exact hc
    have c2 : S6 17 + 20 ≤ 600 := by rw [h6, show (20 : Int32) = nI 20 from rfl, show (600 : Int32) = nI 600 from rfl, nI_add, nI_leI (by omega) (by decide)]; omega
    rw [if_pos c1, if_pos c2]
    have b0 : TpS t S0 S0 A0 S6 S6 A6 A6 := ⟨h0, h6, hr, fun _ _ => rfl, fun _ _ => rfl, fun _ _ => rfl⟩
    obtain ⟨s1, a1, m1, n1, f1, g1, b1⟩ := four_both b0 (by omega) p1
    obtain ⟨s2, a2, m2, n2, f2, g2, b2⟩ := four_both b1 (by omega) p2
    obtain ⟨s3, a3, m3, n3, f3, g3, b3⟩ := four_both b2 (by omega) p3
    obtain ⟨s4, a4, m4, n4, f4, g4, b4⟩ := four_both b3 (by omega) p4
    obtain ⟨s5, a5, m5, n5, f5, g5, b5⟩ := four_both b4 (by omega) p5
    rw [f1, bd_some, f2, bd_some, f3, bd_some, f4, bd_some, f5, bd_some, bd_some, g1, bd_some, g2, bd_some, g3, bd_some, g4, bd_some, g5, bd_some]
    refine ⟨s5 1, s5, a5, m5, n5, rfl, ?_, ⟨t + 4 + 4 + 4 + 4 + 4, by omega, b5.1, b5.2.1, b5.2.2.1⟩, b5.2.2.2.1, b5.2.2.2.2.1, b5.2.2.2.2.2⟩
    show some (m5 17, m5, n5) = some (s5 1, m5, n5)
    rw [b5.1, b5.2.1]
  · have c1 : ¬ S0 1 ≤ 580 := by rw [h0, show (580 : Int32) = nI 580 from rfl, nI_leI (by omega) (by decide)]; omega
    have c2 : ¬ S6 17 + 20 ≤ 600 := by rw [h6, show (20 : Int32) = nI 20 from rfl, show (600 : Int32) = nI 600 from rfl, nI_add, nI_leI (by omega) (by decide)]; omega
    rw [if_neg c1, if_neg c2, bd_some]
    exact ⟨_, _, _, _, _, rfl, rfl, ⟨t, ht, h0, h6, hr⟩, fun _ _ => rfl, fun _ _ => rfl, fun _ _ => rfl⟩
end
section
/-! the paintwork: gang, day -/
/-- the numbers of gangs and days, and what the rows hold -/
def PaI (g d : Nat) (A2 : Nat → Nat → Int32) : Prop :=
  g ≤ 6 ∧ d ≤ 1000 ∧ (∀ i, i < g → 1 ≤ (A2 1 i).toInt ∧ (A2 1 i).toInt ≤ 20) ∧ (∀ i, i < 6 → A2 2 i = -1 ∨ ∃ q, q < 72 ∧ A2 2 i = nI q ∧ i < g ∧ A2 4 q = nI i ∧ (A2 3 q).toInt ≤ 1) ∧
  (∀ q, q < 72 → 0 ≤ (A2 3 q).toInt ∧ (A2 3 q).toInt ≤ 2) ∧ (∀ q, q < 72 → -1 ≤ (A2 6 q).toInt ∧ (A2 6 q).toInt ≤ d)
def RPa (S2 : Nat → Int32) (A2 : Nat → Nat → Int32) (S6 : Nat → Int32) (A6 : Nat → Nat → Int32) : Prop :=
  (∀ k, 1 ≤ k → k ≤ 8 → A2 k = A6 (k + 4)) ∧ ∃ g d : Nat, S2 10 = nI g ∧ S6 4 = nI g ∧ S2 11 = nI d ∧ S6 3 = nI d ∧ PaI g d A2
theorem RPa.congr {S2 : Nat → Int32} {A2 : Nat → Nat → Int32} {S6 T6 : Nat → Int32} {A6 B6 : Nat → Nat → Int32} (h : RPa S2 A2 S6 A6) (h3 : T6 3 = S6 3) (h4 : T6 4 = S6 4) (hA : ∀ j, 5 ≤ j → j ≤ 12 → B6 j = A6 j) : RPa S2 A2 T6 B6 := by
  obtain ⟨h1, g, d, e1, e2, e3, e4, hI⟩ := h
  exact ⟨fun k a b => by rw [hA (k + 4) (by omega) (by omega)]; exact h1 k a b, g, d, e1, by rw [h4]; exact e2, e3, by rw [h3]; exact e4, hI⟩
theorem pa_gang {S2 : Nat → Int32} {A2 : Nat → Nat → Int32} {S6 : Nat → Int32} {A6 : Nat → Nat → Int32} (h : RPa S2 A2 S6 A6) (p1 : Int32) :
    ∃ r S2' A2' S6' A6', F_X5_gang S2 A2 p1 = some (r, S2', A2') ∧ F_X6_gang S6 A6 p1 = some (r, S6', A6') ∧ RPa S2' A2' S6' A6' ∧ (∀ q, q ≠ 10 → S2' q = S2 q) ∧ (∀ q, q ≠ 4 → S6' q = S6 q) ∧ ∀ q, q ≠ 5 → A6' q = A6 q := by
  obtain ⟨h1, g, d, e1, e2, e3, e4, hI⟩ := id h
  have l0 : (1 : Int32).toInt = 1 := rfl
  have l20 : (20 : Int32).toInt = 20 := rfl
  unfold F_X5_gang F_X2_hire F_X6_gang
  rw [isIn_eq, bd_some]
  by_cases c1 : p1 < 1
  · rw [if_pos c1, if_pos (Or.inl c1), if_pos rfl, bd_some]
    exact ⟨_, _, _, _, _, rfl, rfl, h, fun _ _ => rfl, fun _ _ => rfl, fun _ _ => rfl⟩
  by_cases c2 : 20 < p1
  · rw [if_neg c1, if_pos c2, if_pos (Or.inr c2), if_pos rfl, bd_some]
    exact ⟨_, _, _, _, _, rfl, rfl, h, fun _ _ => rfl, fun _ _ => rfl, fun _ _ => rfl⟩
  have hnot : ¬ (p1 < 1 ∨ 20 < p1) := fun h => h.elim c1 c2
  have hg6 : g ≤ 6 := hI.1
  rw [if_neg c1, if_neg c2, if_neg hnot, if_neg (show ¬ (1 : Int32) = 0 by decide), e1, e2, if_neg (nI_pos (by omega))]
  by_cases c3 : g < 6
  · have c4 : nI g < 6 := by rw [show (6 : Int32) = nI 6 from rfl, nI_ltI (by omega) (by decide)]; exact c3
    have c5 : ¬ nI g = 6 := by rw [show (6 : Int32) = nI 6 from rfl, nI_eq (by omega) (by decide)]; omega
    have hc : (nI g).toNatClampNeg = g := nI_clamp (by omega)
    rw [if_pos c4, if_neg c5, ix_nI c3 (by decide), ix_nI c3 (by decide), hc]
    simp only [nm_eq, bd_some]
    refine ⟨nI g, _, _, upd S6 4 (nI g + 1), va_up A6 5 (upd (A6 5) g p1), rfl, ?_, ?_, ?_, ?_, ?_⟩
    · show some (nI g + 1 - 1, _, _) = some (nI g, _, _)
      rw [nI_1, show (1 : Int32) = nI 1 from rfl, pk_sub (by omega)]
      rfl
    · refine ⟨fun k a b => ?_, g + 1, d, ?_, ?_, e3, e4, by omega, hI.2.1, ?_, ?_, hI.2.2.2.2⟩
      · rw [upA_at, upA_at]
        by_cases ek : k = 1
        · rw [if_pos ek, if_pos (by omega), h1 1 (by omega) (by omega)]
        · rw [if_neg ek, if_neg (by omega)]; exact h1 k a b
      · rw [upd_at, if_pos rfl, nI_1]
      · rw [upd_at, if_pos rfl, nI_1]
      · intro i hi
        show 1 ≤ (upd (A2 1) g p1 i).toInt ∧ (upd (A2 1) g p1 i).toInt ≤ 20
        rw [upd_at]
        by_cases ei : i = g
        · rw [if_pos ei]; rw [i_lt] at c1 c2; omega
        · rw [if_neg ei]; exact hI.2.2.1 i (by omega)
      · intro i hi
        rcases hI.2.2.2.1 i hi with b | ⟨q, b1, b2, b3, b4⟩
        · exact Or.inl b
        · exact Or.inr ⟨q, b1, b2, by omega, b4⟩
    · intro q hq; rw [upd_at, if_neg hq]
    · intro q hq; rw [upd_at, if_neg hq]
    · intro q hq; rw [upA_at, if_neg hq]
  · have c4 : ¬ nI g < 6 := by rw [show (6 : Int32) = nI 6 from rfl, nI_ltI (by omega) (by decide)]; exact c3
    have c5 : nI g = 6 := by rw [show (6 : Int32) = nI 6 from rfl, nI_eq (by omega) (by decide)]; omega
    rw [if_neg c4, if_pos c5, bd_some]
    exact ⟨_, _, _, _, _, rfl, rfl, h, fun _ _ => rfl, fun _ _ => rfl, fun _ _ => rfl⟩
end
section
/-! a day's work of one gang, in the class (o = 0) and in the model (o = 4) -/
def dV (o : Nat) (A : Nat → Nat → Int32) (i q : Nat) : Int32 := if A (5 + o) q - A (1 + o) i < 0 then 0 else A (5 + o) q - A (1 + o) i
def dB (o : Nat) (A : Nat → Nat → Int32) (i q : Nat) : Nat → Nat → Int32 := va_up A (5 + o) (upd (A (5 + o)) q (dV o A i q))
def dC (o : Nat) (B : Nat → Nat → Int32) (q : Nat) : Nat → Nat → Int32 := va_up B (3 + o) (upd (B (3 + o)) q (B (3 + o) q + 1))
def dD (o : Nat) (B : Nat → Nat → Int32) (q : Nat) (t : Int32) : Nat → Nat → Int32 := if B (3 + o) q = 1 then va_up B (6 + o) (upd (B (6 + o)) q t) else va_up B (7 + o) (upd (B (7 + o)) q t)
def dE1 (o : Nat) (B : Nat → Nat → Int32) (i q : Nat) : Nat → Nat → Int32 := va_up B (8 + o) (upd (B (8 + o)) q (nI i))
def dE2 (o : Nat) (B : Nat → Nat → Int32) (q : Nat) : Nat → Nat → Int32 := va_up B (4 + o) (upd (B (4 + o)) q (-1))
def dE3 (o : Nat) (B : Nat → Nat → Int32) (i : Nat) : Nat → Nat → Int32 := va_up B (2 + o) (upd (B (2 + o)) i (-1))
def dW (o : Nat) (A : Nat → Nat → Int32) (i q : Nat) (t : Int32) : Nat → Nat → Int32 :=
  if dV o A i q = 0 then dE3 o (dE2 o (dE1 o (dD o (dC o (dB o A i q) q) q t) i q) q) i else dB o A i q
theorem isSq_m1 : F_X5_isSquare (-1) = some 0 := by decide
theorem isSq_nI {q : Nat} (hq : q < 72) : F_X5_isSquare (nI q) = some 1 := by
  unfold F_X5_isSquare
  rw [if_neg (nI_pos (by omega)), if_neg (by rw [show (72 : Int32) = nI 72 from rfl, nI_leI (by decide) (by omega)]; omega)]
theorem isG_nI {S2 : Nat → Int32} {g i : Nat} (h : S2 10 = nI g) (hg : g ≤ 6) (hi : i < g) : F_X2_isGang S2 (nI i) = some 1 := by
  unfold F_X2_isGang
  rw [if_neg (nI_pos (by omega)), h, if_neg (by rw [nI_leI (by omega) (by omega)]; omega), if_neg (by rw [show (6 : Int32) = nI 6 from rfl, nI_leI (by decide) (by omega)]; omega)]
theorem isG_no {S2 : Nat → Int32} {g i : Nat} (h : S2 10 = nI g) (hg : g ≤ i) (hi : i < 6) : F_X2_isGang S2 (nI i) = some 0 := by
  unfold F_X2_isGang
  rw [if_neg (nI_pos (by omega)), h, if_pos (by rw [nI_leI (by omega) (by omega)]; omega)]
theorem wad_idle {S2 : Nat → Int32} {A2 : Nat → Nat → Int32} {g i : Nat} (h : S2 10 = nI g) (hg : g ≤ 6) (hi : i < 6) : F_X2_workADay S2 A2 (nI i) (-1) = some A2 := by
  unfold F_X2_workADay
  rcases Nat.lt_or_ge i g with c | c
  · rw [isG_nI h hg c, bd_some, if_neg (by decide), isSq_m1, bd_some, if_pos rfl]
  · rw [isG_no h c hi, bd_some, if_pos rfl]
theorem endC {S2 : Nat → Int32} {A2 : Nat → Nat → Int32} {g i q : Nat} (h : S2 10 = nI g) (hg : g ≤ 6) (hi : i < g) (hq : q < 72) : F_X2_endCoat S2 A2 (nI i) (nI q) = some (dE3 0 (dE2 0 (dE1 0 (dD 0 (dC 0 A2 q) q (S2 11)) i q) q) i) := by
  have hcq : (nI q).toNatClampNeg = q := nI_clamp (by omega)
  have hci : (nI i).toNatClampNeg = i := nI_clamp (by omega)
  unfold F_X2_endCoat
  rw [nm_eq, isG_nI h hg hi, bd_some, if_neg (by decide), isSq_nI hq, bd_some, if_neg (by decide)]
  simp only [ix_nI hq (by decide), hcq, hci, ix_nI (show i < 6 by omega) (by decide), nm_eq]
  by_cases c : (dC 0 A2 q) 3 q = 1
  · have c' : va_up A2 3 (upd (A2 3) q (A2 3 q + 1)) 3 q = 1 := c
    rw [if_pos c']
    unfold dD
    rw [if_pos (show dC 0 A2 q (3 + 0) q = 1 from c)]
    rfl
  · have c' : ¬ va_up A2 3 (upd (A2 3) q (A2 3 q + 1)) 3 q = 1 := c
    rw [if_neg c']
    unfold dD
    rw [if_neg (show ¬ dC 0 A2 q (3 + 0) q = 1 from c)]
    rfl
theorem wad_some {S2 : Nat → Int32} {A2 : Nat → Nat → Int32} {g i q : Nat} (h : S2 10 = nI g) (hg : g ≤ 6) (hi : i < g) (hq : q < 72) : F_X2_workADay S2 A2 (nI i) (nI q) = some (dW 0 A2 i q (S2 11)) := by
  have hcq : (nI q).toNatClampNeg = q := nI_clamp (by omega)
  have hci : (nI i).toNatClampNeg = i := nI_clamp (by omega)
  unfold F_X2_workADay
  rw [isG_nI h hg hi, bd_some, if_neg (by decide), isSq_nI hq, bd_some, if_neg (by decide)]
  simp only [ix_nI hq (by decide), hcq, hci, ix_nI (show i < 6 by omega) (by decide), nm_eq]
  have ev : va_up A2 5 (upd (A2 5) q (if A2 5 q - A2 1 i < 0 then 0 else A2 5 q - A2 1 i)) = dB 0 A2 i q := rfl
  have e5 : dB 0 A2 i q 5 q = dV 0 A2 i q := by unfold dB; simp [upA_at, upd_at]
  rw [ev, e5]
  unfold dW
  by_cases c : dV 0 A2 i q = 0
  · rw [if_pos c, if_pos c, endC h hg hi hq, bd_some]
  · rw [if_neg c, if_neg c]
theorem xd_idle {J : (Nat → Int32) → (Nat → Nat → Int32) → Option (Int32 × (Nat → Int32) × (Nat → Nat → Int32))} {S2 : Nat → Int32} {A2 : Nat → Nat → Int32} {g i n : Nat} (h : S2 10 = nI g) (hg : g ≤ 6) (hi : i < 6) (hb : A2 2 i = -1) : L_X2_passDay_14 J (n + 1) (nI i) S2 A2 = L_X2_passDay_14 J n (nI (i + 1)) S2 A2 := by
  have hci : (nI i).toNatClampNeg = i := nI_clamp (by omega)
  rw [L_X2_passDay_14.eq_2, if_neg (by rw [show (6 : Int32) = nI 6 from rfl, nI_leI (by decide) (by omega)]; omega), ix_nI hi (by decide), hci, hb, wad_idle h hg hi, bd_some, nm_eq, nI_1]
theorem xd_work {J : (Nat → Int32) → (Nat → Nat → Int32) → Option (Int32 × (Nat → Int32) × (Nat → Nat → Int32))} {S2 : Nat → Int32} {A2 : Nat → Nat → Int32} {g i q n : Nat} (h : S2 10 = nI g) (hg : g ≤ 6) (hi : i < g) (hq : q < 72) (hb : A2 2 i = nI q) : L_X2_passDay_14 J (n + 1) (nI i) S2 A2 = L_X2_passDay_14 J n (nI (i + 1)) S2 (dW 0 A2 i q (S2 11)) := by
  have hci : (nI i).toNatClampNeg = i := nI_clamp (by omega)
  rw [L_X2_passDay_14.eq_2, if_neg (by rw [show (6 : Int32) = nI 6 from rfl, nI_leI (by decide) (by omega)]; omega), ix_nI (show i < 6 by omega) (by decide), hci, hb, wad_some h hg hi hq, bd_some, nm_eq, nI_1]
theorem xd_end {J : (Nat → Int32) → (Nat → Nat → Int32) → Option (Int32 × (Nat → Int32) × (Nat → Nat → Int32))} {S2 : Nat → Int32} {A2 : Nat → Nat → Int32} {n : Nat} : L_X2_passDay_14 J (n + 1) (nI 6) S2 A2 = J S2 A2 := by
  rw [L_X2_passDay_14.eq_2, if_pos (show (6 : Int32) ≤ nI 6 by decide)]
theorem dv_eq (x : Int32) : (if (0 : Int32) < x then x else 0) = (if x < 0 then 0 else x) := by
  have e0 : (0 : Int32).toInt = 0 := rfl
  by_cases h1 : (0 : Int32) < x
  · rw [if_pos h1, if_neg (by rw [i_lt] at h1 ⊢; omega)]
  · rw [if_neg h1]
    by_cases h2 : x < 0
    · rw [if_pos h2]
    · rw [if_neg h2]; exact i_eq.mpr (by rw [i_lt] at h1 h2; omega)
theorem dV_nn (o : Nat) (A : Nat → Nat → Int32) (i q : Nat) : 0 ≤ (dV o A i q).toInt := by
  unfold dV
  by_cases h : A (5 + o) q - A (1 + o) i < 0
  · rw [if_pos h]; decide
  · rw [if_neg h]; rw [i_lt] at h
    have e0 : (0 : Int32).toInt = 0 := rfl
    omega
theorem md_end {J : (Nat → Int32) → (Nat → Nat → Int32) → Option (Int32 × (Nat → Int32) × (Nat → Nat → Int32))} {S6 : Nat → Int32} {A6 : Nat → Nat → Int32} {g n : Nat} (h : S6 4 = nI g) (hg : g ≤ 6) : L_X6_day_14 J (n + 1) (nI g) S6 A6 = J S6 A6 := by
  rw [L_X6_day_14.eq_2, nm_eq, nm_eq, h, if_pos (by rw [nI_leI (by omega) (by omega)]; omega)]
theorem md_idle {J : (Nat → Int32) → (Nat → Nat → Int32) → Option (Int32 × (Nat → Int32) × (Nat → Nat → Int32))} {S6 : Nat → Int32} {A6 : Nat → Nat → Int32} {g i n : Nat} (h : S6 4 = nI g) (hg : g ≤ 6) (hi : i < g) (hb : A6 6 i = -1) : L_X6_day_14 J (n + 1) (nI i) S6 A6 = L_X6_day_14 J n (nI (i + 1)) S6 A6 := by
  have hci : (nI i).toNatClampNeg = i := nI_clamp (by omega)
  rw [L_X6_day_14.eq_2, nm_eq, nm_eq, h, if_neg (by rw [nI_leI (by omega) (by omega)]; omega), ix_nI (show i < 6 by omega) (by decide), hci, hb, nm_eq, if_pos rfl]
  show L_X6_day_14 J n (nI i + 1) S6 A6 = _
  rw [nI_1]
theorem md_work {J : (Nat → Int32) → (Nat → Nat → Int32) → Option (Int32 × (Nat → Int32) × (Nat → Nat → Int32))} {S6 : Nat → Int32} {A6 : Nat → Nat → Int32} {g i q n : Nat} (h : S6 4 = nI g) (hg : g ≤ 6) (hi : i < g) (hq : q < 72) (hb : A6 6 i = nI q) : L_X6_day_14 J (n + 1) (nI i) S6 A6 = L_X6_day_14 J n (nI (i + 1)) S6 (dW 4 A6 i q (S6 3)) := by
  have hci : (nI i).toNatClampNeg = i := nI_clamp (by omega)
  have hcq : (nI q).toNatClampNeg = q := nI_clamp (by omega)
  have hne : ¬ nI q = -1 := fun e => by
    have := congrArg Int32.toInt e
    rw [nI_toInt (by omega)] at this
    have e1 : (-1 : Int32).toInt = -1 := rfl
    omega
  rw [L_X6_day_14.eq_2, nm_eq, nm_eq, h, if_neg (by rw [nI_leI (by omega) (by omega)]; omega), ix_nI (show i < 6 by omega) (by decide), hci, hb, nm_eq, if_neg hne]
  simp only [ix_nI hq (by decide), hcq, hci, ix_nI (show i < 6 by omega) (by decide), nm_eq, dv_eq, nI_1]
  have ev : va_up A6 9 (upd (A6 9) q (if A6 9 q - A6 5 i < 0 then 0 else A6 9 q - A6 5 i)) = dB 4 A6 i q := rfl
  have e5 : dB 4 A6 i q 9 q = dV 4 A6 i q := by unfold dB; simp [upA_at, upd_at]
  rw [ev, e5]
  have hnn := dV_nn 4 A6 i q
  have e0 : (0 : Int32).toInt = 0 := rfl
  unfold dW
  by_cases c : dV 4 A6 i q = 0
  · rw [if_pos (show dV 4 A6 i q ≤ 0 by rw [c]; decide), if_pos c]
    by_cases c2 : dC 4 (dB 4 A6 i q) q 7 q = 1
    · have c' : va_up (dB 4 A6 i q) 7 (upd (dB 4 A6 i q 7) q (dB 4 A6 i q 7 q + 1)) 7 q = 1 := c2
      rw [if_pos c']
      unfold dD
      rw [if_pos (show dC 4 (dB 4 A6 i q) q (3 + 4) q = 1 from c2)]
      rfl
    · have c' : ¬ va_up (dB 4 A6 i q) 7 (upd (dB 4 A6 i q 7) q (dB 4 A6 i q 7 q + 1)) 7 q = 1 := c2
      rw [if_neg c']
      unfold dD
      rw [if_neg (show ¬ dC 4 (dB 4 A6 i q) q (3 + 4) q = 1 from c2)]
      rfl
  · rw [if_neg (fun hle => c (i_eq.mpr (by rw [i_le] at hle; omega))), if_neg c]

/-- the class's rows 1..8 are the model's 5..12 -/
def SlR (A2 A6 : Nat → Nat → Int32) : Prop := ∀ k, 1 ≤ k → k ≤ 8 → A2 k = A6 (k + 4)
theorem SlR.up {A2 A6 : Nat → Nat → Int32} (h : SlR A2 A6) (j : Nat) (f : Nat → Int32) : SlR (va_up A2 j f) (va_up A6 (j + 4) f) := by
  intro k a b
  rw [upA_at, upA_at]
  by_cases e : k = j
  · rw [if_pos e, if_pos (by omega)]
  · rw [if_neg e, if_neg (by omega)]; exact h k a b
theorem slr_dW {A2 A6 : Nat → Nat → Int32} (h : SlR A2 A6) (i q : Nat) (t : Int32) : SlR (dW 0 A2 i q t) (dW 4 A6 i q t) := by
  have e5 := h 5 (by omega) (by omega)
  have e1 := h 1 (by omega) (by omega)
  have ev : dV 0 A2 i q = dV 4 A6 i q := by unfold dV; simp only [Nat.add_zero]; rw [e5, e1]
  have hB : SlR (dB 0 A2 i q) (dB 4 A6 i q) := by
    unfold dB
    rw [ev]
    simp only [Nat.add_zero]
    rw [e5]
    exact h.up 5 _
  have hC : ∀ {B2 B6 : Nat → Nat → Int32}, SlR B2 B6 → SlR (dC 0 B2 q) (dC 4 B6 q) := by
    intro B2 B6 hb
    unfold dC
    simp only [Nat.add_zero]
    rw [hb 3 (by omega) (by omega)]
    exact hb.up 3 _
  have hD : ∀ {B2 B6 : Nat → Nat → Int32}, SlR B2 B6 → SlR (dD 0 B2 q t) (dD 4 B6 q t) := by
    intro B2 B6 hb
    unfold dD
    simp only [Nat.add_zero]
    rw [hb 3 (by omega) (by omega), hb 6 (by omega) (by omega), hb 7 (by omega) (by omega)]
    by_cases c : B6 (3 + 4) q = 1
    · rw [if_pos c, if_pos c]; exact hb.up 6 _
    · rw [if_neg c, if_neg c]; exact hb.up 7 _
  have hE1 : ∀ {B2 B6 : Nat → Nat → Int32}, SlR B2 B6 → SlR (dE1 0 B2 i q) (dE1 4 B6 i q) := by
    intro B2 B6 hb
    unfold dE1
    simp only [Nat.add_zero]
    rw [hb 8 (by omega) (by omega)]
    exact hb.up 8 _
  have hE2 : ∀ {B2 B6 : Nat → Nat → Int32}, SlR B2 B6 → SlR (dE2 0 B2 q) (dE2 4 B6 q) := by
    intro B2 B6 hb
    unfold dE2
    simp only [Nat.add_zero]
    rw [hb 4 (by omega) (by omega)]
    exact hb.up 4 _
  have hE3 : ∀ {B2 B6 : Nat → Nat → Int32}, SlR B2 B6 → SlR (dE3 0 B2 i) (dE3 4 B6 i) := by
    intro B2 B6 hb
    unfold dE3
    simp only [Nat.add_zero]
    rw [hb 2 (by omega) (by omega)]
    exact hb.up 2 _
  unfold dW
  rw [ev]
  by_cases c : dV 4 A6 i q = 0
  · rw [if_pos c, if_pos c]; exact hE3 (hE2 (hE1 (hD (hC hB))))
  · rw [if_neg c, if_neg c]; exact hB
theorem dW_frame (A6 : Nat → Nat → Int32) (i q : Nat) (t : Int32) (j : Nat) (hj : j < 6 ∨ 12 < j) : dW 4 A6 i q t j = A6 j := by
  have u : ∀ (B : Nat → Nat → Int32) (k : Nat) (f : Nat → Int32), 6 ≤ k → k ≤ 12 → va_up B k f j = B j := fun B k f a b => by rw [upA_at, if_neg (by omega)]
  have hB : dB 4 A6 i q j = A6 j := u _ _ _ (by omega) (by omega)
  unfold dW
  by_cases c : dV 4 A6 i q = 0
  · rw [if_pos c]
    unfold dE3 dE2 dE1
    rw [u _ _ _ (by omega) (by omega), u _ _ _ (by omega) (by omega), u _ _ _ (by omega) (by omega)]
    unfold dD
    by_cases c2 : dC 4 (dB 4 A6 i q) q (3 + 4) q = 1
    · rw [if_pos c2, u _ _ _ (by omega) (by omega)]; unfold dC; rw [u _ _ _ (by omega) (by omega), hB]
    · rw [if_neg c2, u _ _ _ (by omega) (by omega)]; unfold dC; rw [u _ _ _ (by omega) (by omega), hB]
  · rw [if_neg c, hB]
theorem dW_not {A : Nat → Nat → Int32} {i q : Nat} {t : Int32} (c : ¬ dV 0 A i q = 0) (k : Nat) (hk : k ≠ 5) : dW 0 A i q t k = A k := by
  unfold dW
  rw [if_neg c]
  unfold dB
  rw [upA_at, if_neg hk]
theorem dW_fin {A : Nat → Nat → Int32} {i q : Nat} {t : Int32} (c : dV 0 A i q = 0) :
    dW 0 A i q t 1 = A 1 ∧ dW 0 A i q t 2 = upd (A 2) i (-1) ∧ dW 0 A i q t 3 = upd (A 3) q (A 3 q + 1) ∧ dW 0 A i q t 4 = upd (A 4) q (-1) ∧ (dW 0 A i q t 6 = upd (A 6) q t ∨ dW 0 A i q t 6 = A 6) := by
  unfold dW
  rw [if_pos c]
  unfold dD
  by_cases c2 : dC 0 (dB 0 A i q) q (3 + 0) q = 1
  · rw [if_pos c2]
    simp [dE3, dE2, dE1, dC, dB, upA_at]
  · rw [if_neg c2]
    simp [dE3, dE2, dE1, dC, dB, upA_at]
theorem PaI.dayI {g d i q : Nat} {A2 : Nat → Nat → Int32} (h : PaI g d A2) (hi : i < g) (hq : q < 72) (hb : A2 2 i = nI q) : PaI g d (dW 0 A2 i q (nI d)) := by
  by_cases c : dV 0 A2 i q = 0
  · obtain ⟨e1, e2, e3, e4, e6⟩ := dW_fin (t := nI d) c
    obtain ⟨h1, h2, h3, h4, h5, h6⟩ := h
    have hm : (-1 : Int32).toInt = -1 := rfl
    have h1' : (1 : Int32).toInt = 1 := rfl
    have hne : A2 2 i ≠ -1 := fun e => by
      rw [hb] at e
      have := congrArg Int32.toInt e
      rw [nI_toInt (by omega)] at this
      omega
    obtain ⟨hq4, hq3⟩ : A2 4 q = nI i ∧ (A2 3 q).toInt ≤ 1 := by
      rcases h4 i (by omega) with b | ⟨q', b1, b2, b3, b4, b5⟩
      · exact absurd b hne
      · have : q' = q := (nI_eq (by omega) (by omega)).mp (b2.symm.trans hb)
        subst this
        exact ⟨b4, b5⟩
    refine ⟨h1, h2, ?_, ?_, ?_, ?_⟩
    · rw [e1]; exact h3
    · intro j hj
      rw [e2, e3, e4, upd_at]
      by_cases ej : j = i
      · rw [if_pos ej]; exact Or.inl rfl
      · rw [if_neg ej]
        rcases h4 j hj with b | ⟨q', b1, b2, b3, b4, b5⟩
        · exact Or.inl b
        · have hqq : q' ≠ q := fun e => ej (by
            subst e
            exact (nI_eq (by omega) (by omega)).mp (b4.symm.trans hq4))
          exact Or.inr ⟨q', b1, b2, b3, by rw [upd_at, if_neg hqq]; exact b4, by rw [upd_at, if_neg hqq]; exact b5⟩
    · intro q' hq'
      rw [e3, upd_at]
      have hh := h5 q' hq'
      by_cases eq : q' = q
      · rw [if_pos eq]
        subst eq
        rw [i_add (by omega) (by omega)]
        omega
      · rw [if_neg eq]; exact hh
    · intro q' hq'
      have hh := h6 q' hq'
      rcases e6 with e | e
      · rw [e, upd_at]
        by_cases eq : q' = q
        · rw [if_pos eq, nI_toInt (by omega)]; omega
        · rw [if_neg eq]; exact hh
      · rw [e]; exact hh
  · have f := fun k hk => dW_not (t := nI d) c k hk
    obtain ⟨h1, h2, h3, h4, h5, h6⟩ := h
    refine ⟨h1, h2, ?_, ?_, ?_, ?_⟩
    · rw [f 1 (by omega)]; exact h3
    · rw [f 2 (by omega), f 3 (by omega), f 4 (by omega)]; exact h4
    · rw [f 3 (by omega)]; exact h5
    · rw [f 6 (by omega)]; exact h6
/-- the gangs from i on, in both -/
theorem day_loop {JX : (Nat → Int32) → (Nat → Nat → Int32) → Option (Int32 × (Nat → Int32) × (Nat → Nat → Int32))} {JM : (Nat → Int32) → (Nat → Nat → Int32) → Option (Int32 × (Nat → Int32) × (Nat → Nat → Int32))} {S2 S6 : Nat → Int32} {g d : Nat} (e2 : S2 10 = nI g) (e6 : S6 4 = nI g) (d2 : S2 11 = nI d) (d6 : S6 3 = nI d) :
    ∀ (m i nX nM : Nat) (A2 A6 : Nat → Nat → Int32), i + m = g → 7 ≤ i + nX → g + 1 ≤ i + nM → PaI g d A2 → SlR A2 A6 → ∃ A2' A6', L_X2_passDay_14 JX nX (nI i) S2 A2 = JX S2 A2' ∧ L_X6_day_14 JM nM (nI i) S6 A6 = JM S6 A6' ∧ PaI g d A2' ∧ SlR A2' A6' ∧ ∀ j, (j < 6 ∨ 12 < j) → A6' j = A6 j := by
  intro m
  induction m with
  | zero =>
    intro i nX nM A2 A6 hm hX hM hI hR
    have hg : g ≤ 6 := hI.1
    obtain ⟨nM, rfl⟩ : ∃ k, nM = k + 1 := ⟨nM - 1, by omega⟩
    refine ⟨A2, A6, ?_, ?_, hI, hR, fun _ _ => rfl⟩
    · -- the class goes on to six, idle
      have idle : ∀ (r i nX : Nat), i + r = 6 → g ≤ i → 7 ≤ i + nX → L_X2_passDay_14 JX nX (nI i) S2 A2 = JX S2 A2 := by
        intro r
        induction r with
        | zero =>
          intro i nX h1 h2 h3
          obtain ⟨nX, rfl⟩ : ∃ k, nX = k + 1 := ⟨nX - 1, by omega⟩
          have : i = 6 := by omega
          subst this
          exact xd_end
        | succ r ih =>
          intro i nX h1 h2 h3
          obtain ⟨nX, rfl⟩ : ∃ k, nX = k + 1 := ⟨nX - 1, by omega⟩
          have hb : A2 2 i = -1 := by
            rcases hI.2.2.2.1 i (by omega) with b | ⟨q, b1, b2, b3, b4⟩
            · exact b
            · omega
          rw [xd_idle e2 hg (by omega) hb]
          exact ih (i + 1) nX (by omega) (by omega) (by omega)
      exact idle (6 - i) i nX (by omega) (by omega) hX
    · have : i = g := by omega
      subst this
      exact md_end e6 hg
  | succ m ih =>
    intro i nX nM A2 A6 hm hX hM hI hR
    have hg : g ≤ 6 := hI.1
    obtain ⟨nX, rfl⟩ : ∃ k, nX = k + 1 := ⟨nX - 1, by omega⟩
    obtain ⟨nM, rfl⟩ : ∃ k, nM = k + 1 := ⟨nM - 1, by omega⟩
    have r2 : A6 6 = A2 2 := (hR 2 (by omega) (by omega)).symm
    rcases hI.2.2.2.1 i (by omega) with b | ⟨q, b1, b2, b3, b4⟩
    · rw [xd_idle e2 hg (by omega) b, md_idle e6 hg (by omega) (by rw [r2]; exact b)]
      exact ih (i + 1) nX nM A2 A6 (by omega) (by omega) (by omega) hI hR
    · rw [xd_work e2 hg (by omega) b1 b2, md_work e6 hg (by omega) b1 (by rw [r2]; exact b2), d2, d6]
      obtain ⟨A2', A6', f1, f2, f3, f4, f5⟩ := ih (i + 1) nX nM _ _ (by omega) (by omega) (by omega) (hI.dayI (by omega) b1 b2) (slr_dW hR i q (nI d))
      exact ⟨A2', A6', f1, f2, f3, f4, fun j hj => by rw [f5 j hj, dW_frame _ _ _ _ j hj]⟩
theorem pa_day {S2 : Nat → Int32} {A2 : Nat → Nat → Int32} {S6 : Nat → Int32} {A6 : Nat → Nat → Int32} (h : RPa S2 A2 S6 A6) :
    ∃ r S2' A2' S6' A6', F_X5_day S2 A2 = some (r, S2', A2') ∧ F_X6_day S6 A6 = some (r, S6', A6') ∧ RPa S2' A2' S6' A6' ∧ (∀ q, q ≠ 11 → S2' q = S2 q) ∧ (∀ q, q ≠ 3 → S6' q = S6 q) ∧ ∀ j, (j < 6 ∨ 12 < j) → A6' j = A6 j := by
  obtain ⟨h1, g, d, e1, e2, e3, e4, hI⟩ := id h
  have hd : d ≤ 1000 := hI.2.1
  unfold F_X5_day F_X2_passDay F_X6_day
  rw [nm_eq, nm_eq, e3, e4]
  by_cases c : d < 1000
  · have c1 : nI d < 1000 := by rw [show (1000 : Int32) = nI 1000 from rfl, nI_ltI (by omega) (by decide)]; exact c
    have c2 : ¬ nI d = 1000 := by rw [show (1000 : Int32) = nI 1000 from rfl, nI_eq (by omega) (by decide)]; omega
    rw [if_pos c1, if_neg c2, show (0 : Int32) = nI 0 from rfl]
    have hg6 := hI.1
    obtain ⟨A2', A6', f1, f2, f3, f4, f5⟩ := day_loop (JX := fun (S2 : Nat → Int32) (A2 : Nat → Nat → Int32) => nm (upd S2 11 ((S2 11) + 1)) fun S2_1 => some (S2_1 11, S2_1, A2)) (JM := fun (S6 : Nat → Int32) (A6 : Nat → Nat → Int32) => nm (upd S6 3 ((S6 3) + 1)) fun S6_1 => some (S6_1 3, S6_1, A6)) e1 e2 e3 e4 g 0 FU FU A2 A6 (by omega) (by unfold FU; omega) (by unfold FU; omega) hI h1
    rw [f1, f2]
    simp only [nm_eq, bd_some, e3, e4]
    refine ⟨nI d + 1, _, _, _, _, rfl, rfl, ⟨f4, g, d + 1, ?_, ?_, ?_, ?_, f3.1, by omega, f3.2.2.1, f3.2.2.2.1, f3.2.2.2.2.1, fun q hq => ?_⟩, fun q hq => ?_, fun q hq => ?_, f5⟩
    · rw [upd_at, if_neg (by omega)]; exact e1
    · rw [upd_at, if_neg (by omega)]; exact e2
    · rw [upd_at, if_pos rfl, nI_1]
    · rw [upd_at, if_pos rfl, nI_1]
    · have := f3.2.2.2.2.2 q hq; omega
    · rw [upd_at, if_neg hq]
    · rw [upd_at, if_neg hq]
  · have c1 : ¬ nI d < 1000 := by rw [show (1000 : Int32) = nI 1000 from rfl, nI_ltI (by omega) (by decide)]; exact c
    have c2 : nI d = 1000 := by rw [show (1000 : Int32) = nI 1000 from rfl, nI_eq (by omega) (by decide)]; omega
    rw [if_neg c1, if_pos c2, bd_some]
    exact ⟨_, _, _, _, _, rfl, rfl, h, fun _ _ => rfl, fun _ _ => rfl, fun _ _ => rfl⟩
end
section
/-! room, crowd; marks, columns and rows; stands -/
theorem pl_room {n : Nat} {S3 : Nat → Int32} {A3 : Nat → Nat → Int32} {S6 : Nat → Int32} {A6 : Nat → Nat → Int32} (h : RPl n S3 A3 S6 A6) (p1 : Int32) :
    ∃ r S3' S6', F_X5_room S3 p1 = some (r, S3') ∧ F_X6_room S6 p1 = some (r, S6') ∧ RPl n S3' A3 S6' A6 ∧ ∀ q, q ≠ 35 → S6' q = S6 q := by
  unfold F_X5_room F_X3_setRoom F_X6_room
  rw [isIn_eq, bd_some]
  by_cases c1 : p1 < 1
  · rw [if_pos c1, if_pos (Or.inl c1), if_pos rfl, bd_some]
    exact ⟨_, _, _, rfl, rfl, h, fun _ _ => rfl⟩
  rw [if_neg c1]
  have e200 : (200 : Int32).toInt = 200 := rfl
  by_cases c2 : p1 ≤ 200
  · have c3 : ¬ (200 : Int32) < p1 := by rw [i_lt]; rw [i_le] at c2; omega
    have hnot : ¬ (p1 < 1 ∨ 200 < p1) := fun h => h.elim c1 c3
    rw [if_pos c2, if_neg hnot, if_neg (show ¬ (1 : Int32) = 0 by decide)]
    simp only [nm_eq, bd_some]
    refine ⟨1, upd S3 1 p1, upd S6 35 p1, rfl, rfl, ?_, fun q hq => by rw [upd_at, if_neg hq]⟩
    obtain ⟨g1, g2, g3, g4, g5, g6, g7⟩ := h
    exact ⟨rfl, g2, g3, g4, g5, g6, g7⟩
  · have c3 : (200 : Int32) < p1 := by rw [i_lt]; rw [i_le] at c2; omega
    rw [if_neg c2, if_pos (Or.inr c3), if_pos rfl, bd_some]
    exact ⟨_, _, _, rfl, rfl, h, fun _ _ => rfl⟩
theorem pl_crowd {n : Nat} {S3 : Nat → Int32} {A3 : Nat → Nat → Int32} {S6 : Nat → Int32} {A6 : Nat → Nat → Int32} (h : RPl n S3 A3 S6 A6) (p1 : Int32) : ∃ r, F_X5_crowd S3 p1 = some r ∧ F_X6_crowd S6 p1 = some r := by
  obtain ⟨g1, g2, g3, g4, g5, g6, g7⟩ := h
  unfold F_X5_crowd F_X3_tell F_X6_crowd
  by_cases c0 : p1 = 0
  · rw [if_pos c0, if_pos c0, bd_some, g2]; exact ⟨_, rfl, rfl⟩
  rw [if_neg c0, if_neg c0]
  by_cases c1 : p1 = 1
  · rw [if_pos c1, if_pos c1, bd_some, g3]; exact ⟨_, rfl, rfl⟩
  rw [if_neg c1, if_neg c1]
  by_cases c2 : p1 = 2
  · rw [if_pos c2, if_pos c2, bd_some, g4]; exact ⟨_, rfl, rfl⟩
  rw [if_neg c2, if_neg c2]
  by_cases c3 : p1 = 3
  · rw [if_pos c3, if_pos c3, bd_some, g5]; exact ⟨_, rfl, rfl⟩
  rw [if_neg c3, if_neg c3]
  by_cases c4 : p1 = 4
  · rw [if_pos c4, if_pos c4, bd_some, g6]; exact ⟨_, rfl, rfl⟩
  rw [if_neg c4, if_neg c4]
  by_cases c5 : p1 = 5
  · rw [if_pos c5, if_pos c5, bd_some, g1]; exact ⟨_, rfl, rfl⟩
  rw [if_neg c5, if_neg c5, bd_some]
  exact ⟨_, rfl, rfl⟩
/-- a mark by its numbers -/
theorem isIn_N (x : Int32) (N : Nat) (hN : N < 2 ^ 31) (h0 : 0 < N) : (∃ k : Nat, k < N ∧ x = nI k ∧ F_X6_isIn x 0 (nI (N - 1)) = some 1 ∧ ¬ x < 0 ∧ ¬ nI N ≤ x) ∨ (F_X6_isIn x 0 (nI (N - 1)) = some 0 ∧ (x < 0 ∨ nI N ≤ x)) := by
  rw [isIn_eq]
  by_cases c1 : x < 0
  · exact Or.inr ⟨by rw [if_pos (Or.inl c1)], Or.inl c1⟩
  obtain ⟨k, hk, rfl⟩ := nI_of c1
  by_cases c2 : k < N
  · have c3 : ¬ nI (N - 1) < nI k := by rw [nI_ltI (by omega) hk]; omega
    have c4 : ¬ nI N ≤ nI k := by rw [nI_leI hN hk]; omega
    exact Or.inl ⟨k, c2, rfl, by rw [if_neg (fun h => h.elim c1 c3)], c1, c4⟩
  · have c3 : nI (N - 1) < nI k := by rw [nI_ltI (by omega) hk]; omega
    have c4 : nI N ≤ nI k := by rw [nI_leI hN hk]; omega
    exact Or.inr ⟨by rw [if_pos (Or.inr c3)], Or.inr c4⟩
theorem isMark_both (p1 p2 p3 : Int32) : (∃ v u h : Nat, v < 12 ∧ u < 40 ∧ h < 20 ∧ p1 = nI v ∧ p2 = nI u ∧ p3 = nI h ∧ F_X4_isMark p1 p2 p3 = some 1 ∧ F_X6_isMark p1 p2 p3 = some 1) ∨ (F_X4_isMark p1 p2 p3 = some 0 ∧ F_X6_isMark p1 p2 p3 = some 0) := by
  unfold F_X4_isMark F_X6_isMark
  rcases isIn_N p1 12 (by decide) (by decide) with ⟨v, hv, e1, f1, a1, b1⟩ | ⟨f1, ab1⟩
  · rw [show (11 : Int32) = nI (12 - 1) from rfl, f1, bd_some, if_neg a1, if_neg (show ¬ (12 : Int32) ≤ p1 from b1), if_neg (show ¬ (1 : Int32) = 0 by decide)]
    rcases isIn_N p2 40 (by decide) (by decide) with ⟨u, hu, e2, f2, a2, b2⟩ | ⟨f2, ab2⟩
    · rw [show (39 : Int32) = nI (40 - 1) from rfl, f2, bd_some, if_neg a2, if_neg (show ¬ (40 : Int32) ≤ p2 from b2), if_neg (show ¬ (1 : Int32) = 0 by decide)]
      rcases isIn_N p3 20 (by decide) (by decide) with ⟨h, hh, e3, f3, a3, b3⟩ | ⟨f3, ab3⟩
      · rw [show (19 : Int32) = nI (20 - 1) from rfl, f3, bd_some, if_neg a3, if_neg (show ¬ (20 : Int32) ≤ p3 from b3), if_neg (show ¬ (1 : Int32) = 0 by decide)]
        exact Or.inl ⟨v, u, h, hv, hu, hh, e1, e2, e3, rfl, rfl⟩
      · rw [show (19 : Int32) = nI (20 - 1) from rfl, f3, bd_some, if_pos rfl]
        refine Or.inr ⟨?_, rfl⟩
        by_cases c : p3 < 0
        · rw [if_pos c]
        · rw [if_neg c, if_pos (show (20 : Int32) ≤ p3 from ab3.elim (fun h => absurd h c) id)]
    · rw [show (39 : Int32) = nI (40 - 1) from rfl, f2, bd_some, if_pos rfl]
      refine Or.inr ⟨?_, rfl⟩
      by_cases c : p2 < 0
      · rw [if_pos c]
      · rw [if_neg c, if_pos (show (40 : Int32) ≤ p2 from ab2.elim (fun h => absurd h c) id)]
  · rw [show (11 : Int32) = nI (12 - 1) from rfl, f1, bd_some, if_pos rfl]
    refine Or.inr ⟨?_, rfl⟩
    by_cases c : p1 < 0
    · rw [if_pos c]
    · rw [if_neg c, if_pos (show (12 : Int32) ≤ p1 from ab1.elim (fun h => absurd h c) id)]
def colN (v u : Nat) : Nat := ((30 * (v : Int) + ((u : Int) - 20) - (((u : Int) - 20) * ((u : Int) - 20) * ((u : Int) - 20)).tdiv 6000) % 360).toNat
def rowN (u h : Nat) : Nat := h * 1000 / (1000 + (((u : Int) - 20) * ((u : Int) - 20)).toNat)
theorem col_both : ∀ v, v < 12 → ∀ u, u < 40 → F_X4_columnOf (nI v) (nI u) = some (nI (colN v u)) ∧ F_X6_column (nI v) (nI u) = some (nI (colN v u)) ∧ colN v u < 360 := by decide +kernel
theorem row_both : ∀ u, u < 40 → ∀ h, h < 20 → F_X4_rowOf (nI u) (nI h) = some (nI (rowN u h)) ∧ F_X6_row (nI u) (nI h) = some (nI (rowN u h)) ∧ rowN u h < 20 := by decide +kernel
theorem rd_stands (p1 p2 p3 p4 : Int32) : ∃ r, F_X5_stands p1 p2 p3 p4 = some r ∧ F_X6_stands p1 p2 p3 p4 = some r := by
  unfold F_X5_stands F_X6_stands
  rcases isMark_both p1 p2 p3 with ⟨v, u, h, hv, hu, hh, rfl, rfl, rfl, f1, f2⟩ | ⟨f1, f2⟩
  · have h10 : ¬ (1 : Int32) = 0 := by decide
    rw [f1, f2, bd_some, bd_some, if_neg h10, if_neg h10]
    obtain ⟨x1, x2, -⟩ := col_both v hv u hu
    obtain ⟨y1, y2, -⟩ := row_both u hu h hh
    by_cases c0 : p4 = 0
    · rw [if_pos c0, if_pos c0, x1, x2]; exact ⟨_, rfl, rfl⟩
    rw [if_neg c0, if_neg c0]
    by_cases c1 : p4 = 1
    · rw [if_pos c1, if_pos c1, y1, y2]; exact ⟨_, rfl, rfl⟩
    rw [if_neg c1, if_neg c1]
    exact ⟨_, rfl, rfl⟩
  · rw [f1, f2, bd_some, bd_some, if_pos rfl, if_pos rfl]
    exact ⟨_, rfl, rfl⟩
end
section
/-! the model's picture of a view: laid out of the marks -/
abbrev mkN (v u h : Nat) : Nat := (v * 40 + u) * 20 + h
theorem mk_nI (v u h : Nat) : ((nI v * 40) + nI u) * 20 + nI h = nI (mkN v u h) := by
  rw [show (40 : Int32) = nI 40 from rfl, show (20 : Int32) = nI 20 from rfl, pk_mul, nI_add, pk_mul, nI_add]
theorem pl_nI (v c r : Nat) : ((7200 * nI v) + (20 * nI c)) + nI r = nI (7200 * v + 20 * c + r) := by
  rw [show (7200 : Int32) = nI 7200 from rfl, show (20 : Int32) = nI 20 from rfl, pk_mul, pk_mul, nI_add, nI_add]
def zr (f : Nat → Int32) (a b : Nat) : Nat → Int32 := fun p => if a ≤ p ∧ p < b then 0 else f p
theorem zr_step (f : Nat → Int32) (a b : Nat) (h : a < b) : zr (upd f a 0) (a + 1) b = zr f a b := by
  funext p
  unfold zr
  by_cases c : a + 1 ≤ p ∧ p < b
  · rw [if_pos c, if_pos ⟨by omega, c.2⟩]
  · rw [if_neg c, upd_at]
    by_cases e : p = a
    · rw [if_pos e, if_pos ⟨by omega, by omega⟩]
    · rw [if_neg e, if_neg (fun h2 => c ⟨by omega, h2.2⟩)]
theorem zr_end (f : Nat → Int32) (b : Nat) : zr f b b = f := by
  funext p
  unfold zr
  rw [if_neg (by omega)]
theorem upA_self {α : Type} (A : Nat → α) (k : Nat) : va_up A k (A k) = A := by
  funext j
  rw [upA_at]
  by_cases e : j = k
  · rw [if_pos e, e]
  · rw [if_neg e]
theorem ci_zero {J : Int32 → Int32 → (Nat → Nat → Int32) → Option (Int32 × (Nat → Nat → Int32))} {v : Nat} (hv : v < 12) (x2 : Int32) :
    ∀ (m i n : Nat) (A6 : Nat → Nat → Int32), i + m = 7200 → m + 1 ≤ n → L_X6_colourIn_11 J n (nI v) x2 (nI i) A6 = J (nI v) x2 (va_up A6 1 (zr (A6 1) (7200 * v + i) (7200 * v + 7200))) := by
  intro m
  induction m with
  | zero =>
    intro i n A6 h1 h2
    obtain ⟨n, rfl⟩ : ∃ k, n = k + 1 := ⟨n - 1, by omega⟩
    rw [L_X6_colourIn_11.eq_2, if_pos (by rw [show (7200 : Int32) = nI 7200 from rfl, nI_leI (by decide) (by omega)]; omega), show 7200 * v + i = 7200 * v + 7200 by omega, zr_end, upA_self]
  | succ m ih =>
    intro i n A6 h1 h2
    obtain ⟨n, rfl⟩ : ∃ k, n = k + 1 := ⟨n - 1, by omega⟩
    have e : (7200 * nI v) + nI i = nI (7200 * v + i) := by rw [show (7200 : Int32) = nI 7200 from rfl, pk_mul, nI_add]
    rw [L_X6_colourIn_11.eq_2, if_neg (by rw [show (7200 : Int32) = nI 7200 from rfl, nI_leI (by decide) (by omega)]; omega), e, ix_nI (by omega) (by decide), nI_clamp (by omega), nm_eq, nm_eq, nI_1, ih (i + 1) n _ (by omega) (by omega), bx_uu]
    have e2 : va_up A6 1 (upd (A6 1) (7200 * v + i) (vp_nar .byte 0)) 1 = upd (A6 1) (7200 * v + i) 0 := by
      rw [upA_at, if_pos rfl]; rfl
    rw [e2, show 7200 * v + (i + 1) = 7200 * v + i + 1 by omega, zr_step _ _ _ (by omega)]
/-- one mark is laid -/
def stp (M : Nat → Int32) (v u h : Nat) (f : Nat → Int32) : Nat → Int32 := if M (mkN v u h) = 0 then f else upd f (7200 * v + 20 * colN v u + rowN u h) (M (mkN v u h))
def hRun (M : Nat → Int32) (v u : Nat) : Nat → Nat → (Nat → Int32) → (Nat → Int32)
  | 0, _, f => f
  | k + 1, h, f => hRun M v u k (h + 1) (stp M v u h f)
def uRun (M : Nat → Int32) (v : Nat) : Nat → Nat → (Nat → Int32) → (Nat → Int32)
  | 0, _, f => f
  | k + 1, u, f => uRun M v k (u + 1) (hRun M v u 20 0 f)
theorem ci_h {J : Int32 → Int32 → Int32 → (Nat → Nat → Int32) → Option (Int32 × (Nat → Nat → Int32))} {v u : Nat} (hv : v < 12) (hu : u < 40) (x2 : Int32) :
    ∀ (m h n : Nat) (A6 : Nat → Nat → Int32), (∀ k, vp_nar .byte (A6 0 k) = A6 0 k) → h + m = 20 → m + 1 ≤ n → L_X6_colourIn_48 J n (nI v) x2 (nI u) (nI h) A6 = J (nI v) x2 (nI u) (va_up A6 1 (hRun (A6 0) v u m h (A6 1))) := by
  intro m
  induction m with
  | zero =>
    intro h n A6 hM h1 h2
    obtain ⟨n, rfl⟩ : ∃ k, n = k + 1 := ⟨n - 1, by omega⟩
    rw [L_X6_colourIn_48.eq_2, nm_eq, if_pos (by rw [show (20 : Int32) = nI 20 from rfl, nI_leI (by decide) (by omega)]; omega)]
    unfold hRun
    rw [upA_self]
  | succ m ih =>
    intro h n A6 hM h1 h2
    obtain ⟨n, rfl⟩ : ∃ k, n = k + 1 := ⟨n - 1, by omega⟩
    have hm : mkN v u h < 9600 := by unfold mkN; omega
    obtain ⟨c1, c2, c3⟩ := col_both v hv u hu
    obtain ⟨r1, r2, r3⟩ := row_both u hu h (by omega)
    rw [L_X6_colourIn_48.eq_2, nm_eq, if_neg (by rw [show (20 : Int32) = nI 20 from rfl, nI_leI (by decide) (by omega)]; omega), mk_nI, ix_nI hm (by decide), nI_clamp (by omega), nm_eq]
    rw [hRun]
    unfold stp
    by_cases c : A6 0 (mkN v u h) = 0
    · rw [if_pos c, if_pos c]
      show L_X6_colourIn_48 J n (nI v) x2 (nI u) (nI h + 1) A6 = _
      rw [nI_1]
      exact ih (h + 1) n A6 hM (by omega) (by omega)
    · rw [if_neg c, if_neg c, c2, bd_some, r2, bd_some, pl_nI, ix_nI (by omega) (by decide), nI_clamp (by omega), nm_eq, hM]
      show L_X6_colourIn_48 J n (nI v) x2 (nI u) (nI h + 1) _ = _
      rw [nI_1, ih (h + 1) n (va_up A6 1 (upd (A6 1) (7200 * v + 20 * colN v u + rowN u h) (A6 0 (mkN v u h)))) hM (by omega) (by omega), bx_uu]
      rfl
theorem ci_u {J : Int32 → Int32 → (Nat → Nat → Int32) → Option (Int32 × (Nat → Nat → Int32))} {v : Nat} (hv : v < 12) (x2 : Int32) :
    ∀ (m u n : Nat) (A6 : Nat → Nat → Int32), (∀ k, vp_nar .byte (A6 0 k) = A6 0 k) → u + m = 40 → m + 1 ≤ n → L_X6_colourIn_39 J n (nI v) x2 (nI u) A6 = J (nI v) x2 (va_up A6 1 (uRun (A6 0) v m u (A6 1))) := by
  intro m
  induction m with
  | zero =>
    intro u n A6 hM h1 h2
    obtain ⟨n, rfl⟩ : ∃ k, n = k + 1 := ⟨n - 1, by omega⟩
    rw [L_X6_colourIn_39.eq_2, nm_eq, if_pos (by rw [show (40 : Int32) = nI 40 from rfl, nI_leI (by decide) (by omega)]; omega)]
    unfold uRun
    rw [upA_self]
  | succ m ih =>
    intro u n A6 hM h1 h2
    obtain ⟨n, rfl⟩ : ∃ k, n = k + 1 := ⟨n - 1, by omega⟩
    rw [L_X6_colourIn_39.eq_2, nm_eq, if_neg (by rw [show (40 : Int32) = nI 40 from rfl, nI_leI (by decide) (by omega)]; omega), show (0 : Int32) = nI 0 from rfl, ci_h hv (by omega) x2 20 0 FU A6 hM (by omega) (by unfold FU; omega)]
    show L_X6_colourIn_39 J n (nI v) x2 (nI u + 1) _ = _
    rw [nI_1, ih (u + 1) n (va_up A6 1 (hRun (A6 0) v u 20 0 (A6 1))) hM (by omega) (by omega), bx_uu]
    rfl
/-- what the model lays for a view -/
def layV (M : Nat → Int32) (v : Nat) (f : Nat → Int32) : Nat → Int32 := uRun M v 40 0 (zr f (7200 * v) (7200 * v + 7200))
theorem ci_new {A6 : Nat → Nat → Int32} {v p : Nat} (hv : v < 12) (hp : p < 7200) (hM : ∀ k, vp_nar .byte (A6 0 k) = A6 0 k) (h0 : A6 2 v = 0) :
    ∃ B6, F_X6_colourIn A6 (nI v) (nI p) = some (layV (A6 0) v (A6 1) (7200 * v + p), B6) ∧ B6 1 = layV (A6 0) v (A6 1) ∧ B6 2 = upd (A6 2) v 1 ∧ ∀ j, j ≠ 1 → j ≠ 2 → B6 j = A6 j := by
  unfold F_X6_colourIn
  have hcv : (nI v).toNatClampNeg = v := nI_clamp (by omega)
  have e : (7200 * nI v) + nI p = nI (7200 * v + p) := by rw [show (7200 : Int32) = nI 7200 from rfl, pk_mul, nI_add]
  rw [nm_eq, nm_eq, nm_eq, ix_nI hv (by decide), hcv, if_pos h0, show (0 : Int32) = nI 0 from rfl, ci_zero hv (nI p) 7200 0 FU A6 (by omega) (by unfold FU; omega)]
  rw [ci_u hv (nI p) 40 0 FU (va_up A6 1 (zr (A6 1) (7200 * v + 0) (7200 * v + 7200))) hM (by omega) (by unfold FU; omega), bx_uu]
  simp only [ix_nI hv (by decide), hcv, nm_eq]
  rw [e, ix_nI (by omega) (by decide), nI_clamp (by omega)]
  refine ⟨_, rfl, rfl, rfl, fun j h1 h2 => ?_⟩
  rw [upA_at, if_neg h2, upA_at, if_neg h1]
theorem ci_old {A6 : Nat → Nat → Int32} {v p : Nat} (hv : v < 12) (hp : p < 7200) (h0 : ¬ A6 2 v = 0) : F_X6_colourIn A6 (nI v) (nI p) = some (A6 1 (7200 * v + p), A6) := by
  unfold F_X6_colourIn
  have hcv : (nI v).toNatClampNeg = v := nI_clamp (by omega)
  have e : (7200 * nI v) + nI p = nI (7200 * v + p) := by rw [show (7200 : Int32) = nI 7200 from rfl, pk_mul, nI_add]
  rw [nm_eq, nm_eq, nm_eq, ix_nI hv (by decide), hcv, if_neg h0]
  show ix (7200 * nI v + nI p) 86400 (some (A6 1 (7200 * nI v + nI p).toNatClampNeg, A6)) = _
  rw [e, ix_nI (by omega) (by decide), nI_clamp (by omega)]
/-- the colour that a view has at a place: of its marks that stand there the last one that isn't 0 -/
def hV (M : Nat → Int32) (v u c r : Nat) : Nat → Nat → Int32 → Int32
  | 0, _, a => a
  | k + 1, h, a => hV M v u c r k (h + 1) (if colN v u = c ∧ rowN u h = r ∧ M (mkN v u h) ≠ 0 then M (mkN v u h) else a)
def uV (M : Nat → Int32) (v c r : Nat) : Nat → Nat → Int32 → Int32
  | 0, _, a => a
  | k + 1, u, a => uV M v c r k (u + 1) (hV M v u c r 20 0 a)
def pic (M : Nat → Int32) (v c r : Nat) : Int32 := uV M v c r 40 0 0
theorem stp_at (M : Nat → Int32) {v u h c r : Nat} (hv : v < 12) (hu : u < 40) (hh : h < 20) (hr : r < 20) (f : Nat → Int32) : stp M v u h f (7200 * v + 20 * c + r) = if colN v u = c ∧ rowN u h = r ∧ M (mkN v u h) ≠ 0 then M (mkN v u h) else f (7200 * v + 20 * c + r) := by
  have h3 := (row_both u hu h hh).2.2
  unfold stp
  by_cases c0 : M (mkN v u h) = 0
  · rw [if_pos c0, if_neg (fun q => q.2.2 c0)]
  · rw [if_neg c0, upd_at]
    by_cases e : colN v u = c ∧ rowN u h = r
    · rw [if_pos (by omega), if_pos ⟨e.1, e.2, c0⟩]
    · rw [if_neg (by omega), if_neg (fun q => e ⟨q.1, q.2.1⟩)]
theorem hRun_at (M : Nat → Int32) {v u c r : Nat} (hv : v < 12) (hu : u < 40) (hr : r < 20) : ∀ (k h : Nat) (f : Nat → Int32), h + k ≤ 20 → hRun M v u k h f (7200 * v + 20 * c + r) = hV M v u c r k h (f (7200 * v + 20 * c + r)) := by
  intro k
  induction k with
  | zero => intro h f _; rfl
  | succ k ih =>
    intro h f hk
    rw [hRun, hV, ih (h + 1) _ (by omega), stp_at M hv hu (by omega) hr]
theorem uRun_at (M : Nat → Int32) {v c r : Nat} (hv : v < 12) (hr : r < 20) : ∀ (k u : Nat) (f : Nat → Int32), u + k ≤ 40 → uRun M v k u f (7200 * v + 20 * c + r) = uV M v c r k u (f (7200 * v + 20 * c + r)) := by
  intro k
  induction k with
  | zero => intro u f _; rfl
  | succ k ih =>
    intro u f hk
    rw [uRun, uV, ih (u + 1) _ (by omega), hRun_at M hv (by omega) hr 20 0 f (by omega)]
theorem layV_at (M : Nat → Int32) {v c r : Nat} (hv : v < 12) (hc : c < 360) (hr : r < 20) (f : Nat → Int32) : layV M v f (7200 * v + 20 * c + r) = pic M v c r := by
  unfold layV pic
  rw [uRun_at M hv hr 40 0 _ (by omega)]
  unfold zr
  rw [if_pos ⟨by omega, by omega⟩]
theorem stp_out (M : Nat → Int32) {v u h p : Nat} (hv : v < 12) (hu : u < 40) (hh : h < 20) (hp : p < 7200 * v ∨ 7200 * v + 7200 ≤ p) (f : Nat → Int32) : stp M v u h f p = f p := by
  have h3 := (row_both u hu h hh).2.2
  have h4 := (col_both v hv u hu).2.2
  unfold stp
  by_cases c0 : M (mkN v u h) = 0
  · rw [if_pos c0]
  · rw [if_neg c0, upd_at, if_neg (by omega)]
theorem hRun_out (M : Nat → Int32) {v u p : Nat} (hv : v < 12) (hu : u < 40) (hp : p < 7200 * v ∨ 7200 * v + 7200 ≤ p) : ∀ (k h : Nat) (f : Nat → Int32), h + k ≤ 20 → hRun M v u k h f p = f p := by
  intro k
  induction k with
  | zero => intro h f _; rfl
  | succ k ih =>
    intro h f hk
    rw [hRun, ih (h + 1) _ (by omega), stp_out M hv hu (by omega) hp]
theorem uRun_out (M : Nat → Int32) {v p : Nat} (hv : v < 12) (hp : p < 7200 * v ∨ 7200 * v + 7200 ≤ p) : ∀ (k u : Nat) (f : Nat → Int32), u + k ≤ 40 → uRun M v k u f p = f p := by
  intro k
  induction k with
  | zero => intro u f _; rfl
  | succ k ih =>
    intro u f hk
    rw [uRun, ih (u + 1) _ (by omega), hRun_out M hv (by omega) hp 20 0 f (by omega)]
theorem layV_out (M : Nat → Int32) {v p : Nat} (hv : v < 12) (hp : p < 7200 * v ∨ 7200 * v + 7200 ≤ p) (f : Nat → Int32) : layV M v f p = f p := by
  unfold layV
  rw [uRun_out M hv hp 40 0 _ (by omega)]
  unfold zr
  rw [if_neg (by omega)]
/-- the model's store of pictures is right where it says so; the marks are bytes -/
def Cache (A6 : Nat → Nat → Int32) : Prop :=
  (∀ k, vp_nar .byte (A6 0 k) = A6 0 k) ∧ ∀ v, v < 12 → (A6 2 v = 0 ∨ ∀ c r, c < 360 → r < 20 → A6 1 (7200 * v + 20 * c + r) = pic (A6 0) v c r)
/-- colourIn: the picture; only the store changes -/
theorem ci_spec {A6 : Nat → Nat → Int32} (h : Cache A6) {v c r : Nat} (hv : v < 12) (hc : c < 360) (hr : r < 20) : ∃ B6, F_X6_colourIn A6 (nI v) (nI (20 * c + r)) = some (pic (A6 0) v c r, B6) ∧ Cache B6 ∧ ∀ j, j ≠ 1 → j ≠ 2 → B6 j = A6 j := by
  by_cases c0 : A6 2 v = 0
  · obtain ⟨B6, f1, f2, f3, f4⟩ := ci_new (p := 20 * c + r) hv (by omega) h.1 c0
    rw [show 7200 * v + (20 * c + r) = 7200 * v + 20 * c + r by omega, layV_at _ hv hc hr] at f1
    have e0 : B6 0 = A6 0 := f4 0 (by omega) (by omega)
    refine ⟨B6, f1, ⟨by rw [e0]; exact h.1, fun w hw => ?_⟩, f4⟩
    rw [f2, f3, e0, upd_at]
    by_cases ew : w = v
    · subst ew
      exact Or.inr fun c r hc hr => layV_at _ hw hc hr _
    · rw [if_neg ew]
      rcases h.2 w hw with g | g
      · exact Or.inl g
      · refine Or.inr fun c r hc hr => ?_
        rw [layV_out _ hv (by omega)]
        exact g c r hc hr
  · rcases h.2 v hv with g | g
    · exact absurd g c0
    · exact ⟨A6, by rw [ci_old hv (by omega) c0, show 7200 * v + (20 * c + r) = 7200 * v + 20 * c + r by omega, g c r hc hr], h, fun _ _ _ => rfl⟩
end
section
/-! the model's viewAt -/
def awW (v c : Nat) : Int32 := if 0 ≤ ((30 * nI v) - nI c) then ((30 * nI v) - nI c) else 0 - ((30 * nI v) - nI c)
def awI (v c : Nat) : Int32 := if (360 - awW v c) < awW v c then (360 - awW v c) else awW v c
def vLoop (M : Nat → Int32) (c r : Nat) : Nat → Nat → Int32 → Int32 → Int32
  | 0, _, b, _ => b
  | k + 1, v, b, l => if pic M v c r = 0 then vLoop M c r k (v + 1) b l else if b = -1 then vLoop M c r k (v + 1) (nI v) (awI v c) else if awI v c < l then vLoop M c r k (v + 1) (nI v) (awI v c) else vLoop M c r k (v + 1) b l
def viewOf (M : Nat → Int32) (c r : Nat) : Int32 := vLoop M c r 12 0 (-1) 0
theorem mv_loop {J : Int32 → (Nat → Nat → Int32) → Option (Int32 × (Nat → Nat → Int32))} {M : Nat → Int32} {c r : Nat} (hc : c < 360) (hr : r < 20) :
    ∀ (k v n : Nat) (b l : Int32) (A6 : Nat → Nat → Int32), v + k = 12 → k + 1 ≤ n → Cache A6 → A6 0 = M → ∃ B6, L_X6_viewAt_7 J n (nI (20 * c + r)) b l (nI v) A6 = J (vLoop M c r k v b l) B6 ∧ Cache B6 ∧ ∀ j, j ≠ 1 → j ≠ 2 → B6 j = A6 j := by
  have ed : nI (20 * c + r) / 20 = nI c := by rw [show (20 : Int32) = nI 20 from rfl, pk_div (by omega) (by decide) (by decide)]; congr 1; omega
  intro k
  induction k with
  | zero =>
    intro v n b l A6 h1 h2 hC hM
    obtain ⟨n, rfl⟩ : ∃ k, n = k + 1 := ⟨n - 1, by omega⟩
    refine ⟨A6, ?_, hC, fun _ _ _ => rfl⟩
    rw [L_X6_viewAt_7.eq_2, nm_eq, nm_eq, if_pos (by rw [show (12 : Int32) = nI 12 from rfl, nI_leI (by decide) (by omega)]; omega)]
    rfl
  | succ k ih =>
    intro v n b l A6 h1 h2 hC hM
    obtain ⟨n, rfl⟩ : ∃ k, n = k + 1 := ⟨n - 1, by omega⟩
    obtain ⟨C6, f1, f2, f3⟩ := ci_spec hC (v := v) (by omega) hc hr
    have e0 : C6 0 = M := by rw [f3 0 (by omega) (by omega), hM]
    rw [L_X6_viewAt_7.eq_2, nm_eq, nm_eq, if_neg (by rw [show (12 : Int32) = nI 12 from rfl, nI_leI (by decide) (by omega)]; omega), f1, bd_some, hM]
    have go : ∀ b l, ∃ B6, L_X6_viewAt_7 J n (nI (20 * c + r)) b l (nI (v + 1)) C6 = J (vLoop M c r k (v + 1) b l) B6 ∧ Cache B6 ∧ ∀ j, j ≠ 1 → j ≠ 2 → B6 j = A6 j := by
      intro b l
      obtain ⟨B6, g1, g2, g3⟩ := ih (v + 1) n b l C6 (by omega) (by omega) f2 e0
      exact ⟨B6, g1, g2, fun j a b => by rw [g3 j a b, f3 j a b]⟩
    rw [vLoop]
    by_cases c0 : pic M v c r = 0
    · rw [if_pos c0, if_pos c0]
      show ∃ B6, L_X6_viewAt_7 J n (nI (20 * c + r)) b l (nI v + 1) C6 = _ ∧ _
      rw [nI_1]
      exact go b l
    · rw [if_neg c0, if_neg c0, ed, nm_eq, nm_eq]
      by_cases c1 : b = -1
      · rw [if_pos c1, if_pos c1]
        show ∃ B6, L_X6_viewAt_7 J n (nI (20 * c + r)) (nI v) (awI v c) (nI v + 1) C6 = _ ∧ _
        rw [nI_1]
        exact go _ _
      · rw [if_neg c1, if_neg c1]
        by_cases c2 : awI v c < l
        · rw [if_pos c2]
          have c3 : (if (360 - awW v c) < awW v c then (360 - awW v c) else awW v c) < l := c2
          unfold awW at c3
          rw [if_pos c3]
          show ∃ B6, L_X6_viewAt_7 J n (nI (20 * c + r)) (nI v) (awI v c) (nI v + 1) C6 = _ ∧ _
          rw [nI_1]
          exact go _ _
        · rw [if_neg c2]
          have c3 : ¬ (if (360 - awW v c) < awW v c then (360 - awW v c) else awW v c) < l := c2
          unfold awW at c3
          rw [if_neg c3]
          show ∃ B6, L_X6_viewAt_7 J n (nI (20 * c + r)) b l (nI v + 1) C6 = _ ∧ _
          rw [nI_1]
          exact go _ _
theorem mv_spec {A6 : Nat → Nat → Int32} (h : Cache A6) {c r : Nat} (hc : c < 360) (hr : r < 20) : ∃ B6, F_X6_viewAt A6 (nI (20 * c + r)) = some (viewOf (A6 0) c r, B6) ∧ Cache B6 ∧ ∀ j, j ≠ 1 → j ≠ 2 → B6 j = A6 j := by
  obtain ⟨B6, g1, g2, g3⟩ := mv_loop (J := fun (x2 : Int32) (A6 : Nat → Nat → Int32) => some (x2, A6)) hc hr 12 0 FU (-1) 0 A6 (by omega) (by unfold FU; omega) h rfl
  exact ⟨B6, g1, g2, g3⟩
/-- the same from the other end -/
theorem hV_last (M : Nat → Int32) (v u c r : Nat) : ∀ (k h : Nat) (a : Int32), hV M v u c r (k + 1) h a = if colN v u = c ∧ rowN u (h + k) = r ∧ M (mkN v u (h + k)) ≠ 0 then M (mkN v u (h + k)) else hV M v u c r k h a := by
  intro k
  induction k with
  | zero => intro h a; rfl
  | succ k ih =>
    intro h a
    rw [hV, ih (h + 1), show h + 1 + k = h + (k + 1) by omega]
    rfl
theorem uV_last (M : Nat → Int32) (v c r : Nat) : ∀ (k u : Nat) (a : Int32), uV M v c r (k + 1) u a = hV M v (u + k) c r 20 0 (uV M v c r k u a) := by
  intro k
  induction k with
  | zero => intro u a; rfl
  | succ k ih =>
    intro u a
    rw [uV, ih (u + 1), show u + 1 + k = u + (k + 1) by omega]
    rfl
/-- a strip that doesn't stand in the column changes nothing -/
theorem hV_other (M : Nat → Int32) {v u c r : Nat} (h : colN v u ≠ c) : ∀ (k i : Nat) (a : Int32), hV M v u c r k i a = a := by
  intro k
  induction k with
  | zero => intro i a; rfl
  | succ k ih => intro i a; rw [hV, ih, if_neg (fun q => h q.1)]
/-- what a strip has in a row, 0 if nothing -/
def strip (M : Nat → Int32) (v u r : Nat) : Nat → Int32
  | 0 => 0
  | k + 1 => if rowN u k = r ∧ M (mkN v u k) ≠ 0 then M (mkN v u k) else strip M v u r k
theorem hV_strip (M : Nat → Int32) {v u c r : Nat} (h : colN v u = c) : ∀ (k : Nat) (a : Int32), hV M v u c r k 0 a = if strip M v u r k = 0 then a else strip M v u r k := by
  intro k
  induction k with
  | zero => intro a; rfl
  | succ k ih =>
    intro a
    rw [hV_last, Nat.zero_add, strip]
    by_cases e : rowN u k = r ∧ M (mkN v u k) ≠ 0
    · rw [if_pos ⟨h, e⟩, if_pos e, if_neg e.2]
    · rw [if_neg (fun q => e q.2), if_neg e]; exact ih a
/-! the class's strip -/
def stN (u : Nat) : Nat := 1000 + (((u : Int) - 20) * ((u : Int) - 20)).toNat
def hiN (u r : Nat) : Nat := min (((r + 1) * stN u - 1) / 1000) 19
theorem st_both : ∀ u, u < 40 → F_X4_stretchOf (nI u) = some (nI (stN u)) ∧ stN u ≤ 1400 := by decide +kernel
theorem hi_both : ∀ u, u < 40 → ∀ r, r < 20 → (if 19 < ((((nI r + 1) * nI (stN u)) - 1) / 1000) then (19 : Int32) else ((((nI r + 1) * nI (stN u)) - 1) / 1000)) = nI (hiN u r) ∧ hiN u r < 20 := by decide +kernel
theorem row_above : ∀ u, u < 40 → ∀ r, r < 20 → ∀ h, h < 20 → hiN u r < h → rowN u h ≠ r := by decide +kernel
theorem row_in : ∀ u, u < 40 → ∀ r, r < 20 → ∀ h, h < 20 → h ≤ hiN u r → ¬ h * 1000 < r * stN u → rowN u h = r := by decide +kernel
theorem row_below : ∀ u, u < 40 → ∀ r, r < 20 → ∀ h, h < 20 → h * 1000 < r * stN u → rowN u h ≠ r := by decide +kernel
theorem strip_zero (M : Nat → Int32) {v u r : Nat} : ∀ m : Nat, (∀ k, k < m → rowN u k ≠ r) → strip M v u r m = 0 := by
  intro m
  induction m with
  | zero => intro _; rfl
  | succ m ih =>
    intro h
    rw [strip, if_neg (fun q => h m (by omega) q.1)]
    exact ih (fun k hk => h k (by omega))
theorem strip_top (M : Nat → Int32) {v u r : Nat} (hu : u < 40) (hr : r < 20) : ∀ d : Nat, hiN u r + 1 + d ≤ 20 → strip M v u r (hiN u r + 1 + d) = strip M v u r (hiN u r + 1) := by
  intro d
  induction d with
  | zero => intro _; rfl
  | succ d ih =>
    intro h
    rw [show hiN u r + 1 + (d + 1) = (hiN u r + 1 + d) + 1 by omega, strip, if_neg (fun q => row_above u hu r hr (hiN u r + 1 + d) (by omega) (by omega) q.1)]
    exact ih (by omega)
theorem pim_nI (v u h : Nat) : F_X4_placeInMarks (nI v) (nI u) (nI h) = some (nI (mkN v u h)) := by
  unfold F_X4_placeInMarks
  rw [mk_nI]
theorem isMark_nI {v u h : Nat} (hv : v < 12) (hu : u < 40) (hh : h < 20) : F_X4_isMark (nI v) (nI u) (nI h) = some 1 := by
  unfold F_X4_isMark
  rw [if_neg (nI_pos (by omega)), if_neg (by rw [show (12 : Int32) = nI 12 from rfl, nI_leI (by decide) (by omega)]; omega), if_neg (nI_pos (by omega)), if_neg (by rw [show (40 : Int32) = nI 40 from rfl, nI_leI (by decide) (by omega)]; omega), if_neg (nI_pos (by omega)), if_neg (by rw [show (20 : Int32) = nI 20 from rfl, nI_leI (by decide) (by omega)]; omega)]
set_option maxRecDepth 40000 in
theorem cs_loop {A4 : Nat → Nat → Int32} {v u r : Nat} (hv : v < 12) (hu : u < 40) (hr : r < 20) : ∀ (h n : Nat), h ≤ hiN u r → h + 2 ≤ n → L_X4_colourInStrip_29 A4 (some 0) n (nI v) (nI u) (nI r) (nI (stN u)) (nI h) = some (strip (A4 0) v u r (h + 1)) := by
  have hhi := (hi_both u hu r hr).2
  have hst := (st_both u hu).2
  have h10 : ¬ (1 : Int32) = 0 := by decide
  obtain ⟨B, eB⟩ : ∃ B, B = r * stN u := ⟨_, rfl⟩
  have hb : B ≤ 28000 := by rw [eB]; exact Nat.mul_le_mul (Nat.le_of_lt hr) hst
  have rb : ∀ h, h < 20 → h * 1000 < B → rowN u h ≠ r := fun h h1 h2 => row_below u hu r hr h h1 (by rw [← eB]; exact h2)
  have ri : ∀ h, h < 20 → h ≤ hiN u r → ¬ h * 1000 < B → rowN u h = r := fun h h1 h2 h3 => row_in u hu r hr h h1 h2 (by rw [← eB]; exact h3)
  intro h
  induction h with
  | zero =>
    intro n h1 h2
    obtain ⟨n, rfl⟩ : ∃ k, n = k + 1 := ⟨n - 1, by omega⟩
    obtain ⟨n, rfl⟩ : ∃ k, n = k + 1 := ⟨n - 1, by omega⟩
    rw [L_X4_colourInStrip_29.eq_2, nm_eq, if_neg (nI_pos (by omega)), show (1000 : Int32) = nI 1000 from rfl, pk_mul, pk_mul, ← eB]
    by_cases c : 0 * 1000 < B
    · rw [if_pos (nI_lt c (by omega))]
      rw [strip_zero]
      intro k hk
      have : k = 0 := by omega
      subst this
      exact rb 0 (by omega) c
    · rw [if_neg (nI_nlt (by omega) (by omega)), isMark_nI hv hu (by omega), bd_some, if_neg h10, pim_nI, bd_some, ix_nI (by unfold mkN; omega) (by decide), nI_clamp (by unfold mkN; omega)]
      rw [strip]
      by_cases c2 : A4 0 (mkN v u 0) = 0
      · rw [if_pos c2, if_neg (fun q => q.2 c2)]
        show L_X4_colourInStrip_29 A4 (some 0) (n + 1) (nI v) (nI u) (nI r) (nI (stN u)) (nI 0 + (-1)) = _
        rw [L_X4_colourInStrip_29.eq_2, nm_eq, if_pos (show nI 0 + (-1) < 0 by decide)]
        rfl
      · rw [if_neg c2, bd_some, ix_nI (by unfold mkN; omega) (by decide), nI_clamp (by unfold mkN; omega), if_pos ⟨ri 0 (by omega) h1 c, c2⟩]
  | succ h ih =>
    intro n h1 h2
    obtain ⟨n, rfl⟩ : ∃ k, n = k + 1 := ⟨n - 1, by omega⟩
    rw [L_X4_colourInStrip_29.eq_2, nm_eq, if_neg (nI_pos (by omega)), show (1000 : Int32) = nI 1000 from rfl, pk_mul, pk_mul, ← eB]
    by_cases c : (h + 1) * 1000 < B
    · rw [if_pos (nI_lt c (by omega))]
      rw [strip_zero]
      intro k hk
      exact rb k (by omega) (by omega)
    · rw [if_neg (nI_nlt (by omega) (by omega)), isMark_nI hv hu (by omega), bd_some, if_neg h10, pim_nI, bd_some, ix_nI (by unfold mkN; omega) (by decide), nI_clamp (by unfold mkN; omega)]
      rw [strip]
      by_cases c2 : A4 0 (mkN v u (h + 1)) = 0
      · rw [if_pos c2, if_neg (fun q => q.2 c2)]
        show L_X4_colourInStrip_29 A4 (some 0) n (nI v) (nI u) (nI r) (nI (stN u)) (nI (h + 1) + (-1)) = _
        rw [pk_m1]
        exact ih n (by omega) (by omega)
      · rw [if_neg c2, bd_some, ix_nI (by unfold mkN; omega) (by decide), nI_clamp (by unfold mkN; omega), if_pos ⟨ri (h + 1) (by omega) h1 c, c2⟩]
theorem cs_spec {A4 : Nat → Nat → Int32} {v u r : Nat} (hv : v < 12) (hu : u < 40) (hr : r < 20) : F_X4_colourInStrip A4 (nI v) (nI u) (nI r) = some (strip (A4 0) v u r 20) := by
  unfold F_X4_colourInStrip
  obtain ⟨e1, e2⟩ := hi_both u hu r hr
  rw [nm_eq, (st_both u hu).1, bd_some, e1, nm_eq, cs_loop hv hu hr (hiN u r) FU (by omega) (by unfold FU; omega), ← strip_top (A4 0) hu hr (19 - hiN u r) (by omega), show hiN u r + 1 + (19 - hiN u r) = 20 by omega]
theorem uV_skip (M : Nat → Int32) {v c r : Nat} : ∀ (k u : Nat) (a : Int32), (∀ i, u ≤ i → i < u + k → colN v i ≠ c) → uV M v c r k u a = a := by
  intro k
  induction k with
  | zero => intro u a _; rfl
  | succ k ih => intro u a h; rw [uV, hV_other M (h u (by omega) (by omega)), ih (u + 1) a (fun i h1 h2 => h i (by omega) (by omega))]
theorem uV_split (M : Nat → Int32) (v c r : Nat) : ∀ (k1 k2 u : Nat) (a : Int32), uV M v c r (k1 + k2) u a = uV M v c r k2 (u + k1) (uV M v c r k1 u a) := by
  intro k1
  induction k1 with
  | zero => intro k2 u a; rw [Nat.zero_add]; rfl
  | succ k1 ih => intro k2 u a; rw [show k1 + 1 + k2 = (k1 + k2) + 1 by omega, uV, ih, uV, show u + 1 + k1 = u + (k1 + 1) by omega]
def offN (v c : Nat) : Nat := (c + 540 - 30 * v) % 360
theorem off_both : ∀ v, v < 12 → ∀ c, c < 360 → F_J9_floorMod_7cf53 ((nI c - (30 * nI v)) + 180) 360 = some (nI (offN v c)) := by decide +kernel
theorem off_out : ∀ v, v < 12 → ∀ c, c < 360 → (offN v c < 161 ∨ 198 < offN v c) → ∀ u, u < 40 → colN v u ≠ c := by decide +kernel
theorem off_far : ∀ v, v < 12 → ∀ c, c < 360 → (161 ≤ offN v c ∧ offN v c ≤ 198) → ∀ u, u < 40 → (u + 161 < offN v c ∨ offN v c + 1 < u + 160) → colN v u ≠ c := by decide +kernel
end
