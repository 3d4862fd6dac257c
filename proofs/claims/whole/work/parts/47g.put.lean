/-! put, square -/
theorem gang_both {S2 : Nat → Int32} {g : Nat} (e : S2 10 = nI g) (hg : g ≤ 6) (p : Int32) : (∃ i, i < g ∧ p = nI i ∧ F_X2_isGang S2 p = some 1 ∧ F_X6_isIn p 0 (nI g - 1) = some 1) ∨ (F_X2_isGang S2 p = some 0 ∧ F_X6_isIn p 0 (nI g - 1) = some 0) := by
  unfold F_X2_isGang F_X6_isIn
  rw [e]
  by_cases c1 : p < 0
  · rw [if_pos c1, if_pos c1]; exact Or.inr ⟨rfl, rfl⟩
  rw [if_neg c1, if_neg c1]
  obtain ⟨i, hi, rfl⟩ := nI_of c1
  have e1 : (nI g - 1).toInt = (g : Int) - 1 := by rw [show (1 : Int32) = nI 1 from rfl, pk_sub_toInt (by omega) (by decide)]; rfl
  by_cases c2 : i < g
  · rw [if_neg (nI_ge c2 (by omega)), show (6 : Int32) = nI 6 from rfl, if_neg (nI_ge (by omega) (by decide)), if_neg (by rw [i_lt, e1, nI_toInt hi]; omega)]
    exact Or.inl ⟨i, c2, rfl, rfl, rfl⟩
  · rw [if_pos (nI_le (by omega) hi), if_pos (by rw [i_lt, e1, nI_toInt hi]; omega)]
    exact Or.inr ⟨rfl, rfl⟩
theorem square_both (p : Int32) : (∃ q, q < 72 ∧ p = nI q ∧ F_X5_isSquare p = some 1 ∧ F_X6_isSquare p = some 1) ∨ (F_X5_isSquare p = some 0 ∧ F_X6_isSquare p = some 0) := by
  unfold F_X5_isSquare F_X6_isSquare
  rcases isIn_N p 72 (by decide) (by decide) with ⟨v, hv, e1, f1, a1, b1⟩ | ⟨f1, ab1⟩
  · rw [show (71 : Int32) = nI (72 - 1) from rfl, f1, bd_some, if_neg a1, if_neg (show ¬ (72 : Int32) ≤ p from b1)]
    exact Or.inl ⟨v, hv, e1, rfl, rfl⟩
  · rw [show (71 : Int32) = nI (72 - 1) from rfl, f1, bd_some]
    refine Or.inr ⟨?_, rfl⟩
    by_cases c : p < 0
    · rw [if_pos c]
    · rw [if_neg c, if_pos (show (72 : Int32) ≤ p from ab1.elim (fun h => absurd h c) id)]
def putX (A2 : Nat → Nat → Int32) (i q : Nat) (W : Int32) : Nat → Nat → Int32 := va_up (va_up (va_up A2 5 (upd (A2 5) q W)) 4 (upd (A2 4) q (nI i))) 2 (upd (A2 2) i (nI q))
def putM (A6 : Nat → Nat → Int32) (i q : Nat) (W : Int32) : Nat → Nat → Int32 := va_up (va_up (va_up A6 9 (upd (A6 9) q W)) 8 (upd (A6 8) q (nI i))) 6 (upd (A6 6) i (nI q))
theorem put_rel {A2 A6 : Nat → Nat → Int32} {g d i q : Nat} {W : Int32} (hs : ∀ k, 1 ≤ k → k ≤ 8 → A2 k = A6 (k + 4)) (hI : PaI g d A2) (hi : i < g) (hq : q < 72) (h4 : A2 4 q = -1) (h3 : (A2 3 q).toInt ≤ 1) :
    (∀ k, 1 ≤ k → k ≤ 8 → putX A2 i q W k = putM A6 i q W (k + 4)) ∧ PaI g d (putX A2 i q W) ∧ ∀ j, (j < 6 ∨ 9 < j) → putM A6 i q W j = A6 j := by
  refine ⟨fun k a b => ?_, ?_, fun j hj => ?_⟩
  · unfold putX putM
    simp only [upA_at]
    by_cases k2 : k = 2
    · rw [if_pos k2, if_pos (show k + 4 = 6 by omega), hs 2 (by omega) (by omega)]
    rw [if_neg k2, if_neg (show ¬ k + 4 = 6 by omega)]
    by_cases k4 : k = 4
    · rw [if_pos k4, if_pos (show k + 4 = 8 by omega), hs 4 (by omega) (by omega)]
    rw [if_neg k4, if_neg (show ¬ k + 4 = 8 by omega)]
    by_cases k5 : k = 5
    · rw [if_pos k5, if_pos (show k + 4 = 9 by omega), hs 5 (by omega) (by omega)]
    rw [if_neg k5, if_neg (show ¬ k + 4 = 9 by omega)]
    exact hs k a b
  · obtain ⟨a1, a2, a3, a4, a5, a6⟩ := hI
    refine ⟨a1, a2, a3, ?_, a5, a6⟩
    intro x hx
    show upd (A2 2) i (nI q) x = -1 ∨ ∃ q', q' < 72 ∧ upd (A2 2) i (nI q) x = nI q' ∧ x < g ∧ upd (A2 4) q (nI i) q' = nI x ∧ (A2 3 q').toInt ≤ 1
    rw [upd_at]
    by_cases e : x = i
    · rw [if_pos e]
      exact Or.inr ⟨q, hq, rfl, by omega, by rw [upd_at, if_pos rfl, e], h3⟩
    · rw [if_neg e]
      rcases a4 x hx with b | ⟨q', b1, b2, b3, b4, b5⟩
      · exact Or.inl b
      · have hne : q' ≠ q := by
          intro z
          subst z
          rw [h4] at b4
          have := i_eq.mp b4
          rw [nI_toInt (by omega)] at this
          have e2 : (-1 : Int32).toInt = -1 := rfl
          omega
        exact Or.inr ⟨q', b1, b2, b3, by rw [upd_at, if_neg hne]; exact b4, b5⟩
  · unfold putM
    rw [upA_at, if_neg (by omega), upA_at, if_neg (by omega), upA_at, if_neg (by omega)]
theorem half_both (w : Int32) : (if w < 1 then 1 else w) = (if (1 : Int32) < w then w else 1) := by
  by_cases c1 : w < 1
  · rw [if_pos c1, if_neg]
    rw [i_lt] at c1 ⊢
    omega
  · rw [if_neg c1]
    by_cases c2 : 1 < w
    · rw [if_pos c2]
    · rw [if_neg c2, i_eq]
      rw [i_lt] at c1 c2
      omega
theorem fw_spec {A4 A6 : Nat → Nat → Int32} (h : RRd A4 A6) {q : Nat} (hq : q < 72) : F_X2_firstCoatWork A4 (nI q) = some (3 + sq (A6 0) q) := by
  unfold F_X2_firstCoatWork F_X4_colouredIn F_X5_isSquare
  rw [if_neg (nI_pos (by omega)), show (72 : Int32) = nI 72 from rfl, if_neg (nI_ge hq (by decide)), bd_some, if_neg (by decide), ix_nI hq (by decide), nI_clamp (by omega), bd_some, h.2.2 q hq, h.1]
theorem pa_put {S2 S6 : Nat → Int32} {A2 A4 A6 : Nat → Nat → Int32} (hR : RRd A4 A6) (hP : RPa S2 A2 S6 A6) (p1 p2 : Int32) :
    ∃ r A2' A6', F_X5_put S2 A2 A4 p1 p2 = some (r, A2') ∧ F_X6_put S6 A6 p1 p2 = some (r, A6') ∧ RRd A4 A6' ∧ RPa S2 A2' S6 A6' ∧ ∀ j, 12 < j → A6' j = A6 j := by
  have h10 : ¬ (1 : Int32) = 0 := by decide
  obtain ⟨hs, g, d, e1, e2, e3, e4, hI⟩ := id hP
  have hg := hI.1
  have hd := hI.2.1
  unfold F_X5_put F_X2_beginCoat F_X6_put
  simp only [nm_eq]
  rw [e2]
  rcases gang_both e1 hg p1 with ⟨i, hi, rfl, f1, f2⟩ | ⟨f1, f2⟩
  rotate_left
  · rw [f1, f2, bd_some, bd_some, if_pos rfl, if_pos rfl]
    exact ⟨_, A2, A6, rfl, rfl, hR, hP, fun _ _ => rfl⟩
  rw [f1, f2, bd_some, bd_some, if_neg h10, if_neg h10]
  rcases square_both p2 with ⟨q, hq, rfl, f3, f4⟩ | ⟨f3, f4⟩
  rotate_left
  · rw [f3, f4, bd_some, bd_some, if_pos rfl, if_pos rfl]
    exact ⟨_, A2, A6, rfl, rfl, hR, hP, fun _ _ => rfl⟩
  have hci : (nI i).toNatClampNeg = i := nI_clamp (by omega)
  have hcq : (nI q).toNatClampNeg = q := nI_clamp (by omega)
  rw [f3, f4, bd_some, bd_some, if_neg h10, if_neg h10]
  simp only [ix_nI (show i < 6 by omega) (show 6 < 2 ^ 31 by decide), ix_nI hq (show 72 < 2 ^ 31 by decide), hci, hcq]
  have x6 : A6 6 = A2 2 := (hs 2 (by omega) (by omega)).symm
  have x7 : A6 7 = A2 3 := (hs 3 (by omega) (by omega)).symm
  have x8 : A6 8 = A2 4 := (hs 4 (by omega) (by omega)).symm
  have x10 : A6 10 = A2 6 := (hs 6 (by omega) (by omega)).symm
  simp only [x6, x7, x8, x10, e3, e4]
  by_cases c1 : A2 2 i = -1
  rotate_left
  · rw [if_neg c1, if_neg c1]
    exact ⟨_, A2, A6, rfl, rfl, hR, hP, fun _ _ => rfl⟩
  rw [if_pos c1, if_pos c1]
  have hc3 := hI.2.2.2.2.1 q hq
  have l1 : (1 : Int32).toInt = 1 := rfl
  have l2 : (2 : Int32).toInt = 2 := rfl
  have l3 : (3 : Int32).toInt = 3 := rfl
  have hv : (A2 3 q + 1).toInt = (A2 3 q).toInt + 1 := by rw [i_add (by omega) (by omega), l1]
  by_cases c2 : A2 3 q = 2
  · have k2 : ¬ A2 3 q + 1 ≤ 2 := by rw [c2]; decide
    rw [if_neg k2, if_pos c2]
    exact ⟨_, A2, A6, rfl, rfl, hR, hP, fun _ _ => rfl⟩
  have c2' : (A2 3 q).toInt ≤ 1 := by rw [i_eq] at c2; omega
  rw [if_pos (by rw [i_le, hv]; omega), if_neg c2]
  by_cases c3 : A2 4 q = -1
  rotate_left
  · rw [if_neg c3, if_neg c3]
    exact ⟨_, A2, A6, rfl, rfl, hR, hP, fun _ _ => rfl⟩
  rw [if_pos c3, if_pos c3]
  -- what is left once it is dry
  have tail : ∃ r A2' A6', (if (36 : Int32) ≤ nI q then bd (F_X2_firstCoatWork A4 (nI q)) fun z_7 => if A2 3 q + 1 = 1 then some (A2 3 q + 1, putX A2 i q z_7) else some (A2 3 q + 1, putX A2 i q (if z_7 / 2 < 1 then 1 else z_7 / 2)) else ix (nI q + 36) 72 (if A2 3 q + 1 ≤ A2 3 (nI q + 36).toNatClampNeg then bd (F_X2_firstCoatWork A4 (nI q)) fun z_7 => if A2 3 q + 1 = 1 then some (A2 3 q + 1, putX A2 i q z_7) else some (A2 3 q + 1, putX A2 i q (if z_7 / 2 < 1 then 1 else z_7 / 2)) else some (-7, A2))) = some (r, A2') ∧
      (if (36 : Int32) ≤ nI q then bd (F_X6_work A6 (nI q)) fun z_7 => if A2 3 q + 1 = 1 then some (A2 3 q + 1, putM z_7.2 i q z_7.1) else some (A2 3 q + 1, putM z_7.2 i q (if (1 : Int32) < z_7.1 / 2 then z_7.1 / 2 else 1)) else ix (36 + nI q) 72 (if A2 3 q + 1 ≤ A2 3 (36 + nI q).toNatClampNeg then bd (F_X6_work A6 (nI q)) fun z_7 => if A2 3 q + 1 = 1 then some (A2 3 q + 1, putM z_7.2 i q z_7.1) else some (A2 3 q + 1, putM z_7.2 i q (if (1 : Int32) < z_7.1 / 2 then z_7.1 / 2 else 1)) else some (-7, A6))) = some (r, A6') ∧ RRd A4 A6' ∧ RPa S2 A2' S6 A6' ∧ ∀ j, 12 < j → A6' j = A6 j := by
    obtain ⟨B6, w1, w2, w3⟩ := wk_spec hR.2.1 hq
    have hB := hR.seen w2 w3
    have hsB : ∀ k, 1 ≤ k → k ≤ 8 → A2 k = B6 (k + 4) := fun k a b => by rw [w3 (k + 4) (by omega) (by omega)]; exact hs k a b
    rw [fw_spec hR hq, w1, bd_some, bd_some, half_both]
    have fin : ∀ W : Int32, RRd A4 (putM B6 i q W) ∧ RPa S2 (putX A2 i q W) S6 (putM B6 i q W) ∧ ∀ j, 12 < j → putM B6 i q W j = A6 j := by
      intro W
      obtain ⟨r1, r2, r3⟩ := put_rel (W := W) hsB hI hi hq c3 c2'
      exact ⟨hB.congr (fun j hj => r3 j (by omega)), ⟨r1, g, d, e1, e2, e3, e4, r2⟩, fun j hj => by rw [r3 j (by omega), w3 j (by omega) (by omega)]⟩
    have fin2 : ∃ r A2' A6', (if A2 3 q + 1 = 1 then some (A2 3 q + 1, putX A2 i q (3 + sq (A6 0) q)) else some (A2 3 q + 1, putX A2 i q (if (1 : Int32) < (3 + sq (A6 0) q) / 2 then (3 + sq (A6 0) q) / 2 else 1))) = some (r, A2') ∧ (if A2 3 q + 1 = 1 then some (A2 3 q + 1, putM B6 i q (3 + sq (A6 0) q)) else some (A2 3 q + 1, putM B6 i q (if (1 : Int32) < (3 + sq (A6 0) q) / 2 then (3 + sq (A6 0) q) / 2 else 1))) = some (r, A6') ∧ RRd A4 A6' ∧ RPa S2 A2' S6 A6' ∧ ∀ j, 12 < j → A6' j = A6 j := by
      by_cases k : A2 3 q + 1 = 1
      · rw [if_pos k, if_pos k]; exact ⟨_, _, _, rfl, rfl, fin _⟩
      · rw [if_neg k, if_neg k]; exact ⟨_, _, _, rfl, rfl, fin _⟩
    by_cases c5 : q < 36
    · have e36 : nI q + 36 = nI (36 + q) := by rw [show (36 : Int32) = nI 36 from rfl, nI_add, Nat.add_comm]
      have f36 : 36 + nI q = nI (36 + q) := by rw [show (36 : Int32) = nI 36 from rfl, nI_add]
      have hn36 : ¬ (36 : Int32) ≤ nI q := by rw [show (36 : Int32) = nI 36 from rfl]; exact nI_ge c5 (by decide)
      rw [if_neg hn36, if_neg hn36, e36, f36, ix_nI (by omega) (by decide), ix_nI (by omega) (by decide)]
      by_cases c6 : A2 3 q + 1 ≤ A2 3 (nI (36 + q)).toNatClampNeg
      · rw [if_pos c6, if_pos c6]; exact fin2
      · rw [if_neg c6, if_neg c6]
        exact ⟨_, A2, A6, rfl, rfl, hR, hP, fun _ _ => rfl⟩
    · have hp36 : (36 : Int32) ≤ nI q := by rw [show (36 : Int32) = nI 36 from rfl]; exact nI_le (by omega) (by omega)
      rw [if_pos hp36, if_pos hp36]; exact fin2
  have tail2 : ∃ r A2' A6', (bd (if (36 : Int32) ≤ nI q then bd (F_X2_firstCoatWork A4 (nI q)) fun z_7 => if A2 3 q + 1 = 1 then some (A2 3 q + 1, putX A2 i q z_7) else some (A2 3 q + 1, putX A2 i q (if z_7 / 2 < 1 then 1 else z_7 / 2)) else ix (nI q + 36) 72 (if A2 3 q + 1 ≤ A2 3 (nI q + 36).toNatClampNeg then bd (F_X2_firstCoatWork A4 (nI q)) fun z_7 => if A2 3 q + 1 = 1 then some (A2 3 q + 1, putX A2 i q z_7) else some (A2 3 q + 1, putX A2 i q (if z_7 / 2 < 1 then 1 else z_7 / 2)) else some (-7, A2))) fun z_1 => some (z_1.1, z_1.2)) = some (r, A2') ∧
      (if (36 : Int32) ≤ nI q then bd (F_X6_work A6 (nI q)) fun z_7 => if A2 3 q + 1 = 1 then some (A2 3 q + 1, putM z_7.2 i q z_7.1) else some (A2 3 q + 1, putM z_7.2 i q (if (1 : Int32) < z_7.1 / 2 then z_7.1 / 2 else 1)) else ix (36 + nI q) 72 (if A2 3 q + 1 ≤ A2 3 (36 + nI q).toNatClampNeg then bd (F_X6_work A6 (nI q)) fun z_7 => if A2 3 q + 1 = 1 then some (A2 3 q + 1, putM z_7.2 i q z_7.1) else some (A2 3 q + 1, putM z_7.2 i q (if (1 : Int32) < z_7.1 / 2 then z_7.1 / 2 else 1)) else some (-7, A6))) = some (r, A6') ∧ RRd A4 A6' ∧ RPa S2 A2' S6 A6' ∧ ∀ j, 12 < j → A6' j = A6 j := by
    obtain ⟨r, A2', A6', t1, t2, t3⟩ := tail
    rw [t1, t2]
    exact ⟨r, A2', A6', rfl, rfl, t3⟩
  by_cases c4 : A2 3 q + 1 = 2
  · have hf := hI.2.2.2.2.2 q hq
    have h1 : (nI d - A2 6 q).toInt = (d : Int) - (A2 6 q).toInt := by rw [i_sub (by rw [nI_toInt (by omega)]; omega) (by rw [nI_toInt (by omega)]; omega), nI_toInt (by omega)]
    have h2 : (A2 6 q + 3).toInt = (A2 6 q).toInt + 3 := by rw [i_add (by omega) (by omega), l3]
    simp only [if_pos c4]
    by_cases c5 : 3 ≤ nI d - A2 6 q
    · have c6 : A2 6 q + 3 ≤ nI d := by
        rw [i_le, h2, nI_toInt (by omega)]
        rw [i_le, h1, l3] at c5
        omega
      rw [if_pos c5, if_pos c6]
      exact tail2
    · have c6 : ¬ A2 6 q + 3 ≤ nI d := by
        rw [i_le, h2, nI_toInt (by omega)]
        rw [i_le, h1, l3] at c5
        omega
      rw [if_neg c5, if_neg c6]
      exact ⟨_, A2, A6, rfl, rfl, hR, hP, fun _ _ => rfl⟩
  · simp only [if_neg c4]
    exact tail2
theorem pa_square {S2 S6 : Nat → Int32} {A2 A4 A6 : Nat → Nat → Int32} (hR : RRd A4 A6) (hP : RPa S2 A2 S6 A6) (p1 p2 : Int32) :
    ∃ r A6', F_X5_square A2 A4 p1 p2 = some r ∧ F_X6_square A6 p1 p2 = some (r, A6') ∧ RRd A4 A6' ∧ ∀ j, 2 < j → A6' j = A6 j := by
  have h10 : ¬ (1 : Int32) = 0 := by decide
  obtain ⟨hs, -⟩ := hP
  unfold F_X5_square F_X2_tellSquare F_X6_square
  rcases square_both p1 with ⟨q, hq, rfl, f3, f4⟩ | ⟨f3, f4⟩
  rotate_left
  · rw [f3, f4, bd_some, bd_some, if_pos rfl, if_pos rfl]
    exact ⟨_, A6, rfl, rfl, hR, fun _ _ => rfl⟩
  rw [f3, f4, bd_some, bd_some, if_neg h10, if_neg h10]
  simp only [ix_nI hq (show 72 < 2 ^ 31 by decide)]
  by_cases c0 : p2 = 0
  · obtain ⟨B6, w1, w2, w3⟩ := wk_spec hR.2.1 hq
    rw [if_pos c0, if_pos c0, fw_spec hR hq, bd_some, bd_some, w1, bd_some]
    exact ⟨_, B6, rfl, rfl, hR.seen w2 w3, fun j hj => w3 j (by omega) (by omega)⟩
  rw [if_neg c0, if_neg c0]
  rw [hs 3 (by omega) (by omega), hs 4 (by omega) (by omega), hs 5 (by omega) (by omega), hs 6 (by omega) (by omega), hs 7 (by omega) (by omega), hs 8 (by omega) (by omega)]
  by_cases c1 : p2 = 1
  · rw [if_pos c1, if_pos c1]; exact ⟨_, A6, rfl, rfl, hR, fun _ _ => rfl⟩
  rw [if_neg c1, if_neg c1]
  by_cases c2 : p2 = 2
  · rw [if_pos c2, if_pos c2]; exact ⟨_, A6, rfl, rfl, hR, fun _ _ => rfl⟩
  rw [if_neg c2, if_neg c2]
  by_cases c3 : p2 = 3
  · rw [if_pos c3, if_pos c3]; exact ⟨_, A6, rfl, rfl, hR, fun _ _ => rfl⟩
  rw [if_neg c3, if_neg c3]
  by_cases c4 : p2 = 4
  · rw [if_pos c4, if_pos c4]; exact ⟨_, A6, rfl, rfl, hR, fun _ _ => rfl⟩
  rw [if_neg c4, if_neg c4]
  by_cases c5 : p2 = 5
  · rw [if_pos c5, if_pos c5]; exact ⟨_, A6, rfl, rfl, hR, fun _ _ => rfl⟩
  rw [if_neg c5, if_neg c5]
  by_cases c6 : p2 = 6
  · rw [if_pos c6, if_pos c6]; exact ⟨_, A6, rfl, rfl, hR, fun _ _ => rfl⟩
  rw [if_neg c6, if_neg c6]
  exact ⟨_, A6, rfl, rfl, hR, fun _ _ => rfl⟩
