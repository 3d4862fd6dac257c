/-! room, crowd; marks, columns and rows; stands -/
theorem pl_room {n : Nat} {S3 : Nat → Int32} {A3 : Nat → Nat → Int32} {S6 : Nat → Int32} {A6 : Nat → Nat → Int32} (h : RPl n S3 A3 S6 A6) (p1 : Int32) :
    ∃ r S3' S6', F_X5_room S3 p1 = some (r, S3') ∧ F_X6_room S6 p1 = some (r, S6') ∧ RPl n S3' A3 S6' A6 ∧ ∀ q, q ≠ 35 → S6' q = S6 q := by
  unfold F_X5_room F_X3_setRoom F_X6_room
  rw [isIn_eq, bd_some]
  by_cases c1 : p1 < 1
  · rw [if_pos c1, if_pos (Or.inl c1), if_pos rfl, bd_some]
    exact ⟨_, _, _, rfl, rfl, h, fun _ _ => rfl⟩
  rw [if_neg c1]
  have e200 : (200 : Int32).toInt = 200 := rfl
  by_cases c2 : p1 ≤ 200
  · have c3 : ¬ (200 : Int32) < p1 := by rw [i_lt]; rw [i_le] at c2; omega
    have hnot : ¬ (p1 < 1 ∨ 200 < p1) := fun h => h.elim c1 c3
    rw [if_pos c2, if_neg hnot, if_neg (show ¬ (1 : Int32) = 0 by decide)]
    simp only [nm_eq, bd_some]
    refine ⟨1, upd S3 1 p1, upd S6 35 p1, rfl, rfl, ?_, fun q hq => by rw [upd_at, if_neg hq]⟩
    obtain ⟨g1, g2, g3, g4, g5, g6, g7⟩ := h
    exact ⟨rfl, g2, g3, g4, g5, g6, g7⟩
  · have c3 : (200 : Int32) < p1 := by rw [i_lt]; rw [i_le] at c2; omega
    rw [if_neg c2, if_pos (Or.inr c3), if_pos rfl, bd_some]
    exact ⟨_, _, _, rfl, rfl, h, fun _ _ => rfl⟩
theorem pl_crowd {n : Nat} {S3 : Nat → Int32} {A3 : Nat → Nat → Int32} {S6 : Nat → Int32} {A6 : Nat → Nat → Int32} (h : RPl n S3 A3 S6 A6) (p1 : Int32) : ∃ r, F_X5_crowd S3 p1 = some r ∧ F_X6_crowd S6 p1 = some r := by
  obtain ⟨g1, g2, g3, g4, g5, g6, g7⟩ := h
  unfold F_X5_crowd F_X3_tell F_X6_crowd
  by_cases c0 : p1 = 0
  · rw [if_pos c0, if_pos c0, bd_some, g2]; exact ⟨_, rfl, rfl⟩
  rw [if_neg c0, if_neg c0]
  by_cases c1 : p1 = 1
  · rw [if_pos c1, if_pos c1, bd_some, g3]; exact ⟨_, rfl, rfl⟩
  rw [if_neg c1, if_neg c1]
  by_cases c2 : p1 = 2
  · rw [if_pos c2, if_pos c2, bd_some, g4]; exact ⟨_, rfl, rfl⟩
  rw [if_neg c2, if_neg c2]
  by_cases c3 : p1 = 3
  · rw [if_pos c3, if_pos c3, bd_some, g5]; exact ⟨_, rfl, rfl⟩
  rw [if_neg c3, if_neg c3]
  by_cases c4 : p1 = 4
  · rw [if_pos c4, if_pos c4, bd_some, g6]; exact ⟨_, rfl, rfl⟩
  rw [if_neg c4, if_neg c4]
  by_cases c5 : p1 = 5
  · rw [if_pos c5, if_pos c5, bd_some, g1]; exact ⟨_, rfl, rfl⟩
  rw [if_neg c5, if_neg c5, bd_some]
  exact ⟨_, rfl, rfl⟩
/-- a mark by its numbers -/
theorem isIn_N (x : Int32) (N : Nat) (hN : N < 2 ^ 31) (h0 : 0 < N) : (∃ k : Nat, k < N ∧ x = nI k ∧ F_X6_isIn x 0 (nI (N - 1)) = some 1 ∧ ¬ x < 0 ∧ ¬ nI N ≤ x) ∨ (F_X6_isIn x 0 (nI (N - 1)) = some 0 ∧ (x < 0 ∨ nI N ≤ x)) := by
  rw [isIn_eq]
  by_cases c1 : x < 0
  · exact Or.inr ⟨by rw [if_pos (Or.inl c1)], Or.inl c1⟩
  obtain ⟨k, hk, rfl⟩ := nI_of c1
  by_cases c2 : k < N
  · have c3 : ¬ nI (N - 1) < nI k := by rw [nI_ltI (by omega) hk]; omega
    have c4 : ¬ nI N ≤ nI k := by rw [nI_leI hN hk]; omega
    exact Or.inl ⟨k, c2, rfl, by rw [if_neg (fun h => h.elim c1 c3)], c1, c4⟩
  · have c3 : nI (N - 1) < nI k := by rw [nI_ltI (by omega) hk]; omega
    have c4 : nI N ≤ nI k := by rw [nI_leI hN hk]; omega
    exact Or.inr ⟨by rw [if_pos (Or.inr c3)], Or.inr c4⟩
theorem isMark_both (p1 p2 p3 : Int32) : (∃ v u h : Nat, v < 12 ∧ u < 40 ∧ h < 20 ∧ p1 = nI v ∧ p2 = nI u ∧ p3 = nI h ∧ F_X4_isMark p1 p2 p3 = some 1 ∧ F_X6_isMark p1 p2 p3 = some 1) ∨ (F_X4_isMark p1 p2 p3 = some 0 ∧ F_X6_isMark p1 p2 p3 = some 0) := by
  unfold F_X4_isMark F_X6_isMark
  rcases isIn_N p1 12 (by decide) (by decide) with ⟨v, hv, e1, f1, a1, b1⟩ | ⟨f1, ab1⟩
  · rw [show (11 : Int32) = nI (12 - 1) from rfl, f1, bd_some, if_neg a1, if_neg (show ¬ (12 : Int32) ≤ p1 from b1), if_neg (show ¬ (1 : Int32) = 0 by decide)]
    rcases isIn_N p2 40 (by decide) (by decide) with ⟨u, hu, e2, f2, a2, b2⟩ | ⟨f2, ab2⟩
    · rw [show (39 : Int32) = nI (40 - 1) from rfl, f2, bd_some, if_neg a2, if_neg (show ¬ (40 : Int32) ≤ p2 from b2), if_neg (show ¬ (1 : Int32) = 0 by decide)]
      rcases isIn_N p3 20 (by decide) (by decide) with ⟨h, hh, e3, f3, a3, b3⟩ | ⟨f3, ab3⟩
      · rw [show (19 : Int32) = nI (20 - 1) from rfl, f3, bd_some, if_neg a3, if_neg (show ¬ (20 : Int32) ≤ p3 from b3), if_neg (show ¬ (1 : Int32) = 0 by decide)]
        exact Or.inl ⟨v, u, h, hv, hu, hh, e1, e2, e3, rfl, rfl⟩
      · rw [show (19 : Int32) = nI (20 - 1) from rfl, f3, bd_some, if_pos rfl]
        refine Or.inr ⟨?_, rfl⟩
        by_cases c : p3 < 0
        · rw [if_pos c]
        · rw [if_neg c, if_pos (show (20 : Int32) ≤ p3 from ab3.elim (fun h => absurd h c) id)]
    · rw [show (39 : Int32) = nI (40 - 1) from rfl, f2, bd_some, if_pos rfl]
      refine Or.inr ⟨?_, rfl⟩
      by_cases c : p2 < 0
      · rw [if_pos c]
      · rw [if_neg c, if_pos (show (40 : Int32) ≤ p2 from ab2.elim (fun h => absurd h c) id)]
  · rw [show (11 : Int32) = nI (12 - 1) from rfl, f1, bd_some, if_pos rfl]
    refine Or.inr ⟨?_, rfl⟩
    by_cases c : p1 < 0
    · rw [if_pos c]
    · rw [if_neg c, if_pos (show (12 : Int32) ≤ p1 from ab1.elim (fun h => absurd h c) id)]
def colN (v u : Nat) : Nat := ((30 * (v : Int) + ((u : Int) - 20) - (((u : Int) - 20) * ((u : Int) - 20) * ((u : Int) - 20)).tdiv 6000) % 360).toNat
def rowN (u h : Nat) : Nat := h * 1000 / (1000 + (((u : Int) - 20) * ((u : Int) - 20)).toNat)
theorem col_both : ∀ v, v < 12 → ∀ u, u < 40 → F_X4_columnOf (nI v) (nI u) = some (nI (colN v u)) ∧ F_X6_column (nI v) (nI u) = some (nI (colN v u)) ∧ colN v u < 360 := by decide +kernel
theorem row_both : ∀ u, u < 40 → ∀ h, h < 20 → F_X4_rowOf (nI u) (nI h) = some (nI (rowN u h)) ∧ F_X6_row (nI u) (nI h) = some (nI (rowN u h)) ∧ rowN u h < 20 := by decide +kernel
theorem rd_stands (p1 p2 p3 p4 : Int32) : ∃ r, F_X5_stands p1 p2 p3 p4 = some r ∧ F_X6_stands p1 p2 p3 p4 = some r := by
  unfold F_X5_stands F_X6_stands
  rcases isMark_both p1 p2 p3 with ⟨v, u, h, hv, hu, hh, rfl, rfl, rfl, f1, f2⟩ | ⟨f1, f2⟩
  · have h10 : ¬ (1 : Int32) = 0 := by decide
    rw [f1, f2, bd_some, bd_some, if_neg h10, if_neg h10]
    obtain ⟨x1, x2, -⟩ := col_both v hv u hu
    obtain ⟨y1, y2, -⟩ := row_both u hu h hh
    by_cases c0 : p4 = 0
    · rw [if_pos c0, if_pos c0, x1, x2]; exact ⟨_, rfl, rfl⟩
    rw [if_neg c0, if_neg c0]
    by_cases c1 : p4 = 1
    · rw [if_pos c1, if_pos c1, y1, y2]; exact ⟨_, rfl, rfl⟩
    rw [if_neg c1, if_neg c1]
    exact ⟨_, rfl, rfl⟩
  · rw [f1, f2, bd_some, bd_some, if_pos rfl, if_pos rfl]
    exact ⟨_, rfl, rfl⟩
