/-! the paintwork: gang, day -/
/-- the numbers of gangs and days, and what the rows hold -/
def PaI (g d : Nat) (A2 : Nat → Nat → Int32) : Prop :=
  g ≤ 6 ∧ d ≤ 1000 ∧ (∀ i, i < g → 1 ≤ (A2 1 i).toInt ∧ (A2 1 i).toInt ≤ 20) ∧ (∀ i, i < 6 → A2 2 i = -1 ∨ ∃ q, q < 72 ∧ A2 2 i = nI q ∧ i < g ∧ A2 4 q = nI i ∧ (A2 3 q).toInt ≤ 1) ∧
  (∀ q, q < 72 → 0 ≤ (A2 3 q).toInt ∧ (A2 3 q).toInt ≤ 2) ∧ (∀ q, q < 72 → -1 ≤ (A2 6 q).toInt ∧ (A2 6 q).toInt ≤ d)
def RPa (S2 : Nat → Int32) (A2 : Nat → Nat → Int32) (S6 : Nat → Int32) (A6 : Nat → Nat → Int32) : Prop :=
  (∀ k, 1 ≤ k → k ≤ 8 → A2 k = A6 (k + 4)) ∧ ∃ g d : Nat, S2 10 = nI g ∧ S6 4 = nI g ∧ S2 11 = nI d ∧ S6 3 = nI d ∧ PaI g d A2
theorem RPa.congr {S2 : Nat → Int32} {A2 : Nat → Nat → Int32} {S6 T6 : Nat → Int32} {A6 B6 : Nat → Nat → Int32} (h : RPa S2 A2 S6 A6) (h3 : T6 3 = S6 3) (h4 : T6 4 = S6 4) (hA : ∀ j, 5 ≤ j → j ≤ 12 → B6 j = A6 j) : RPa S2 A2 T6 B6 := by
  obtain ⟨h1, g, d, e1, e2, e3, e4, hI⟩ := h
  exact ⟨fun k a b => by rw [hA (k + 4) (by omega) (by omega)]; exact h1 k a b, g, d, e1, by rw [h4]; exact e2, e3, by rw [h3]; exact e4, hI⟩
theorem pa_gang {S2 : Nat → Int32} {A2 : Nat → Nat → Int32} {S6 : Nat → Int32} {A6 : Nat → Nat → Int32} (h : RPa S2 A2 S6 A6) (p1 : Int32) :
    ∃ r S2' A2' S6' A6', F_X5_gang S2 A2 p1 = some (r, S2', A2') ∧ F_X6_gang S6 A6 p1 = some (r, S6', A6') ∧ RPa S2' A2' S6' A6' ∧ (∀ q, q ≠ 10 → S2' q = S2 q) ∧ (∀ q, q ≠ 4 → S6' q = S6 q) ∧ ∀ q, q ≠ 5 → A6' q = A6 q := by
  obtain ⟨h1, g, d, e1, e2, e3, e4, hI⟩ := id h
  have l0 : (1 : Int32).toInt = 1 := rfl
  have l20 : (20 : Int32).toInt = 20 := rfl
  unfold F_X5_gang F_X2_hire F_X6_gang
  rw [isIn_eq, bd_some]
  by_cases c1 : p1 < 1
  · rw [if_pos c1, if_pos (Or.inl c1), if_pos rfl, bd_some]
    exact ⟨_, _, _, _, _, rfl, rfl, h, fun _ _ => rfl, fun _ _ => rfl, fun _ _ => rfl⟩
  by_cases c2 : 20 < p1
  · rw [if_neg c1, if_pos c2, if_pos (Or.inr c2), if_pos rfl, bd_some]
    exact ⟨_, _, _, _, _, rfl, rfl, h, fun _ _ => rfl, fun _ _ => rfl, fun _ _ => rfl⟩
  have hnot : ¬ (p1 < 1 ∨ 20 < p1) := fun h => h.elim c1 c2
  have hg6 : g ≤ 6 := hI.1
  rw [if_neg c1, if_neg c2, if_neg hnot, if_neg (show ¬ (1 : Int32) = 0 by decide), e1, e2, if_neg (nI_pos (by omega))]
  by_cases c3 : g < 6
  · have c4 : nI g < 6 := by rw [show (6 : Int32) = nI 6 from rfl, nI_ltI (by omega) (by decide)]; exact c3
    have c5 : ¬ nI g = 6 := by rw [show (6 : Int32) = nI 6 from rfl, nI_eq (by omega) (by decide)]; omega
    have hc : (nI g).toNatClampNeg = g := nI_clamp (by omega)
    rw [if_pos c4, if_neg c5, ix_nI c3 (by decide), ix_nI c3 (by decide), hc]
    simp only [nm_eq, bd_some]
    refine ⟨nI g, _, _, upd S6 4 (nI g + 1), va_up A6 5 (upd (A6 5) g p1), rfl, ?_, ?_, ?_, ?_, ?_⟩
    · show some (nI g + 1 - 1, _, _) = some (nI g, _, _)
      rw [nI_1, show (1 : Int32) = nI 1 from rfl, pk_sub (by omega)]
      rfl
    · refine ⟨fun k a b => ?_, g + 1, d, ?_, ?_, e3, e4, by omega, hI.2.1, ?_, ?_, hI.2.2.2.2⟩
      · rw [upA_at, upA_at]
        by_cases ek : k = 1
        · rw [if_pos ek, if_pos (by omega), h1 1 (by omega) (by omega)]
        · rw [if_neg ek, if_neg (by omega)]; exact h1 k a b
      · rw [upd_at, if_pos rfl, nI_1]
      · rw [upd_at, if_pos rfl, nI_1]
      · intro i hi
        show 1 ≤ (upd (A2 1) g p1 i).toInt ∧ (upd (A2 1) g p1 i).toInt ≤ 20
        rw [upd_at]
        by_cases ei : i = g
        · rw [if_pos ei]; rw [i_lt] at c1 c2; omega
        · rw [if_neg ei]; exact hI.2.2.1 i (by omega)
      · intro i hi
        rcases hI.2.2.2.1 i hi with b | ⟨q, b1, b2, b3, b4⟩
        · exact Or.inl b
        · exact Or.inr ⟨q, b1, b2, by omega, b4⟩
    · intro q hq; rw [upd_at, if_neg hq]
    · intro q hq; rw [upd_at, if_neg hq]
    · intro q hq; rw [upA_at, if_neg hq]
  · have c4 : ¬ nI g < 6 := by rw [show (6 : Int32) = nI 6 from rfl, nI_ltI (by omega) (by decide)]; exact c3
    have c5 : nI g = 6 := by rw [show (6 : Int32) = nI 6 from rfl, nI_eq (by omega) (by decide)]; omega
    rw [if_neg c4, if_pos c5, bd_some]
    exact ⟨_, _, _, _, _, rfl, rfl, h, fun _ _ => rfl, fun _ _ => rfl, fun _ _ => rfl⟩
