/-! the platform -/
def RPl (n : Nat) (S3 : Nat → Int32) (A3 : Nat → Nat → Int32) (S6 : Nat → Int32) (A6 : Nat → Nat → Int32) : Prop :=
  S3 1 = S6 35 ∧ S3 2 = S6 37 ∧ S3 3 = S6 36 ∧ S3 4 = S6 38 ∧ S3 5 = S6 39 ∧ S3 6 = S6 40 ∧ A3 0 = A6 41 ∧ 0 ≤ (S3 5).toInt ∧ (S3 5).toInt ≤ n ∧ 0 ≤ (S3 3).toInt ∧ (S3 3).toInt ≤ 2000
theorem RPl.mono {n : Nat} {S3 : Nat → Int32} {A3 : Nat → Nat → Int32} {S6 : Nat → Int32} {A6 : Nat → Nat → Int32} (h : RPl n S3 A3 S6 A6) : RPl (n + 1) S3 A3 S6 A6 := by
  obtain ⟨h1, h2, h3, h4, h5, h6, h7, h8, h9, h10⟩ := h
  exact ⟨h1, h2, h3, h4, h5, h6, h7, h8, by omega, h10⟩
theorem RPl.congr {n : Nat} {S3 : Nat → Int32} {A3 : Nat → Nat → Int32} {S6 T6 : Nat → Int32} {A6 B6 : Nat → Nat → Int32} (h : RPl n S3 A3 S6 A6) (hS : ∀ j, 35 ≤ j → j ≤ 40 → T6 j = S6 j) (hA : B6 41 = A6 41) : RPl n S3 A3 T6 B6 := by
  obtain ⟨h1, h2, h3, h4, h5, h6, h7, h8⟩ := h
  exact ⟨by rw [hS 35 (by omega) (by omega)]; exact h1, by rw [hS 37 (by omega) (by omega)]; exact h2, by rw [hS 36 (by omega) (by omega)]; exact h3, by rw [hS 38 (by omega) (by omega)]; exact h4, by rw [hS 39 (by omega) (by omega)]; exact h5, by rw [hS 40 (by omega) (by omega)]; exact h6, by rw [hA]; exact h7, h8⟩
def plU (d w : Int32) : Int32 := if 8 < (if w < (if d < 0 then 0 else d) then w else (if d < 0 then 0 else d)) then 8 else (if w < (if d < 0 then 0 else d) then w else (if d < 0 then 0 else d))
def plM (d w : Int32) : Int32 := if (0 : Int32) < (if (if d < w then d else w) < 8 then (if d < w then d else w) else 8) then (if (if d < w then d else w) < 8 then (if d < w then d else w) else 8) else 0
theorem pl_up (d w : Int32) (hw : 0 ≤ w.toInt) : plU d w = plM d w := by
  unfold plU plM
  have e0 : (0 : Int32).toInt = 0 := rfl
  have e8 : (8 : Int32).toInt = 8 := rfl
  by_cases h1 : d < 0
  · have h2 : d < w := by rw [i_lt] at h1 ⊢; omega
    have h3 : ¬ w < 0 := by rw [i_lt]; omega
    have h4 : d < 8 := by rw [i_lt] at h1 ⊢; omega
    have h5 : ¬ (8 : Int32) < 0 := by decide
    have h6 : ¬ 0 < d := by rw [i_lt] at h1 ⊢; omega
    simp only [if_pos h1, if_neg h3, if_neg h5, if_pos h2, if_pos h4, if_neg h6]
  · simp only [if_neg h1]
    by_cases h2 : w < d
    · have h3 : ¬ d < w := by rw [i_lt] at h2 ⊢; omega
      simp only [if_pos h2, if_neg h3]
      by_cases h4 : 8 < w
      · have h5 : ¬ w < 8 := by rw [i_lt] at h4 ⊢; omega
        simp only [if_pos h4, if_neg h5]
        rfl
      · simp only [if_neg h4]
        by_cases h5 : w < 8
        · simp only [if_pos h5]
          by_cases h6 : 0 < w
          · simp only [if_pos h6]
          · simp only [if_neg h6]
            rw [i_lt] at h6
            exact i_eq.mpr (by omega)
        · simp only [if_neg h5]
          have h7 : w = 8 := i_eq.mpr (by rw [i_lt] at h4 h5; omega)
          rw [h7]; rfl
    · simp only [if_neg h2]
      have h3 : (if d < w then d else w) = d := by
        by_cases h3 : d < w
        · rw [if_pos h3]
        · rw [if_neg h3]; exact i_eq.mpr (by rw [i_lt] at h2 h3; omega)
      rw [h3]
      by_cases h4 : 8 < d
      · have h5 : ¬ d < 8 := by rw [i_lt] at h4 ⊢; omega
        simp only [if_pos h4, if_neg h5]
        rfl
      · simp only [if_neg h4]
        by_cases h5 : d < 8
        · simp only [if_pos h5]
          by_cases h6 : 0 < d
          · simp only [if_pos h6]
          · simp only [if_neg h6]
            rw [i_lt] at h6 h1
            exact i_eq.mpr (by omega)
        · simp only [if_neg h5]
          have h7 : d = 8 := i_eq.mpr (by rw [i_lt] at h4 h5; omega)
          rw [h7]; rfl
/-- at most the waiting go up, and none less than nobody -/
theorem pl_up_in (d w : Int32) (hw : 0 ≤ w.toInt) : 0 ≤ (plU d w).toInt ∧ (plU d w).toInt ≤ w.toInt := by
  unfold plU
  have e0 : (0 : Int32).toInt = 0 := rfl
  have e8 : (8 : Int32).toInt = 8 := rfl
  obtain ⟨v, hv, h0, h1⟩ : ∃ v : Int32, v = (if w < (if d < 0 then 0 else d) then w else (if d < 0 then 0 else d)) ∧ 0 ≤ v.toInt ∧ v.toInt ≤ w.toInt := by
    refine ⟨_, rfl, ?_⟩
    obtain ⟨u, hu, h0⟩ : ∃ u : Int32, u = (if d < 0 then 0 else d) ∧ 0 ≤ u.toInt := by
      refine ⟨_, rfl, ?_⟩
      by_cases h : d < 0
      · rw [if_pos h]; decide
      · rw [if_neg h]; rw [i_lt] at h; omega
    rw [← hu]
    by_cases h : w < u
    · rw [if_pos h]; exact ⟨hw, by omega⟩
    · rw [if_neg h]; rw [i_lt] at h; exact ⟨h0, by omega⟩
  rw [← hv]
  by_cases h : 8 < v
  · rw [if_pos h]; rw [i_lt] at h; omega
  · rw [if_neg h]; exact ⟨h0, h1⟩
theorem X3_min {S3 : Nat → Int32} {A3 : Nat → Nat → Int32} {p1 : Int32} {j : Nat} (hj : j < 2 ^ 31) (ej : S3 5 = nI j) (h1 : ¬ p1 < 0) (h2 : ¬ 500 < p1) (h3 : S3 3 + p1 ≤ 2000) {d v : Int32} (hd : d = S3 1 - (S3 2 - A3 0 (j % 12))) (hv : v = plU d (S3 3 + p1)) :
    ∃ S' A', F_X3_passMinute S3 A3 p1 = some (v, S', A') ∧ S' 1 = S3 1 ∧ S' 2 = S3 2 - A3 0 (j % 12) + v ∧ S' 3 = S3 3 + p1 - v ∧ S' 4 = S3 4 + A3 0 (j % 12) ∧ S' 5 = S3 5 + 1 ∧ S' 6 = (if S3 6 < S3 2 - A3 0 (j % 12) + v then S3 2 - A3 0 (j % 12) + v else S3 6) ∧ A' 0 = upd (A3 0) (j % 12) v := by
  subst hv hd
  unfold F_X3_passMinute
  rw [if_neg h1, if_neg h2, if_pos h3, ej, show (12 : Int32) = nI 12 from rfl, fmod_eq j 12 hj (by decide) (by decide), bd_some]
  have hm : j % 12 < 12 := Nat.mod_lt _ (by decide)
  have hc : (nI (j % 12)).toNatClampNeg = j % 12 := nI_clamp (by omega)
  simp only [ix_nI hm (by decide), hc]
  rw [← ej]
  exact ⟨_, _, rfl, rfl, rfl, rfl, rfl, rfl, rfl, rfl⟩
theorem M_min {S6 : Nat → Int32} {A6 : Nat → Nat → Int32} {p1 : Int32} {j : Nat} (hj : j < 2 ^ 31) (ej : S6 39 = nI j) (h1 : ¬ p1 < 0) (h2 : ¬ 500 < p1) (h3 : S6 36 + p1 ≤ 2000) {d v : Int32} (hd : d = S6 35 - (S6 37 - A6 41 (j % 12))) (hv : v = plM d (S6 36 + p1)) :
    ∃ S' A', F_X6_minute S6 A6 p1 = some (v, S', A') ∧ S' 35 = S6 35 ∧ S' 37 = S6 37 - A6 41 (j % 12) + v ∧ S' 36 = S6 36 + p1 - v ∧ S' 38 = S6 38 + A6 41 (j % 12) ∧ S' 39 = S6 39 + 1 ∧ S' 40 = (if S6 40 < S6 37 - A6 41 (j % 12) + v then S6 37 - A6 41 (j % 12) + v else S6 40) ∧ A' 41 = upd (A6 41) (j % 12) v ∧ (∀ q, (q < 36 ∨ 40 < q) → S' q = S6 q) ∧ ∀ q, q ≠ 41 → A' q = A6 q := by
  unfold F_X6_minute
  have hnot : ¬ (p1 < 0 ∨ 500 < p1) := fun h => h.elim h1 h2
  rw [isIn_eq, bd_some, if_neg hnot, if_neg (show ¬ (1 : Int32) = 0 by decide), if_pos h3, ej, show (12 : Int32) = nI 12 from rfl, pk_rem hj (by decide) (by decide), nm_eq]
  have hm : j % 12 < 12 := Nat.mod_lt _ (by decide)
  have hc : (nI (j % 12)).toNatClampNeg = j % 12 := nI_clamp (by omega)
  simp only [ix_nI hm (by decide), hc]
  rw [← ej]
  have eu : ∀ x : Int32, va_up A6 41 (upd (A6 41) (j % 12) x) 41 (j % 12) = x := fun x => by simp [upA_at, upd_at]
  simp only [nm_eq, eu]
  subst hd
  subst hv
  refine ⟨_, _, rfl, rfl, rfl, rfl, rfl, rfl, rfl, ?_, ?_, ?_⟩
  · rfl
  · intro q hq
    have e1 : q ≠ 36 := by omega
    have e2 : q ≠ 37 := by omega
    have e3 : q ≠ 38 := by omega
    have e4 : q ≠ 39 := by omega
    have e5 : q ≠ 40 := by omega
    simp only [upd_at, if_neg e1, if_neg e2, if_neg e3, if_neg e4, if_neg e5]
  · intro q hq
    simp only [upA_at, if_neg hq]
theorem pl_minute {n : Nat} {S3 : Nat → Int32} {A3 : Nat → Nat → Int32} {S6 : Nat → Int32} {A6 : Nat → Nat → Int32} (hR : RPl n S3 A3 S6 A6) (hn : n ≤ 1000) (p1 : Int32) :
    ∃ (r : Int32) (S3' : Nat → Int32) (A3' : Nat → Nat → Int32) (S6' : Nat → Int32) (A6' : Nat → Nat → Int32), F_X3_passMinute S3 A3 p1 = some (r, S3', A3') ∧ F_X6_minute S6 A6 p1 = some (r, S6', A6') ∧ RPl (n + 1) S3' A3' S6' A6' ∧ (∀ j, (j < 36 ∨ 40 < j) → S6' j = S6 j) ∧ ∀ j, j ≠ 41 → A6' j = A6 j := by
  have e0 : (0 : Int32).toInt = 0 := rfl
  have e5 : (500 : Int32).toInt = 500 := rfl
  have e2 : (2000 : Int32).toInt = 2000 := rfl
  have e1 : (1 : Int32).toInt = 1 := rfl
  have refuse : (p1 < 0 ∨ 500 < p1) ∨ ¬ S3 3 + p1 ≤ 2000 → F_X3_passMinute S3 A3 p1 = some (-1, S3, A3) ∧ F_X6_minute S6 A6 p1 = some (-1, S6, A6) := by
    intro h
    unfold F_X3_passMinute F_X6_minute
    rw [isIn_eq, bd_some]
    by_cases h1 : p1 < 0
    · rw [if_pos h1, if_pos (Or.inl h1), if_pos rfl]; exact ⟨rfl, rfl⟩
    by_cases h2 : 500 < p1
    · rw [if_neg h1, if_pos h2, if_pos (Or.inr h2), if_pos rfl]; exact ⟨rfl, rfl⟩
    have hnot : ¬ (p1 < 0 ∨ 500 < p1) := fun h => h.elim h1 h2
    have h3 : ¬ S3 3 + p1 ≤ 2000 := h.elim (fun h => absurd h hnot) id
    rw [if_neg h1, if_neg h2, if_neg h3, if_neg hnot, if_neg (show ¬ (1 : Int32) = 0 by decide), ← hR.2.2.1, if_neg h3]
    exact ⟨rfl, rfl⟩
  by_cases hr : (p1 < 0 ∨ 500 < p1) ∨ ¬ S3 3 + p1 ≤ 2000
  · obtain ⟨f1, f2⟩ := refuse hr
    exact ⟨_, _, _, _, _, f1, f2, hR.mono, fun _ _ => rfl, fun _ _ => rfl⟩
  have h1 : ¬ p1 < 0 := fun h => hr (Or.inl (Or.inl h))
  have h2 : ¬ 500 < p1 := fun h => hr (Or.inl (Or.inr h))
  have h3 : S3 3 + p1 ≤ 2000 := Classical.not_not.mp (fun h => hr (Or.inr h))
  obtain ⟨g1, g2, g3, g4, g5, g6, g7, g8, g9, g10, g11⟩ := hR
  obtain ⟨j, hj, ej, tj⟩ := i_of g8
  have b1 : ¬ p1.toInt < (0 : Int32).toInt := fun h => h1 (i_lt.mpr h)
  have b2 : ¬ (500 : Int32).toInt < p1.toInt := fun h => h2 (i_lt.mpr h)
  have b3 := i_le.mp h3
  have t3 : (S3 3 + p1).toInt = (S3 3).toInt + p1.toInt := i_add (by omega) (by omega)
  have hw : 0 ≤ (S3 3 + p1).toInt := by omega
  obtain ⟨v, hv⟩ : ∃ v, v = plU (S3 1 - (S3 2 - A3 0 (j % 12))) (S3 3 + p1) := ⟨_, rfl⟩
  obtain ⟨u1, u2⟩ := pl_up_in (S3 1 - (S3 2 - A3 0 (j % 12))) (S3 3 + p1) hw
  rw [← hv] at u1 u2
  obtain ⟨S3', A3', x0, x1, x2, x3, x4, x5, x6, x7⟩ := X3_min (p1 := p1) hj ej h1 h2 h3 rfl hv
  obtain ⟨S6', A6', y0, y1, y2, y3, y4, y5, y6, y7, y8, y9⟩ := M_min (S6 := S6) (A6 := A6) (p1 := p1) (v := v) hj (by rw [← g5]; exact ej) h1 h2 (by rw [← g3]; exact h3) rfl (by rw [hv, pl_up _ _ hw, g1, g2, g3, g7])
  refine ⟨v, S3', A3', S6', A6', x0, y0, ⟨?_, ?_, ?_, ?_, ?_, ?_, ?_, ?_, ?_, ?_, ?_⟩, y8, y9⟩
  · rw [x1, y1, g1]
  · rw [x2, y2, g2, g7]
  · rw [x3, y3, g3]
  · rw [x4, y4, g4, g7]
  · rw [x5, y5, g5]
  · rw [x6, y6, g6, g2, g7]
  · rw [x7, y7, g7]
  · rw [x5, i_add (by omega) (by omega)]; omega
  · rw [x5, i_add (by omega) (by omega)]; omega
  · rw [x3, i_sub (by omega) (by omega)]; omega
  · rw [x3, i_sub (by omega) (by omega)]; omega
