/-! line -/
theorem x_sign (a b : Int32) : 0 ≤ (a ^^^ b) ↔ (a.toInt < 0 ↔ b.toInt < 0) := by
  have e0 : (0 : Int32).toInt = 0 := rfl
  have h : (a ^^^ b).toBitVec.msb = (a.toBitVec.msb ^^ b.toBitVec.msb) := by rw [Int32.toBitVec_xor, BitVec.msb_xor]
  rw [BitVec.msb_eq_toInt, BitVec.msb_eq_toInt, BitVec.msb_eq_toInt] at h
  have h : decide ((a ^^^ b).toInt < 0) = (decide (a.toInt < 0) ^^ decide (b.toInt < 0)) := h
  rw [i_le, e0]
  by_cases h1 : a.toInt < 0
  · by_cases h2 : b.toInt < 0
    · rw [decide_eq_true h1, decide_eq_true h2] at h
      have h := of_decide_eq_false h
      constructor
      · intro _; exact ⟨fun _ => h2, fun _ => h1⟩
      · intro _; omega
    · rw [decide_eq_true h1, decide_eq_false h2] at h
      have h := of_decide_eq_true h
      constructor
      · intro _; omega
      · intro q; exact absurd (q.mp h1) h2
  · by_cases h2 : b.toInt < 0
    · rw [decide_eq_false h1, decide_eq_true h2] at h
      have h := of_decide_eq_true h
      constructor
      · intro _; omega
      · intro q; exact absurd (q.mpr h2) h1
    · rw [decide_eq_false h1, decide_eq_false h2] at h
      have h := of_decide_eq_false h
      constructor
      · intro _; exact ⟨fun q => absurd q h1, fun q => absurd q h2⟩
      · intro _; omega
theorem fd_spec {a b : Int32} (hb : 0 < b.toInt) (ha : -1000000 < a.toInt) : ∃ w, F_J9_floorDiv_7cf53 a b = some w ∧ w.toInt = a.toInt / b.toInt := by
  unfold F_J9_floorDiv_7cf53
  have hr := i_rng a
  have hb0 : ¬ b = 0 := by rw [i_eq]; show ¬ b.toInt = 0; omega
  unfold nz
  rw [if_neg hb0, nm_eq]
  have hem := Int.emod_nonneg a.toInt (show b.toInt ≠ 0 by omega)
  by_cases c : a.toInt < 0
  · rw [if_neg (by rw [x_sign]; omega)]
    obtain ⟨t, ht⟩ : ∃ t, t = (-a.toInt) / b.toInt := ⟨_, rfl⟩
    obtain ⟨r, hrr⟩ : ∃ r, r = (-a.toInt) % b.toInt := ⟨_, rfl⟩
    have h1 : b.toInt * t + r = -a.toInt := by rw [ht, hrr]; exact Int.mul_ediv_add_emod _ _
    have h2 : 0 ≤ r := by rw [hrr]; exact Int.emod_nonneg _ (by omega)
    have h3 : r < b.toInt := by rw [hrr]; exact Int.emod_lt_of_pos _ hb
    have h4 : 0 ≤ t := by rw [ht]; exact Int.ediv_nonneg (by omega) (by omega)
    have h5 : t ≤ -a.toInt := by rw [ht]; exact Int.ediv_le_self _ (by omega)
    have e1 : a.toInt.tdiv b.toInt = -t := by
      have : a.toInt = -(-a.toInt) := by omega
      rw [this, Int.neg_tdiv, Int.tdiv_eq_ediv_of_nonneg (by omega), ht]
    have e2 : (a / b).toInt = -t := by rw [i_div (by rw [e1]; omega) (by rw [e1]; omega), e1]
    have h6 : b.toInt * t ≥ 0 := Int.mul_nonneg (by omega) h4
    have e4 : (-t) * b.toInt = -(b.toInt * t) := by rw [Int.neg_mul, Int.mul_comm]
    have e3 : (a / b * b).toInt = -(b.toInt * t) := by
      rw [i_mul (by rw [e2, e4]; omega) (by rw [e2, e4]; omega), e2, e4]
    by_cases c2 : a / b * b = a
    · rw [if_pos c2]
      refine ⟨_, rfl, ?_⟩
      rw [i_eq, e3] at c2
      have hr0 : r = 0 := by omega
      rw [e2]
      have := (Int.ediv_emod_unique (a := a.toInt) (b := b.toInt) (r := 0) (q := -t) hb).mpr ⟨by rw [Int.mul_neg]; omega, by omega, hb⟩
      exact this.1.symm
    · rw [if_neg c2]
      refine ⟨_, rfl, ?_⟩
      rw [i_eq, e3] at c2
      have hr0 : r ≠ 0 := by omega
      rw [i_sub (by rw [e2]; show -2147483648 ≤ -t - 1; omega) (by rw [e2]; show -t - 1 < 2147483648; omega), e2]
      show -t - 1 = _
      have h7 : b.toInt * (-t - 1) = -(b.toInt * t) - b.toInt := by rw [Int.mul_sub, Int.mul_neg, Int.mul_one]
      have := (Int.ediv_emod_unique (a := a.toInt) (b := b.toInt) (r := b.toInt - r) (q := -t - 1) hb).mpr ⟨by rw [h7]; omega, by omega, by omega⟩
      exact this.1.symm
  · rw [if_pos (by rw [x_sign]; omega)]
    refine ⟨_, rfl, ?_⟩
    have e1 : a.toInt.tdiv b.toInt = a.toInt / b.toInt := Int.tdiv_eq_ediv_of_nonneg (by omega)
    have h4 : 0 ≤ a.toInt / b.toInt := Int.ediv_nonneg (by omega) (by omega)
    have h5 : a.toInt / b.toInt ≤ a.toInt := Int.ediv_le_self _ (by omega)
    rw [i_div (by rw [e1]; omega) (by rw [e1]; omega), e1]
/-- a point of a line stands between its ends -/
theorem pt_in {u v i n N : Nat} (hu : u < N) (hv : v < N) (hN : N ≤ 40) (hi : i ≤ n) (hn : 1 ≤ n) (hn2 : n < 40) (h1 : v ≤ u + n) (h2 : u ≤ v + n) :
    ∃ w k, k < N ∧ F_J9_floorDiv_7cf53 (nI i * (nI v - nI u)) (nI n) = some w ∧ nI u + w = nI k := by
  have e1 : (nI v - nI u).toInt = (v : Int) - u := pk_sub_toInt (by omega) (by omega)
  have e2 : (nI i).toInt = i := nI_toInt (by omega)
  have e3 : (nI n).toInt = n := nI_toInt (by omega)
  obtain ⟨d, hd⟩ : ∃ d : Int, d = (v : Int) - u := ⟨_, rfl⟩
  have hd1 : -40 < d := by omega
  have hd2 : d < 40 := by omega
  have hm1 : (i : Int) * d < 2000 := by
    rcases Int.le_total 0 d with z | z
    · have : (i : Int) * d ≤ 40 * 40 := Int.mul_le_mul (by omega) (by omega) z (by omega)
      omega
    · have : (i : Int) * d ≤ 0 := Int.mul_nonpos_of_nonneg_of_nonpos (by omega) z
      omega
  have hm2 : -2000 < (i : Int) * d := by
    rcases Int.le_total 0 d with z | z
    · have : 0 ≤ (i : Int) * d := Int.mul_nonneg (by omega) z
      omega
    · have h3 : (i : Int) * (-d) ≤ 40 * 40 := Int.mul_le_mul (by omega) (by omega) (by omega) (by omega)
      rw [Int.mul_neg] at h3
      omega
  have e4 : (nI i * (nI v - nI u)).toInt = (i : Int) * d := by
    rw [i_mul (by rw [e1, e2, ← hd]; omega) (by rw [e1, e2, ← hd]; omega), e1, e2, ← hd]
  obtain ⟨w, f1, f2⟩ := fd_spec (a := nI i * (nI v - nI u)) (b := nI n) (by rw [e3]; omega) (by rw [e4]; omega)
  rw [e4, e3] at f2
  have hb : (0 ≤ d → 0 ≤ w.toInt ∧ w.toInt ≤ d) ∧ (d ≤ 0 → d ≤ w.toInt ∧ w.toInt ≤ 0) := by
    rw [f2]
    constructor
    · intro z
      refine ⟨Int.ediv_nonneg (Int.mul_nonneg (by omega) z) (by omega), Int.ediv_le_of_le_mul (by omega) ?_⟩
      rw [Int.mul_comm]
      exact Int.mul_le_mul_of_nonneg_left (by omega) z
    · intro z
      refine ⟨Int.le_ediv_of_mul_le (by omega) ?_, Int.ediv_le_of_le_mul (by omega) ?_⟩
      · rw [Int.mul_comm (i : Int) d]
        exact Int.mul_le_mul_of_nonpos_left z (by omega)
      · rw [Int.zero_mul]
        exact Int.mul_nonpos_of_nonneg_of_nonpos (by omega) z
  have e5 : (nI u).toInt = u := nI_toInt (by omega)
  have hs : (nI u + w).toInt = u + w.toInt := by rw [i_add (by rw [e5]; omega) (by rw [e5]; omega), e5]
  obtain ⟨k, hk1, hk2, hk3⟩ := i_of (x := nI u + w) (by rw [hs]; omega)
  rw [hs] at hk3
  exact ⟨w, k, by omega, f1, hk2⟩
theorem ln_loop {JX JM : Int32 → (Nat → Nat → Int32) → Option (Int32 × (Nat → Nat → Int32))} {vw u y v g n : Nat} {x : Int32} (hw : vw < 12) (hu : u < 40) (hy : y < 20) (hv : v < 40) (hg : g < 20) (hn : n < 40) (h1 : v ≤ u + n) (h2 : u ≤ v + n) (h3 : g ≤ y + n) (h4 : y ≤ g + n) (hx : F_X4_isColour x = some 1) :
    ∀ (m i nX nM : Nat) (A4 A6 : Nat → Nat → Int32), i + m = n + 1 → m + 1 ≤ nX → m + 1 ≤ nM → RRd A4 A6 → ∃ B4 B6, L_X4_drawLine_52 JX nX (nI vw) (nI u) (nI y) (nI v) (nI g) x (nI n) (nI i) A4 = JX (nI n) B4 ∧ L_X6_line_55 JM nM (nI vw) (nI u) (nI y) (nI v) (nI g) x (nI n) (nI i) A6 = JM (nI n) B6 ∧ RRd B4 B6 ∧ ∀ j, 2 < j → B6 j = A6 j := by
  intro m
  induction m with
  | zero =>
    intro i nX nM A4 A6 e1 e2 e3 hR
    obtain ⟨nX, rfl⟩ : ∃ k, nX = k + 1 := ⟨nX - 1, by omega⟩
    obtain ⟨nM, rfl⟩ : ∃ k, nM = k + 1 := ⟨nM - 1, by omega⟩
    refine ⟨A4, A6, ?_, ?_, hR, fun _ _ => rfl⟩
    · rw [L_X4_drawLine_52.eq_2, if_pos (nI_lt (by omega) (by omega))]
    · rw [L_X6_line_55.eq_2, nm_eq, nm_eq, if_pos (nI_lt (by omega) (by omega))]
  | succ m ih =>
    intro i nX nM A4 A6 e1 e2 e3 hR
    obtain ⟨nX, rfl⟩ : ∃ k, nX = k + 1 := ⟨nX - 1, by omega⟩
    obtain ⟨nM, rfl⟩ : ∃ k, nM = k + 1 := ⟨nM - 1, by omega⟩
    have hnl : ¬ nI n < nI i := nI_nlt (by omega) (by omega)
    rw [L_X4_drawLine_52.eq_2, if_neg hnl, L_X6_line_55.eq_2, nm_eq, nm_eq, if_neg hnl]
    unfold F_X4_partOfWay
    by_cases c : n = 0
    · have i0 : i = 0 := by omega
      subst c i0
      have k1 : ¬ (1 : Int32) ≤ nI 0 := by decide
      have k2 : nI 0 = 0 := rfl
      obtain ⟨B4, B6, g1, g2, g3, g4⟩ := rd_set hR hw hu hy hx
      simp only [if_neg k1, bd_some, if_pos k2, Int32.add_zero, g1, g2, nm_eq, nI_1]
      obtain ⟨D4, D6, d1, d2, d3, d4⟩ := ih (0 + 1) nX nM B4 B6 (by omega) (by omega) (by omega) g3
      exact ⟨D4, D6, d1, d2, d3, fun j hj => by rw [d4 j hj, g4 j hj]⟩
    · have k1 : (1 : Int32) ≤ nI n := by rw [show (1 : Int32) = nI 1 from rfl]; exact nI_le (by omega) (by omega)
      have k2 : ¬ nI n = 0 := nI_ne0 (by omega) (by omega)
      obtain ⟨w1, q1, hq1, f1, f2⟩ := pt_in (i := i) hu hv (by omega) (by omega) (by omega) hn h1 h2
      obtain ⟨w2, q2, hq2, f3, f4⟩ := pt_in (i := i) hy hg (by omega) (by omega) (by omega) hn h3 h4
      obtain ⟨B4, B6, g1, g2, g3, g4⟩ := rd_set hR hw hq1 hq2 hx
      simp only [if_pos k1, f1, f3, bd_some, if_neg k2, f2, f4, g1, g2, nm_eq, nI_1]
      obtain ⟨D4, D6, d1, d2, d3, d4⟩ := ih (i + 1) nX nM B4 B6 (by omega) (by omega) (by omega) g3
      exact ⟨D4, D6, d1, d2, d3, fun j hj => by rw [d4 j hj, g4 j hj]⟩
def abN (a b : Nat) : Nat := if a ≤ b then b - a else a - b
theorem ab_eq {a b : Nat} (ha : a < 40) (hb : b < 40) : (if 0 ≤ (nI b - nI a) then (nI b - nI a) else 0 - (nI b - nI a)) = nI (abN a b) := by
  unfold abN
  have e1 : (nI b - nI a).toInt = (b : Int) - a := pk_sub_toInt (by omega) (by omega)
  have e0 : (0 : Int32).toInt = 0 := rfl
  by_cases c : a ≤ b
  · rw [if_pos (by rw [i_le, e1, e0]; omega), if_pos c, pk_sub c]
  · rw [if_neg (by rw [i_le, e1, e0]; omega), if_neg c]
    rw [i_eq, i_sub (by rw [e1, e0]; omega) (by rw [e1, e0]; omega), e1, e0, nI_toInt (by omega)]
    omega
theorem rd_line {A4 A6 : Nat → Nat → Int32} (h : RRd A4 A6) (p1 p2 p3 p4 p5 p6 : Int32) :
    ∃ r B4 B6, F_X5_line A4 p1 p2 p3 p4 p5 p6 = some (r, B4) ∧ F_X6_line A6 p1 p2 p3 p4 p5 p6 = some (r, B6) ∧ RRd B4 B6 ∧ ∀ j, 2 < j → B6 j = A6 j := by
  have h10 : ¬ (1 : Int32) = 0 := by decide
  unfold F_X5_line F_X4_drawLine F_X6_line
  rcases isMark_both p1 p2 p3 with ⟨vw, u, y, hw, hu, hy, rfl, rfl, rfl, f1, f2⟩ | ⟨f1, f2⟩
  · rcases isMark_both (nI vw) p4 p5 with ⟨vw', v, g, hw', hv, hg, ew, rfl, rfl, g1, g2⟩ | ⟨g1, g2⟩
    · rcases isCol_both p6 with ⟨k1, k2⟩ | ⟨k1, k2⟩
      · rw [nm_eq, nm_eq, f1, f2, g1, g2, k1, k2]
        simp only [bd_some, if_neg h10, ab_eq hu hv, ab_eq (show y < 40 by omega) (show g < 40 by omega), nm_eq]
        have em : (if nI (abN u v) < nI (abN y g) then nI (abN y g) else nI (abN u v)) = nI (max (abN u v) (abN y g)) := by
          have h1 : abN u v < 40 := by unfold abN; by_cases c : u ≤ v <;> simp [c] <;> omega
          have h2 : abN y g < 40 := by unfold abN; by_cases c : y ≤ g <;> simp [c] <;> omega
          by_cases c : abN u v < abN y g
          · rw [if_pos (nI_lt c (by omega)), Nat.max_eq_right (by omega)]
          · rw [if_neg (nI_nlt (by omega) (by omega)), Nat.max_eq_left (by omega)]
        rw [em]
        have hb : max (abN u v) (abN y g) < 40 ∧ v ≤ u + max (abN u v) (abN y g) ∧ u ≤ v + max (abN u v) (abN y g) ∧ g ≤ y + max (abN u v) (abN y g) ∧ y ≤ g + max (abN u v) (abN y g) := by
          unfold abN
          by_cases c1 : u ≤ v
          · by_cases c2 : y ≤ g
            · rw [if_pos c1, if_pos c2]; omega
            · rw [if_pos c1, if_neg c2]; omega
          · by_cases c2 : y ≤ g
            · rw [if_neg c1, if_pos c2]; omega
            · rw [if_neg c1, if_neg c2]; omega
        generalize max (abN u v) (abN y g) = n at hb ⊢
        obtain ⟨b1, b2, b3, b4, b5⟩ := hb
        obtain ⟨B4, B6, d1, d2, d3, d4⟩ := ln_loop (JX := fun (x7 : Int32) (A4 : Nat → Nat → Int32) => some ((x7 + 1), A4)) (JM := fun (x7 : Int32) (A6 : Nat → Nat → Int32) => some ((x7 + 1), A6)) hw hu hy hv hg b1 b2 b3 b4 b5 k1 (n + 1) 0 FU FU A4 A6 (by omega) (by unfold FU; omega) (by unfold FU; omega) h
        rw [show (0 : Int32) = nI 0 from rfl, d1, d2]
        exact ⟨_, B4, B6, rfl, rfl, d3, d4⟩
      · rw [nm_eq, nm_eq, f1, f2, g1, g2, k1, k2]
        simp only [bd_some, if_neg h10, if_true]
        exact ⟨_, A4, A6, rfl, rfl, h, fun _ _ => rfl⟩
    · rw [nm_eq, nm_eq, f1, f2, g1, g2]
      simp only [bd_some, if_neg h10, if_true]
      exact ⟨_, A4, A6, rfl, rfl, h, fun _ _ => rfl⟩
  · rw [nm_eq, nm_eq, f1, f2]
    simp only [bd_some, if_true]
    exact ⟨_, A4, A6, rfl, rfl, h, fun _ _ => rfl⟩
