/-! colour, from, seam, count -/
theorem isPlace_both (p1 p2 : Int32) : (∃ c r : Nat, c < 360 ∧ r < 20 ∧ p1 = nI c ∧ p2 = nI r ∧ F_X4_isPlace p1 p2 = some 1 ∧ F_X6_isPlace p1 p2 = some 1) ∨ (F_X4_isPlace p1 p2 = some 0 ∧ F_X6_isPlace p1 p2 = some 0) := by
  unfold F_X4_isPlace F_X6_isPlace
  rcases isIn_N p1 360 (by decide) (by decide) with ⟨v, hv, e1, f1, a1, b1⟩ | ⟨f1, ab1⟩
  · rw [show (359 : Int32) = nI (360 - 1) from rfl, f1, bd_some, if_neg a1, if_neg (show ¬ (360 : Int32) ≤ p1 from b1), if_neg (show ¬ (1 : Int32) = 0 by decide)]
    rcases isIn_N p2 20 (by decide) (by decide) with ⟨u, hu, e2, f2, a2, b2⟩ | ⟨f2, ab2⟩
    · rw [show (19 : Int32) = nI (20 - 1) from rfl, f2, bd_some, if_neg a2, if_neg (show ¬ (20 : Int32) ≤ p2 from b2), if_neg (show ¬ (1 : Int32) = 0 by decide)]
      exact Or.inl ⟨v, u, hv, hu, e1, e2, rfl, rfl⟩
    · rw [show (19 : Int32) = nI (20 - 1) from rfl, f2, bd_some, if_pos rfl]
      refine Or.inr ⟨?_, rfl⟩
      by_cases c : p2 < 0
      · rw [if_pos c]
      · rw [if_neg c, if_pos (show (20 : Int32) ≤ p2 from ab2.elim (fun h => absurd h c) id)]
  · rw [show (359 : Int32) = nI (360 - 1) from rfl, f1, bd_some, if_pos rfl]
    refine Or.inr ⟨?_, rfl⟩
    by_cases c : p1 < 0
    · rw [if_pos c]
    · rw [if_neg c, if_pos (show (360 : Int32) ≤ p1 from ab1.elim (fun h => absurd h c) id)]
theorem rd_from {A4 A6 : Nat → Nat → Int32} (h : RRd A4 A6) (p1 p2 : Int32) :
    ∃ r B6, F_X5_from A4 p1 p2 = some r ∧ F_X6_from A6 p1 p2 = some (r, B6) ∧ RRd A4 B6 ∧ ∀ j, 2 < j → B6 j = A6 j := by
  have h10 : ¬ (1 : Int32) = 0 := by decide
  unfold F_X5_from F_X6_from
  rcases isPlace_both p1 p2 with ⟨c, r, hc, hr, rfl, rfl, f1, f2⟩ | ⟨f1, f2⟩
  · obtain ⟨B6, g1, g2, g3⟩ := mv_spec h.2.1 hc hr
    rw [f1, f2, bd_some, bd_some, if_neg h10, if_neg h10, va_spec hc hr, plc, g1, bd_some, bd_some, ← h.1]
    exact ⟨_, B6, rfl, rfl, h.seen g2 g3, fun j hj => g3 j (by omega) (by omega)⟩
  · rw [f1, f2, bd_some, bd_some, if_pos rfl, if_pos rfl]
    exact ⟨_, A6, rfl, rfl, h, fun _ _ => rfl⟩
theorem rd_colour {A4 A6 : Nat → Nat → Int32} (h : RRd A4 A6) (p1 p2 : Int32) :
    ∃ r B6, F_X5_colour A4 p1 p2 = some r ∧ F_X6_colour A6 p1 p2 = some (r, B6) ∧ RRd A4 B6 ∧ ∀ j, 2 < j → B6 j = A6 j := by
  have h10 : ¬ (1 : Int32) = 0 := by decide
  unfold F_X5_colour F_X6_colour F_X4_colourAt
  rcases isPlace_both p1 p2 with ⟨c, r, hc, hr, rfl, rfl, f1, f2⟩ | ⟨f1, f2⟩
  · obtain ⟨B6, g1, g2, g3⟩ := mv_spec h.2.1 hc hr
    have hB := h.seen g2 g3
    rw [f1, f2, bd_some, bd_some, if_neg h10, if_neg h10, va_spec hc hr, plc, g1, bd_some, bd_some, ← h.1]
    rcases viewOf_cases (A4 0) (r := r) hc with k | ⟨w, hw, k⟩
    · rw [if_pos k, if_pos k, bd_some]
      exact ⟨_, B6, rfl, rfl, hB, fun j hj => g3 j (by omega) (by omega)⟩
    · have kn : ¬ nI w = -1 := by
        intro e
        have := i_eq.mp e
        rw [nI_toInt (by omega)] at this
        have e2 : (-1 : Int32).toInt = -1 := rfl
        omega
      obtain ⟨C6, d1, d2, d3⟩ := ci_spec g2 hw hc hr
      rw [k, if_neg kn, if_neg kn, sh_spec hw hc hr, bd_some, bd_some, d1, bd_some, ← hB.1]
      exact ⟨_, C6, rfl, rfl, hB.seen d2 d3, fun j hj => by rw [d3 j (by omega) (by omega), g3 j (by omega) (by omega)]⟩
  · rw [f1, f2, bd_some, bd_some, if_pos rfl, if_pos rfl]
    exact ⟨_, A6, rfl, rfl, h, fun _ _ => rfl⟩
/-- do two views quarrel at a place -/
def qu (M : Nat → Int32) (v w c r : Nat) : Int32 := if pic M v c r = 0 then 0 else if pic M w c r = 0 then 0 else if pic M v c r = pic M w c r then 0 else 1
theorem sx_in {A4 : Nat → Nat → Int32} {J : Int32 → Int32 → Int32 → Int32 → Option Int32} {v w c : Nat} (hv : v < 12) (hw : w < 12) (hc : c < 360) (x4 : Int32) :
    ∀ (k r n : Nat) (a : Int32), r + k = 20 → k + 1 ≤ n → L_X4_quarrelsBehind_48 A4 J n (nI v) (nI w) a x4 (nI c) (nI r) = J (nI v) (nI w) (qs (qu (A4 0) v w c) k r a) x4 := by
  intro k
  induction k with
  | zero =>
    intro r n a h1 h2
    obtain ⟨n, rfl⟩ : ∃ k, n = k + 1 := ⟨n - 1, by omega⟩
    rw [L_X4_quarrelsBehind_48.eq_2, nm_eq, nm_eq, show (20 : Int32) = nI 20 from rfl, if_pos (nI_le (by omega) (by omega))]
    rfl
  | succ k ih =>
    intro r n a h1 h2
    obtain ⟨n, rfl⟩ : ∃ k, n = k + 1 := ⟨n - 1, by omega⟩
    rw [L_X4_quarrelsBehind_48.eq_2, nm_eq, nm_eq, show (20 : Int32) = nI 20 from rfl, if_neg (nI_ge (by omega) (by omega)), sh_spec hv hc (by omega), bd_some, sh_spec hw hc (by omega), bd_some, qs, ← ih (r + 1) n _ (by omega) (by omega)]
    unfold qu
    by_cases c1 : pic (A4 0) v c r = 0
    · simp only [if_pos c1, nm_eq, nI_1, Int32.add_zero, if_true]
    · by_cases c2 : pic (A4 0) w c r = 0
      · simp only [if_neg c1, if_pos c2, nm_eq, nI_1, Int32.add_zero]
      · by_cases c3 : pic (A4 0) v c r = pic (A4 0) w c r
        · simp only [if_neg c1, if_neg c2, if_pos c3, if_pos c3.symm, nm_eq, nI_1, Int32.add_zero]
        · simp only [if_neg c1, if_neg c2, if_neg c3, if_neg (fun q => c3 (Eq.symm q)), nm_eq, nI_1]
def sxS (M : Nat → Int32) (v w : Nat) : Nat → Nat → Int32 → Int32
  | 0, _, a => a
  | k + 1, o, a => sxS M v w k (o + 1) (qs (qu M v w (30 * v + o)) 20 0 a)
theorem sxS_sm (M : Nat → Int32) (v w : Nat) : ∀ (k o : Nat) (a : Int32), sxS M v w k o a = a + sm (fun i => sm (fun j => qu M v w (30 * v + o + i) j) 20) k := by
  intro k
  induction k with
  | zero => intro o a; show a = a + 0; rw [Int32.add_zero]
  | succ k ih =>
    intro o a
    rw [sxS, ih, sm_left, qs_sm, a_1]
    refine a_c rfl (a_c ?_ ?_)
    · show _ = sm (fun j => qu M v w (30 * v + o + 0) j) 20
      refine sm_congr 20 (fun j _ => ?_)
      rw [Nat.add_zero, Nat.zero_add]
    · refine sm_congr k (fun i _ => ?_)
      rw [show 30 * v + (o + 1) + i = 30 * v + o + (i + 1) by omega]
theorem sx_out {A4 : Nat → Nat → Int32} {J : Int32 → Option Int32} {v w : Nat} (hv : v < 12) (hw : w < 12) :
    ∀ (k o n : Nat) (a : Int32), o + k = 19 → k + 1 ≤ n → L_X4_quarrelsBehind_25 A4 J n (nI v) (nI w) a (nI o) = J (sxS (A4 0) v w k o a) := by
  intro k
  induction k with
  | zero =>
    intro o n a h1 h2
    obtain ⟨n, rfl⟩ : ∃ k, n = k + 1 := ⟨n - 1, by omega⟩
    rw [L_X4_quarrelsBehind_25.eq_2, nm_eq, show (18 : Int32) = nI 18 from rfl, if_pos (nI_lt (by omega) (by omega))]
    rfl
  | succ k ih =>
    intro o n a h1 h2
    obtain ⟨n, rfl⟩ : ∃ k, n = k + 1 := ⟨n - 1, by omega⟩
    have e : ((30 * nI v) + nI o) - ((30 * nI v) + nI o) / 360 * 360 = nI (30 * v + o) := by
      rw [show (30 : Int32) = nI 30 from rfl, pk_mul, nI_add, show (360 : Int32) = nI 360 from rfl, pk_rem (by omega) (by decide) (by decide), Nat.mod_eq_of_lt (by omega)]
    rw [L_X4_quarrelsBehind_25.eq_2, nm_eq, show (18 : Int32) = nI 18 from rfl, if_neg (nI_nlt (by omega) (by omega)), e, nm_eq, show (0 : Int32) = nI 0 from rfl, sx_in hv hw (by omega) (nI o) 20 0 FU a (by omega) (by unfold FU; omega), nm_eq, nI_1, sxS]
    exact ih (o + 1) n _ (by omega) (by omega)
theorem sm_m {J : Int32 → (Nat → Nat → Int32) → Option (Int32 × (Nat → Nat → Int32))} {M : Nat → Int32} {v : Nat} (hv : v < 12) :
    ∀ (k p n : Nat) (a : Int32) (A6 : Nat → Nat → Int32), p + k = 7200 → k + 1 ≤ n → Cache A6 → A6 0 = M → ∃ B6, L_X6_seam_16 J n (nI v) a (nI p) A6 = J (qs (fun p => qu M v ((v + 1) % 12) (p / 20) (p % 20)) k p a) B6 ∧ Cache B6 ∧ ∀ j, j ≠ 1 → j ≠ 2 → B6 j = A6 j := by
  intro k
  induction k with
  | zero =>
    intro p n a A6 h1 h2 hC hM
    obtain ⟨n, rfl⟩ : ∃ k, n = k + 1 := ⟨n - 1, by omega⟩
    refine ⟨A6, ?_, hC, fun _ _ _ => rfl⟩
    rw [L_X6_seam_16.eq_2, nm_eq, nm_eq, show (7200 : Int32) = nI 7200 from rfl, if_pos (nI_le (by omega) (by omega))]
    rfl
  | succ k ih =>
    intro p n a A6 h1 h2 hC hM
    obtain ⟨n, rfl⟩ : ∃ k, n = k + 1 := ⟨n - 1, by omega⟩
    obtain ⟨C6, f1, f2, f3⟩ := ci_spec hC (v := v) (c := p / 20) (r := p % 20) hv (by omega) (by omega)
    obtain ⟨D6, d1, d2, d3⟩ := ci_spec f2 (v := (v + 1) % 12) (c := p / 20) (r := p % 20) (by omega) (by omega) (by omega)
    have e0 : C6 0 = M := by rw [f3 0 (by omega) (by omega), hM]
    have e1 : D6 0 = M := by rw [d3 0 (by omega) (by omega), e0]
    obtain ⟨B6, g1, g2, g3⟩ := ih (p + 1) n (a + qu M v ((v + 1) % 12) (p / 20) (p % 20)) D6 (by omega) (by omega) d2 e1
    refine ⟨B6, ?_, g2, fun j h1 h2 => by rw [g3 j h1 h2, d3 j h1 h2, f3 j h1 h2]⟩
    rw [show 20 * (p / 20) + p % 20 = p by omega] at f1 d1
    have e2 : ((nI v + 1) - (nI v + 1) / 12 * 12) = nI ((v + 1) % 12) := by rw [nI_1, show (12 : Int32) = nI 12 from rfl, pk_rem (by omega) (by decide) (by decide)]
    rw [L_X6_seam_16.eq_2, nm_eq, nm_eq, show (7200 : Int32) = nI 7200 from rfl, if_neg (nI_ge (by omega) (by omega)), f1, bd_some, e2, d1, bd_some, hM, e0, qs, ← g1]
    unfold qu
    by_cases c1 : pic M v (p / 20) (p % 20) = 0
    · simp only [if_pos c1, nm_eq, nI_1]
    · by_cases c2 : pic M ((v + 1) % 12) (p / 20) (p % 20) = 0
      · simp only [if_neg c1, if_pos c2, nm_eq, nI_1]
      · by_cases c3 : pic M v (p / 20) (p % 20) = pic M ((v + 1) % 12) (p / 20) (p % 20)
        · simp only [if_neg c1, if_neg c2, if_pos c3, nm_eq, nI_1]
        · simp only [if_neg c1, if_neg c2, if_neg c3, nm_eq, nI_1]
theorem qu_out (M : Nat → Int32) {v c r : Nat} (hv : v < 12) (hc : c < 360) (h : c < 30 * v + 11 ∨ 30 * v + 19 ≤ c) : qu M v ((v + 1) % 12) c r = 0 := by
  unfold qu
  by_cases c1 : offN v c < 161 ∨ 198 < offN v c
  · rw [if_pos (pic_out M hv hc c1)]
  · have c2 : offN ((v + 1) % 12) c < 161 ∨ 198 < offN ((v + 1) % 12) c := by
      unfold offN at c1 ⊢
      omega
    rw [if_pos (pic_out M (v := (v + 1) % 12) (by omega) hc c2)]
    by_cases c3 : pic M v c r = 0
    · rw [if_pos c3]
    · rw [if_neg c3]
theorem seam_sum (M : Nat → Int32) {v : Nat} (hv : v < 12) : sm (fun p => qu M v ((v + 1) % 12) (p / 20) (p % 20)) 7200 = sm (fun i => sm (fun j => qu M v ((v + 1) % 12) (30 * v + 11 + i) j) 20) 8 := by
  rw [show 7200 = 20 * (30 * v + 11) + (8 * 20 + (6820 - 600 * v)) by omega, sm_split, sm_split, sm_zero (20 * (30 * v + 11)), sm_zero (6820 - 600 * v), Int32.zero_add, Int32.add_zero, sm_mul]
  · refine sm_congr 8 (fun i hi => sm_congr 20 (fun j hj => ?_))
    show qu M v ((v + 1) % 12) ((20 * (30 * v + 11) + (i * 20 + j)) / 20) ((20 * (30 * v + 11) + (i * 20 + j)) % 20) = _
    rw [show (20 * (30 * v + 11) + (i * 20 + j)) / 20 = 30 * v + 11 + i by omega, show (20 * (30 * v + 11) + (i * 20 + j)) % 20 = j by omega]
  · intro i hi
    exact qu_out M hv (by omega) (by omega)
  · intro i hi
    exact qu_out M hv (by omega) (by omega)
theorem rd_seam {A4 A6 : Nat → Nat → Int32} (h : RRd A4 A6) (p1 : Int32) :
    ∃ r B6, F_X5_seam A4 p1 = some r ∧ F_X6_seam A6 p1 = some (r, B6) ∧ RRd A4 B6 ∧ ∀ j, 2 < j → B6 j = A6 j := by
  have h10 : ¬ (1 : Int32) = 0 := by decide
  unfold F_X5_seam F_X4_quarrelsBehind F_X6_seam
  rcases isIn_N p1 12 (by decide) (by decide) with ⟨v, hv, e1, f1, a1, b1⟩ | ⟨f1, ab1⟩
  · subst e1
    have e2 : ((nI v + 1) - (nI v + 1) / 12 * 12) = nI ((v + 1) % 12) := by rw [nI_1, show (12 : Int32) = nI 12 from rfl, pk_rem (by omega) (by decide) (by decide)]
    obtain ⟨B6, g1, g2, g3⟩ := sm_m (J := fun (x2 : Int32) (A6 : Nat → Nat → Int32) => some (x2, A6)) hv 7200 0 FU 0 A6 (by omega) (by unfold FU; omega) h.2.1 rfl
    simp only [nm_eq]
    rw [if_neg a1, if_pos (show nI v < 12 by rw [show (12 : Int32) = nI 12 from rfl]; exact nI_lt hv (by decide)), e2, show (11 : Int32) = nI 11 from rfl, sx_out hv (by omega) 8 11 FU 0 (by omega) (by unfold FU; omega), bd_some]
    rw [show F_X6_isIn (nI v) 0 (nI 11) = some 1 from f1, bd_some, if_neg h10]
    rw [show L_X6_seam_16 (fun x2 A6 => some (x2, A6)) FU (nI v) 0 0 A6 = some (qs (fun p => qu (A6 0) v ((v + 1) % 12) (p / 20) (p % 20)) 7200 0 0, B6) from g1]
    refine ⟨_, B6, rfl, ?_, h.seen g2 g3, fun j hj => g3 j (by omega) (by omega)⟩
    rw [qs_sm, sxS_sm, h.1, ← seam_sum _ hv]
    simp only [Nat.zero_add]
  · have c2 : (bd (if p1 < 0 then some (-1) else if p1 < 12 then L_X4_quarrelsBehind_25 A4 (fun x3 => some x3) FU p1 ((p1 + 1) - (p1 + 1) / 12 * 12) 0 11 else some (-1)) fun z_1 => some z_1) = some (-1) := by
      by_cases c : p1 < 0
      · rw [if_pos c, bd_some]
      · rw [if_neg c, if_neg, bd_some]
        have := ab1.elim (fun h => absurd h c) id
        rw [i_lt]
        rw [i_le] at this
        have e12 : (nI 12).toInt = 12 := rfl
        have e13 : (12 : Int32).toInt = 12 := rfl
        omega
    simp only [nm_eq]
    rw [c2, show F_X6_isIn p1 0 11 = some 0 from f1, bd_some, if_pos rfl]
    exact ⟨_, A6, rfl, rfl, h, fun _ _ => rfl⟩
theorem xp_loop {A4 : Nat → Nat → Int32} {J : Int32 → Option Int32} : ∀ (k q n : Nat) (a : Int32), q + k = 72 → k + 1 ≤ n → L_X4_colouredPlaces_4 A4 J n a (nI q) = J (qs (A4 1) k q a) := by
  intro k
  induction k with
  | zero =>
    intro q n a h1 h2
    obtain ⟨n, rfl⟩ : ∃ k, n = k + 1 := ⟨n - 1, by omega⟩
    rw [L_X4_colouredPlaces_4.eq_2, show (72 : Int32) = nI 72 from rfl, if_pos (nI_le (by omega) (by omega))]
    rfl
  | succ k ih =>
    intro q n a h1 h2
    obtain ⟨n, rfl⟩ : ∃ k, n = k + 1 := ⟨n - 1, by omega⟩
    rw [L_X4_colouredPlaces_4.eq_2, show (72 : Int32) = nI 72 from rfl, if_neg (nI_ge (by omega) (by omega)), ix_nI (by omega) (by decide), nI_clamp (by omega), nm_eq, nm_eq, nI_1, qs]
    exact ih (q + 1) n _ (by omega) (by omega)
def fin2 (f : Nat → Int32) (q : Nat) : Int32 := if f q = 2 then 1 else 0
theorem xf_loop {A2 : Nat → Nat → Int32} {J : Int32 → Option Int32} : ∀ (k q n : Nat) (a : Int32), q + k = 72 → k + 1 ≤ n → L_X2_finishedSquares_4 A2 J n a (nI q) = J (qs (fin2 (A2 3)) k q a) := by
  intro k
  induction k with
  | zero =>
    intro q n a h1 h2
    obtain ⟨n, rfl⟩ : ∃ k, n = k + 1 := ⟨n - 1, by omega⟩
    rw [L_X2_finishedSquares_4.eq_2, nm_eq, show (72 : Int32) = nI 72 from rfl, if_pos (nI_le (by omega) (by omega))]
    rfl
  | succ k ih =>
    intro q n a h1 h2
    obtain ⟨n, rfl⟩ : ∃ k, n = k + 1 := ⟨n - 1, by omega⟩
    rw [L_X2_finishedSquares_4.eq_2, nm_eq, show (72 : Int32) = nI 72 from rfl, if_neg (nI_ge (by omega) (by omega)), ix_nI (by omega) (by decide), nI_clamp (by omega), qs, ← ih (q + 1) n _ (by omega) (by omega)]
    unfold fin2
    by_cases c : A2 3 q = 2
    · simp only [if_pos c, nm_eq, nI_1]
    · simp only [if_neg c, nm_eq, nI_1]
theorem mf_loop {S6 : Nat → Int32} {A6 : Nat → Nat → Int32} {J : Int32 → (Nat → Nat → Int32) → Option (Int32 × (Nat → Nat → Int32))} : ∀ (k q n : Nat) (a : Int32), q + k = 72 → k + 1 ≤ n → L_X6_count_96 S6 J n a (nI q) A6 = J (qs (fin2 (A6 7)) k q a) A6 := by
  intro k
  induction k with
  | zero =>
    intro q n a h1 h2
    obtain ⟨n, rfl⟩ : ∃ k, n = k + 1 := ⟨n - 1, by omega⟩
    rw [L_X6_count_96.eq_2, nm_eq, show (72 : Int32) = nI 72 from rfl, if_pos (nI_le (by omega) (by omega))]
    rfl
  | succ k ih =>
    intro q n a h1 h2
    obtain ⟨n, rfl⟩ : ∃ k, n = k + 1 := ⟨n - 1, by omega⟩
    rw [L_X6_count_96.eq_2, nm_eq, show (72 : Int32) = nI 72 from rfl, if_neg (nI_ge (by omega) (by omega)), ix_nI (by omega) (by decide), nI_clamp (by omega), qs, ← ih (q + 1) n _ (by omega) (by omega)]
    unfold fin2
    by_cases c : A6 7 q = 2
    · simp only [if_pos c, nm_eq, nI_1]
    · simp only [if_neg c, nm_eq, nI_1]
theorem all_count {S5 S2 S0 S6 : Nat → Int32} {A2 A4 A0 A6 : Nat → Nat → Int32} (hR : RRd A4 A6) (hP : RPa S2 A2 S6 A6) (hT : RTp S0 A0 S6 A6) (hH : S5 6 = S6 21) (p1 : Int32) :
    ∃ r B6, F_X5_count S5 S2 A2 A4 S0 p1 = some r ∧ F_X6_count S6 A6 p1 = some (r, B6) ∧ RRd A4 B6 ∧ ∀ j, 2 < j → B6 j = A6 j := by
  obtain ⟨hs, g, d, e1, e2, e3, e4, -⟩ := hP
  obtain ⟨t, -, t1, t2, -⟩ := hT
  unfold F_X5_count F_X6_count F_X2_today F_X2_gangs F_X0_bytes F_X4_colouredPlaces F_X2_finishedSquares
  simp only [nm_eq]
  by_cases c0 : p1 = 0
  · rw [if_pos c0, if_pos c0, bd_some, e3, e4]; exact ⟨_, A6, rfl, rfl, hR, fun _ _ => rfl⟩
  rw [if_neg c0, if_neg c0]
  by_cases c1 : p1 = 1
  · rw [if_pos c1, if_pos c1, bd_some, e1, e2]; exact ⟨_, A6, rfl, rfl, hR, fun _ _ => rfl⟩
  rw [if_neg c1, if_neg c1]
  by_cases c2 : p1 = 2
  · rw [if_pos c2, if_pos c2, hH]; exact ⟨_, A6, rfl, rfl, hR, fun _ _ => rfl⟩
  rw [if_neg c2, if_neg c2]
  by_cases c3 : p1 = 3
  · rw [if_pos c3, if_pos c3, bd_some, t1, t2]; exact ⟨_, A6, rfl, rfl, hR, fun _ _ => rfl⟩
  rw [if_neg c3, if_neg c3]
  by_cases c4 : p1 = 4
  · rw [if_pos c4, if_pos c4, show (0 : Int32) = nI 0 from rfl, xp_loop 72 0 FU _ (by omega) (by unfold FU; omega), bd_some]
    obtain ⟨B6, g1, g2, g3⟩ := cp_loop (S6 := S6) (J := fun (x2 : Int32) (A6 : Nat → Nat → Int32) => some (x2, A6)) 7200 0 FU (nI 0) A6 (by omega) (by unfold FU; omega) hR.2.1 rfl
    rw [g1]
    refine ⟨_, B6, rfl, ?_, hR.seen g2 g3, fun j hj => g3 j (by omega) (by omega)⟩
    rw [qs_sm, qs_sm]
    simp only [Nat.zero_add]
    rw [sq_sum, ← hR.1, sm_congr 72 hR.2.2]
  rw [if_neg c4, if_neg c4]
  by_cases c5 : p1 = 5
  · rw [if_pos c5, if_pos c5, show (0 : Int32) = nI 0 from rfl, xf_loop 72 0 FU _ (by omega) (by unfold FU; omega), bd_some, mf_loop 72 0 FU _ (by omega) (by unfold FU; omega), hs 3 (by omega) (by omega)]
    exact ⟨_, A6, rfl, rfl, hR, fun _ _ => rfl⟩
  rw [if_neg c5, if_neg c5]
  exact ⟨_, A6, rfl, rfl, hR, fun _ _ => rfl⟩
