/-! a day's work of one gang, in the class (o = 0) and in the model (o = 4) -/
def dV (o : Nat) (A : Nat → Nat → Int32) (i q : Nat) : Int32 := if A (5 + o) q - A (1 + o) i < 0 then 0 else A (5 + o) q - A (1 + o) i
def dB (o : Nat) (A : Nat → Nat → Int32) (i q : Nat) : Nat → Nat → Int32 := va_up A (5 + o) (upd (A (5 + o)) q (dV o A i q))
def dC (o : Nat) (B : Nat → Nat → Int32) (q : Nat) : Nat → Nat → Int32 := va_up B (3 + o) (upd (B (3 + o)) q (B (3 + o) q + 1))
def dD (o : Nat) (B : Nat → Nat → Int32) (q : Nat) (t : Int32) : Nat → Nat → Int32 := if B (3 + o) q = 1 then va_up B (6 + o) (upd (B (6 + o)) q t) else va_up B (7 + o) (upd (B (7 + o)) q t)
def dE1 (o : Nat) (B : Nat → Nat → Int32) (i q : Nat) : Nat → Nat → Int32 := va_up B (8 + o) (upd (B (8 + o)) q (nI i))
def dE2 (o : Nat) (B : Nat → Nat → Int32) (q : Nat) : Nat → Nat → Int32 := va_up B (4 + o) (upd (B (4 + o)) q (-1))
def dE3 (o : Nat) (B : Nat → Nat → Int32) (i : Nat) : Nat → Nat → Int32 := va_up B (2 + o) (upd (B (2 + o)) i (-1))
def dW (o : Nat) (A : Nat → Nat → Int32) (i q : Nat) (t : Int32) : Nat → Nat → Int32 :=
  if dV o A i q = 0 then dE3 o (dE2 o (dE1 o (dD o (dC o (dB o A i q) q) q t) i q) q) i else dB o A i q
theorem isSq_m1 : F_X5_isSquare (-1) = some 0 := by decide
theorem isSq_nI {q : Nat} (hq : q < 72) : F_X5_isSquare (nI q) = some 1 := by
  unfold F_X5_isSquare
  rw [if_neg (nI_pos (by omega)), if_neg (by rw [show (72 : Int32) = nI 72 from rfl, nI_leI (by decide) (by omega)]; omega)]
theorem isG_nI {S2 : Nat → Int32} {g i : Nat} (h : S2 10 = nI g) (hg : g ≤ 6) (hi : i < g) : F_X2_isGang S2 (nI i) = some 1 := by
  unfold F_X2_isGang
  rw [if_neg (nI_pos (by omega)), h, if_neg (by rw [nI_leI (by omega) (by omega)]; omega), if_neg (by rw [show (6 : Int32) = nI 6 from rfl, nI_leI (by decide) (by omega)]; omega)]
theorem isG_no {S2 : Nat → Int32} {g i : Nat} (h : S2 10 = nI g) (hg : g ≤ i) (hi : i < 6) : F_X2_isGang S2 (nI i) = some 0 := by
  unfold F_X2_isGang
  rw [if_neg (nI_pos (by omega)), h, if_pos (by rw [nI_leI (by omega) (by omega)]; omega)]
theorem wad_idle {S2 : Nat → Int32} {A2 : Nat → Nat → Int32} {g i : Nat} (h : S2 10 = nI g) (hg : g ≤ 6) (hi : i < 6) : F_X2_workADay S2 A2 (nI i) (-1) = some A2 := by
  unfold F_X2_workADay
  rcases Nat.lt_or_ge i g with c | c
  · rw [isG_nI h hg c, bd_some, if_neg (by decide), isSq_m1, bd_some, if_pos rfl]
  · rw [isG_no h c hi, bd_some, if_pos rfl]
theorem endC {S2 : Nat → Int32} {A2 : Nat → Nat → Int32} {g i q : Nat} (h : S2 10 = nI g) (hg : g ≤ 6) (hi : i < g) (hq : q < 72) : F_X2_endCoat S2 A2 (nI i) (nI q) = some (dE3 0 (dE2 0 (dE1 0 (dD 0 (dC 0 A2 q) q (S2 11)) i q) q) i) := by
  have hcq : (nI q).toNatClampNeg = q := nI_clamp (by omega)
  have hci : (nI i).toNatClampNeg = i := nI_clamp (by omega)
  unfold F_X2_endCoat
  rw [nm_eq, isG_nI h hg hi, bd_some, if_neg (by decide), isSq_nI hq, bd_some, if_neg (by decide)]
  simp only [ix_nI hq (by decide), hcq, hci, ix_nI (show i < 6 by omega) (by decide), nm_eq]
  by_cases c : (dC 0 A2 q) 3 q = 1
  · have c' : va_up A2 3 (upd (A2 3) q (A2 3 q + 1)) 3 q = 1 := c
    rw [if_pos c']
    unfold dD
    rw [if_pos (show dC 0 A2 q (3 + 0) q = 1 from c)]
    rfl
  · have c' : ¬ va_up A2 3 (upd (A2 3) q (A2 3 q + 1)) 3 q = 1 := c
    rw [if_neg c']
    unfold dD
    rw [if_neg (show ¬ dC 0 A2 q (3 + 0) q = 1 from c)]
    rfl
theorem wad_some {S2 : Nat → Int32} {A2 : Nat → Nat → Int32} {g i q : Nat} (h : S2 10 = nI g) (hg : g ≤ 6) (hi : i < g) (hq : q < 72) : F_X2_workADay S2 A2 (nI i) (nI q) = some (dW 0 A2 i q (S2 11)) := by
  have hcq : (nI q).toNatClampNeg = q := nI_clamp (by omega)
  have hci : (nI i).toNatClampNeg = i := nI_clamp (by omega)
  unfold F_X2_workADay
  rw [isG_nI h hg hi, bd_some, if_neg (by decide), isSq_nI hq, bd_some, if_neg (by decide)]
  simp only [ix_nI hq (by decide), hcq, hci, ix_nI (show i < 6 by omega) (by decide), nm_eq]
  have ev : va_up A2 5 (upd (A2 5) q (if A2 5 q - A2 1 i < 0 then 0 else A2 5 q - A2 1 i)) = dB 0 A2 i q := rfl
  have e5 : dB 0 A2 i q 5 q = dV 0 A2 i q := by unfold dB; simp [upA_at, upd_at]
  rw [ev, e5]
  unfold dW
  by_cases c : dV 0 A2 i q = 0
  · rw [if_pos c, if_pos c, endC h hg hi hq, bd_some]
  · rw [if_neg c, if_neg c]
theorem xd_idle {J : (Nat → Int32) → (Nat → Nat → Int32) → Option (Int32 × (Nat → Int32) × (Nat → Nat → Int32))} {S2 : Nat → Int32} {A2 : Nat → Nat → Int32} {g i n : Nat} (h : S2 10 = nI g) (hg : g ≤ 6) (hi : i < 6) (hb : A2 2 i = -1) : L_X2_passDay_14 J (n + 1) (nI i) S2 A2 = L_X2_passDay_14 J n (nI (i + 1)) S2 A2 := by
  have hci : (nI i).toNatClampNeg = i := nI_clamp (by omega)
  rw [L_X2_passDay_14.eq_2, if_neg (by rw [show (6 : Int32) = nI 6 from rfl, nI_leI (by decide) (by omega)]; omega), ix_nI hi (by decide), hci, hb, wad_idle h hg hi, bd_some, nm_eq, nI_1]
theorem xd_work {J : (Nat → Int32) → (Nat → Nat → Int32) → Option (Int32 × (Nat → Int32) × (Nat → Nat → Int32))} {S2 : Nat → Int32} {A2 : Nat → Nat → Int32} {g i q n : Nat} (h : S2 10 = nI g) (hg : g ≤ 6) (hi : i < g) (hq : q < 72) (hb : A2 2 i = nI q) : L_X2_passDay_14 J (n + 1) (nI i) S2 A2 = L_X2_passDay_14 J n (nI (i + 1)) S2 (dW 0 A2 i q (S2 11)) := by
  have hci : (nI i).toNatClampNeg = i := nI_clamp (by omega)
  rw [L_X2_passDay_14.eq_2, if_neg (by rw [show (6 : Int32) = nI 6 from rfl, nI_leI (by decide) (by omega)]; omega), ix_nI (show i < 6 by omega) (by decide), hci, hb, wad_some h hg hi hq, bd_some, nm_eq, nI_1]
theorem xd_end {J : (Nat → Int32) → (Nat → Nat → Int32) → Option (Int32 × (Nat → Int32) × (Nat → Nat → Int32))} {S2 : Nat → Int32} {A2 : Nat → Nat → Int32} {n : Nat} : L_X2_passDay_14 J (n + 1) (nI 6) S2 A2 = J S2 A2 := by
  rw [L_X2_passDay_14.eq_2, if_pos (show (6 : Int32) ≤ nI 6 by decide)]
theorem dv_eq (x : Int32) : (if (0 : Int32) < x then x else 0) = (if x < 0 then 0 else x) := by
  have e0 : (0 : Int32).toInt = 0 := rfl
  by_cases h1 : (0 : Int32) < x
  · rw [if_pos h1, if_neg (by rw [i_lt] at h1 ⊢; omega)]
  · rw [if_neg h1]
    by_cases h2 : x < 0
    · rw [if_pos h2]
    · rw [if_neg h2]; exact i_eq.mpr (by rw [i_lt] at h1 h2; omega)
theorem dV_nn (o : Nat) (A : Nat → Nat → Int32) (i q : Nat) : 0 ≤ (dV o A i q).toInt := by
  unfold dV
  by_cases h : A (5 + o) q - A (1 + o) i < 0
  · rw [if_pos h]; decide
  · rw [if_neg h]; rw [i_lt] at h
    have e0 : (0 : Int32).toInt = 0 := rfl
    omega
theorem md_end {J : (Nat → Int32) → (Nat → Nat → Int32) → Option (Int32 × (Nat → Int32) × (Nat → Nat → Int32))} {S6 : Nat → Int32} {A6 : Nat → Nat → Int32} {g n : Nat} (h : S6 4 = nI g) (hg : g ≤ 6) : L_X6_day_14 J (n + 1) (nI g) S6 A6 = J S6 A6 := by
  rw [L_X6_day_14.eq_2, nm_eq, nm_eq, h, if_pos (by rw [nI_leI (by omega) (by omega)]; omega)]
theorem md_idle {J : (Nat → Int32) → (Nat → Nat → Int32) → Option (Int32 × (Nat → Int32) × (Nat → Nat → Int32))} {S6 : Nat → Int32} {A6 : Nat → Nat → Int32} {g i n : Nat} (h : S6 4 = nI g) (hg : g ≤ 6) (hi : i < g) (hb : A6 6 i = -1) : L_X6_day_14 J (n + 1) (nI i) S6 A6 = L_X6_day_14 J n (nI (i + 1)) S6 A6 := by
  have hci : (nI i).toNatClampNeg = i := nI_clamp (by omega)
  rw [L_X6_day_14.eq_2, nm_eq, nm_eq, h, if_neg (by rw [nI_leI (by omega) (by omega)]; omega), ix_nI (show i < 6 by omega) (by decide), hci, hb, nm_eq, if_pos rfl]
  show L_X6_day_14 J n (nI i + 1) S6 A6 = _
  rw [nI_1]
theorem md_work {J : (Nat → Int32) → (Nat → Nat → Int32) → Option (Int32 × (Nat → Int32) × (Nat → Nat → Int32))} {S6 : Nat → Int32} {A6 : Nat → Nat → Int32} {g i q n : Nat} (h : S6 4 = nI g) (hg : g ≤ 6) (hi : i < g) (hq : q < 72) (hb : A6 6 i = nI q) : L_X6_day_14 J (n + 1) (nI i) S6 A6 = L_X6_day_14 J n (nI (i + 1)) S6 (dW 4 A6 i q (S6 3)) := by
  have hci : (nI i).toNatClampNeg = i := nI_clamp (by omega)
  have hcq : (nI q).toNatClampNeg = q := nI_clamp (by omega)
  have hne : ¬ nI q = -1 := fun e => by
    have := congrArg Int32.toInt e
    rw [nI_toInt (by omega)] at this
    have e1 : (-1 : Int32).toInt = -1 := rfl
    omega
  rw [L_X6_day_14.eq_2, nm_eq, nm_eq, h, if_neg (by rw [nI_leI (by omega) (by omega)]; omega), ix_nI (show i < 6 by omega) (by decide), hci, hb, nm_eq, if_neg hne]
  simp only [ix_nI hq (by decide), hcq, hci, ix_nI (show i < 6 by omega) (by decide), nm_eq, dv_eq, nI_1]
  have ev : va_up A6 9 (upd (A6 9) q (if A6 9 q - A6 5 i < 0 then 0 else A6 9 q - A6 5 i)) = dB 4 A6 i q := rfl
  have e5 : dB 4 A6 i q 9 q = dV 4 A6 i q := by unfold dB; simp [upA_at, upd_at]
  rw [ev, e5]
  have hnn := dV_nn 4 A6 i q
  have e0 : (0 : Int32).toInt = 0 := rfl
  unfold dW
  by_cases c : dV 4 A6 i q = 0
  · rw [if_pos (show dV 4 A6 i q ≤ 0 by rw [c]; decide), if_pos c]
    by_cases c2 : dC 4 (dB 4 A6 i q) q 7 q = 1
    · have c' : va_up (dB 4 A6 i q) 7 (upd (dB 4 A6 i q 7) q (dB 4 A6 i q 7 q + 1)) 7 q = 1 := c2
      rw [if_pos c']
      unfold dD
      rw [if_pos (show dC 4 (dB 4 A6 i q) q (3 + 4) q = 1 from c2)]
      rfl
    · have c' : ¬ va_up (dB 4 A6 i q) 7 (upd (dB 4 A6 i q 7) q (dB 4 A6 i q 7 q + 1)) 7 q = 1 := c2
      rw [if_neg c']
      unfold dD
      rw [if_neg (show ¬ dC 4 (dB 4 A6 i q) q (3 + 4) q = 1 from c2)]
      rfl
  · rw [if_neg (fun hle => c (i_eq.mpr (by rw [i_le] at hle; omega))), if_neg c]

/-- the class's rows 1..8 are the model's 5..12 -/
def SlR (A2 A6 : Nat → Nat → Int32) : Prop := ∀ k, 1 ≤ k → k ≤ 8 → A2 k = A6 (k + 4)
theorem SlR.up {A2 A6 : Nat → Nat → Int32} (h : SlR A2 A6) (j : Nat) (f : Nat → Int32) : SlR (va_up A2 j f) (va_up A6 (j + 4) f) := by
  intro k a b
  rw [upA_at, upA_at]
  by_cases e : k = j
  · rw [if_pos e, if_pos (by omega)]
  · rw [if_neg e, if_neg (by omega)]; exact h k a b
theorem slr_dW {A2 A6 : Nat → Nat → Int32} (h : SlR A2 A6) (i q : Nat) (t : Int32) : SlR (dW 0 A2 i q t) (dW 4 A6 i q t) := by
  have e5 := h 5 (by omega) (by omega)
  have e1 := h 1 (by omega) (by omega)
  have ev : dV 0 A2 i q = dV 4 A6 i q := by unfold dV; simp only [Nat.add_zero]; rw [e5, e1]
  have hB : SlR (dB 0 A2 i q) (dB 4 A6 i q) := by
    unfold dB
    rw [ev]
    simp only [Nat.add_zero]
    rw [e5]
    exact h.up 5 _
  have hC : ∀ {B2 B6 : Nat → Nat → Int32}, SlR B2 B6 → SlR (dC 0 B2 q) (dC 4 B6 q) := by
    intro B2 B6 hb
    unfold dC
    simp only [Nat.add_zero]
    rw [hb 3 (by omega) (by omega)]
    exact hb.up 3 _
  have hD : ∀ {B2 B6 : Nat → Nat → Int32}, SlR B2 B6 → SlR (dD 0 B2 q t) (dD 4 B6 q t) := by
    intro B2 B6 hb
    unfold dD
    simp only [Nat.add_zero]
    rw [hb 3 (by omega) (by omega), hb 6 (by omega) (by omega), hb 7 (by omega) (by omega)]
    by_cases c : B6 (3 + 4) q = 1
    · rw [if_pos c, if_pos c]; exact hb.up 6 _
    · rw [if_neg c, if_neg c]; exact hb.up 7 _
  have hE1 : ∀ {B2 B6 : Nat → Nat → Int32}, SlR B2 B6 → SlR (dE1 0 B2 i q) (dE1 4 B6 i q) := by
    intro B2 B6 hb
    unfold dE1
    simp only [Nat.add_zero]
    rw [hb 8 (by omega) (by omega)]
    exact hb.up 8 _
  have hE2 : ∀ {B2 B6 : Nat → Nat → Int32}, SlR B2 B6 → SlR (dE2 0 B2 q) (dE2 4 B6 q) := by
    intro B2 B6 hb
    unfold dE2
    simp only [Nat.add_zero]
    rw [hb 4 (by omega) (by omega)]
    exact hb.up 4 _
  have hE3 : ∀ {B2 B6 : Nat → Nat → Int32}, SlR B2 B6 → SlR (dE3 0 B2 i) (dE3 4 B6 i) := by
    intro B2 B6 hb
    unfold dE3
    simp only [Nat.add_zero]
    rw [hb 2 (by omega) (by omega)]
    exact hb.up 2 _
  unfold dW
  rw [ev]
  by_cases c : dV 4 A6 i q = 0
  · rw [if_pos c, if_pos c]; exact hE3 (hE2 (hE1 (hD (hC hB))))
  · rw [if_neg c, if_neg c]; exact hB
theorem dW_frame (A6 : Nat → Nat → Int32) (i q : Nat) (t : Int32) (j : Nat) (hj : j < 6 ∨ 12 < j) : dW 4 A6 i q t j = A6 j := by
  have u : ∀ (B : Nat → Nat → Int32) (k : Nat) (f : Nat → Int32), 6 ≤ k → k ≤ 12 → va_up B k f j = B j := fun B k f a b => by rw [upA_at, if_neg (by omega)]
  have hB : dB 4 A6 i q j = A6 j := u _ _ _ (by omega) (by omega)
  unfold dW
  by_cases c : dV 4 A6 i q = 0
  · rw [if_pos c]
    unfold dE3 dE2 dE1
    rw [u _ _ _ (by omega) (by omega), u _ _ _ (by omega) (by omega), u _ _ _ (by omega) (by omega)]
    unfold dD
    by_cases c2 : dC 4 (dB 4 A6 i q) q (3 + 4) q = 1
    · rw [if_pos c2, u _ _ _ (by omega) (by omega)]; unfold dC; rw [u _ _ _ (by omega) (by omega), hB]
    · rw [if_neg c2, u _ _ _ (by omega) (by omega)]; unfold dC; rw [u _ _ _ (by omega) (by omega), hB]
  · rw [if_neg c, hB]
theorem dW_not {A : Nat → Nat → Int32} {i q : Nat} {t : Int32} (c : ¬ dV 0 A i q = 0) (k : Nat) (hk : k ≠ 5) : dW 0 A i q t k = A k := by
  unfold dW
  rw [if_neg c]
  unfold dB
  rw [upA_at, if_neg hk]
theorem dW_fin {A : Nat → Nat → Int32} {i q : Nat} {t : Int32} (c : dV 0 A i q = 0) :
    dW 0 A i q t 1 = A 1 ∧ dW 0 A i q t 2 = upd (A 2) i (-1) ∧ dW 0 A i q t 3 = upd (A 3) q (A 3 q + 1) ∧ dW 0 A i q t 4 = upd (A 4) q (-1) ∧ (dW 0 A i q t 6 = upd (A 6) q t ∨ dW 0 A i q t 6 = A 6) := by
  unfold dW
  rw [if_pos c]
  unfold dD
  by_cases c2 : dC 0 (dB 0 A i q) q (3 + 0) q = 1
  · rw [if_pos c2]
    simp [dE3, dE2, dE1, dC, dB, upA_at]
  · rw [if_neg c2]
    simp [dE3, dE2, dE1, dC, dB, upA_at]
theorem PaI.dayI {g d i q : Nat} {A2 : Nat → Nat → Int32} (h : PaI g d A2) (hi : i < g) (hq : q < 72) (hb : A2 2 i = nI q) : PaI g d (dW 0 A2 i q (nI d)) := by
  by_cases c : dV 0 A2 i q = 0
  · obtain ⟨e1, e2, e3, e4, e6⟩ := dW_fin (t := nI d) c
    obtain ⟨h1, h2, h3, h4, h5, h6⟩ := h
    have hm : (-1 : Int32).toInt = -1 := rfl
    have h1' : (1 : Int32).toInt = 1 := rfl
    have hne : A2 2 i ≠ -1 := fun e => by
      rw [hb] at e
      have := congrArg Int32.toInt e
      rw [nI_toInt (by omega)] at this
      omega
    obtain ⟨hq4, hq3⟩ : A2 4 q = nI i ∧ (A2 3 q).toInt ≤ 1 := by
      rcases h4 i (by omega) with b | ⟨q', b1, b2, b3, b4, b5⟩
      · exact absurd b hne
      · have : q' = q := (nI_eq (by omega) (by omega)).mp (b2.symm.trans hb)
        subst this
        exact ⟨b4, b5⟩
    refine ⟨h1, h2, ?_, ?_, ?_, ?_⟩
    · rw [e1]; exact h3
    · intro j hj
      rw [e2, e3, e4, upd_at]
      by_cases ej : j = i
      · rw [if_pos ej]; exact Or.inl rfl
      · rw [if_neg ej]
        rcases h4 j hj with b | ⟨q', b1, b2, b3, b4, b5⟩
        · exact Or.inl b
        · have hqq : q' ≠ q := fun e => ej (by
            subst e
            exact (nI_eq (by omega) (by omega)).mp (b4.symm.trans hq4))
          exact Or.inr ⟨q', b1, b2, b3, by rw [upd_at, if_neg hqq]; exact b4, by rw [upd_at, if_neg hqq]; exact b5⟩
    · intro q' hq'
      rw [e3, upd_at]
      have hh := h5 q' hq'
      by_cases eq : q' = q
      · rw [if_pos eq]
        subst eq
        rw [i_add (by omega) (by omega)]
        omega
      · rw [if_neg eq]; exact hh
    · intro q' hq'
      have hh := h6 q' hq'
      rcases e6 with e | e
      · rw [e, upd_at]
        by_cases eq : q' = q
        · rw [if_pos eq, nI_toInt (by omega)]; omega
        · rw [if_neg eq]; exact hh
      · rw [e]; exact hh
  · have f := fun k hk => dW_not (t := nI d) c k hk
    obtain ⟨h1, h2, h3, h4, h5, h6⟩ := h
    refine ⟨h1, h2, ?_, ?_, ?_, ?_⟩
    · rw [f 1 (by omega)]; exact h3
    · rw [f 2 (by omega), f 3 (by omega), f 4 (by omega)]; exact h4
    · rw [f 3 (by omega)]; exact h5
    · rw [f 6 (by omega)]; exact h6
/-- the gangs from i on, in both -/
theorem day_loop {JX : (Nat → Int32) → (Nat → Nat → Int32) → Option (Int32 × (Nat → Int32) × (Nat → Nat → Int32))} {JM : (Nat → Int32) → (Nat → Nat → Int32) → Option (Int32 × (Nat → Int32) × (Nat → Nat → Int32))} {S2 S6 : Nat → Int32} {g d : Nat} (e2 : S2 10 = nI g) (e6 : S6 4 = nI g) (d2 : S2 11 = nI d) (d6 : S6 3 = nI d) :
    ∀ (m i nX nM : Nat) (A2 A6 : Nat → Nat → Int32), i + m = g → 7 ≤ i + nX → g + 1 ≤ i + nM → PaI g d A2 → SlR A2 A6 → ∃ A2' A6', L_X2_passDay_14 JX nX (nI i) S2 A2 = JX S2 A2' ∧ L_X6_day_14 JM nM (nI i) S6 A6 = JM S6 A6' ∧ PaI g d A2' ∧ SlR A2' A6' ∧ ∀ j, (j < 6 ∨ 12 < j) → A6' j = A6 j := by
  intro m
  induction m with
  | zero =>
    intro i nX nM A2 A6 hm hX hM hI hR
    have hg : g ≤ 6 := hI.1
    obtain ⟨nM, rfl⟩ : ∃ k, nM = k + 1 := ⟨nM - 1, by omega⟩
    refine ⟨A2, A6, ?_, ?_, hI, hR, fun _ _ => rfl⟩
    · -- the class goes on to six, idle
      have idle : ∀ (r i nX : Nat), i + r = 6 → g ≤ i → 7 ≤ i + nX → L_X2_passDay_14 JX nX (nI i) S2 A2 = JX S2 A2 := by
        intro r
        induction r with
        | zero =>
          intro i nX h1 h2 h3
          obtain ⟨nX, rfl⟩ : ∃ k, nX = k + 1 := ⟨nX - 1, by omega⟩
          have : i = 6 := by omega
          subst this
          exact xd_end
        | succ r ih =>
          intro i nX h1 h2 h3
          obtain ⟨nX, rfl⟩ : ∃ k, nX = k + 1 := ⟨nX - 1, by omega⟩
          have hb : A2 2 i = -1 := by
            rcases hI.2.2.2.1 i (by omega) with b | ⟨q, b1, b2, b3, b4⟩
            · exact b
            · omega
          rw [xd_idle e2 hg (by omega) hb]
          exact ih (i + 1) nX (by omega) (by omega) (by omega)
      exact idle (6 - i) i nX (by omega) (by omega) hX
    · have : i = g := by omega
      subst this
      exact md_end e6 hg
  | succ m ih =>
    intro i nX nM A2 A6 hm hX hM hI hR
    have hg : g ≤ 6 := hI.1
    obtain ⟨nX, rfl⟩ : ∃ k, nX = k + 1 := ⟨nX - 1, by omega⟩
    obtain ⟨nM, rfl⟩ : ∃ k, nM = k + 1 := ⟨nM - 1, by omega⟩
    have r2 : A6 6 = A2 2 := (hR 2 (by omega) (by omega)).symm
    rcases hI.2.2.2.1 i (by omega) with b | ⟨q, b1, b2, b3, b4⟩
    · rw [xd_idle e2 hg (by omega) b, md_idle e6 hg (by omega) (by rw [r2]; exact b)]
      exact ih (i + 1) nX nM A2 A6 (by omega) (by omega) (by omega) hI hR
    · rw [xd_work e2 hg (by omega) b1 b2, md_work e6 hg (by omega) b1 (by rw [r2]; exact b2), d2, d6]
      obtain ⟨A2', A6', f1, f2, f3, f4, f5⟩ := ih (i + 1) nX nM _ _ (by omega) (by omega) (by omega) (hI.dayI (by omega) b1 b2) (slr_dW hR i q (nI d))
      exact ⟨A2', A6', f1, f2, f3, f4, fun j hj => by rw [f5 j hj, dW_frame _ _ _ _ j hj]⟩
theorem pa_day {S2 : Nat → Int32} {A2 : Nat → Nat → Int32} {S6 : Nat → Int32} {A6 : Nat → Nat → Int32} (h : RPa S2 A2 S6 A6) :
    ∃ r S2' A2' S6' A6', F_X5_day S2 A2 = some (r, S2', A2') ∧ F_X6_day S6 A6 = some (r, S6', A6') ∧ RPa S2' A2' S6' A6' ∧ (∀ q, q ≠ 11 → S2' q = S2 q) ∧ (∀ q, q ≠ 3 → S6' q = S6 q) ∧ ∀ j, (j < 6 ∨ 12 < j) → A6' j = A6 j := by
  obtain ⟨h1, g, d, e1, e2, e3, e4, hI⟩ := id h
  have hd : d ≤ 1000 := hI.2.1
  unfold F_X5_day F_X2_passDay F_X6_day
  rw [nm_eq, nm_eq, e3, e4]
  by_cases c : d < 1000
  · have c1 : nI d < 1000 := by rw [show (1000 : Int32) = nI 1000 from rfl, nI_ltI (by omega) (by decide)]; exact c
    have c2 : ¬ nI d = 1000 := by rw [show (1000 : Int32) = nI 1000 from rfl, nI_eq (by omega) (by decide)]; omega
    rw [if_pos c1, if_neg c2, show (0 : Int32) = nI 0 from rfl]
    have hg6 := hI.1
    obtain ⟨A2', A6', f1, f2, f3, f4, f5⟩ := day_loop (JX := fun (S2 : Nat → Int32) (A2 : Nat → Nat → Int32) => nm (upd S2 11 ((S2 11) + 1)) fun S2_1 => some (S2_1 11, S2_1, A2)) (JM := fun (S6 : Nat → Int32) (A6 : Nat → Nat → Int32) => nm (upd S6 3 ((S6 3) + 1)) fun S6_1 => some (S6_1 3, S6_1, A6)) e1 e2 e3 e4 g 0 FU FU A2 A6 (by omega) (by unfold FU; omega) (by unfold FU; omega) hI h1
    rw [f1, f2]
    simp only [nm_eq, bd_some, e3, e4]
    refine ⟨nI d + 1, _, _, _, _, rfl, rfl, ⟨f4, g, d + 1, ?_, ?_, ?_, ?_, f3.1, by omega, f3.2.2.1, f3.2.2.2.1, f3.2.2.2.2.1, fun q hq => ?_⟩, fun q hq => ?_, fun q hq => ?_, f5⟩
    · rw [upd_at, if_neg (by omega)]; exact e1
    · rw [upd_at, if_neg (by omega)]; exact e2
    · rw [upd_at, if_pos rfl, nI_1]
    · rw [upd_at, if_pos rfl, nI_1]
    · have := f3.2.2.2.2.2 q hq; omega
    · rw [upd_at, if_neg hq]
    · rw [upd_at, if_neg hq]
  · have c1 : ¬ nI d < 1000 := by rw [show (1000 : Int32) = nI 1000 from rfl, nI_ltI (by omega) (by decide)]; exact c
    have c2 : nI d = 1000 := by rw [show (1000 : Int32) = nI 1000 from rfl, nI_eq (by omega) (by decide)]; omega
    rw [if_neg c1, if_pos c2, bd_some]
    exact ⟨_, _, _, _, _, rfl, rfl, h, fun _ _ => rfl, fun _ _ => rfl, fun _ _ => rfl⟩
