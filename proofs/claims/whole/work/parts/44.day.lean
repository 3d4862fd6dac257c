/-! a day's work of one gang, in the class (o = 0) and in the model (o = 4) -/
def dV (o : Nat) (A : Nat → Nat → Int32) (i q : Nat) : Int32 := if A (5 + o) q - A (1 + o) i < 0 then 0 else A (5 + o) q - A (1 + o) i
def dB (o : Nat) (A : Nat → Nat → Int32) (i q : Nat) : Nat → Nat → Int32 := va_up A (5 + o) (upd (A (5 + o)) q (dV o A i q))
def dC (o : Nat) (B : Nat → Nat → Int32) (q : Nat) : Nat → Nat → Int32 := va_up B (3 + o) (upd (B (3 + o)) q (B (3 + o) q + 1))
def dD (o : Nat) (B : Nat → Nat → Int32) (q : Nat) (t : Int32) : Nat → Nat → Int32 := if B (3 + o) q = 1 then va_up B (6 + o) (upd (B (6 + o)) q t) else va_up B (7 + o) (upd (B (7 + o)) q t)
def dE1 (o : Nat) (B : Nat → Nat → Int32) (i q : Nat) : Nat → Nat → Int32 := va_up B (8 + o) (upd (B (8 + o)) q (nI i))
def dE2 (o : Nat) (B : Nat → Nat → Int32) (q : Nat) : Nat → Nat → Int32 := va_up B (4 + o) (upd (B (4 + o)) q (-1))
def dE3 (o : Nat) (B : Nat → Nat → Int32) (i : Nat) : Nat → Nat → Int32 := va_up B (2 + o) (upd (B (2 + o)) i (-1))
def dW (o : Nat) (A : Nat → Nat → Int32) (i q : Nat) (t : Int32) : Nat → Nat → Int32 :=
  if dV o A i q = 0 then dE3 o (dE2 o (dE1 o (dD o (dC o (dB o A i q) q) q t) i q) q) i else dB o A i q
theorem isSq_m1 : F_X5_isSquare (-1) = some 0 := by decide
theorem isSq_nI {q : Nat} (hq : q < 72) : F_X5_isSquare (nI q) = some 1 := by
  unfold F_X5_isSquare
  rw [if_neg (nI_pos (by omega)), if_neg (by rw [show (72 : Int32) = nI 72 from rfl, nI_leI (by decide) (by omega)]; omega)]
theorem isG_nI {S2 : Nat → Int32} {g i : Nat} (h : S2 10 = nI g) (hg : g ≤ 6) (hi : i < g) : F_X2_isGang S2 (nI i) = some 1 := by
  unfold F_X2_isGang
  rw [if_neg (nI_pos (by omega)), h, if_neg (by rw [nI_leI (by omega) (by omega)]; omega), if_neg (by rw [show (6 : Int32) = nI 6 from rfl, nI_leI (by decide) (by omega)]; omega)]
theorem isG_no {S2 : Nat → Int32} {g i : Nat} (h : S2 10 = nI g) (hg : g ≤ i) (hi : i < 6) : F_X2_isGang S2 (nI i) = some 0 := by
  unfold F_X2_isGang
  rw [if_neg (nI_pos (by omega)), h, if_pos (by rw [nI_leI (by omega) (by omega)]; omega)]
theorem wad_idle {S2 : Nat → Int32} {A2 : Nat → Nat → Int32} {g i : Nat} (h : S2 10 = nI g) (hg : g ≤ 6) (hi : i < 6) : F_X2_workADay S2 A2 (nI i) (-1) = some A2 := by
  unfold F_X2_workADay
  rcases Nat.lt_or_ge i g with c | c
  · rw [isG_nI h hg c, bd_some, if_neg (by decide), isSq_m1, bd_some, if_pos rfl]
  · rw [isG_no h c hi, bd_some, if_pos rfl]
theorem endC {S2 : Nat → Int32} {A2 : Nat → Nat → Int32} {g i q : Nat} (h : S2 10 = nI g) (hg : g ≤ 6) (hi : i < g) (hq : q < 72) : F_X2_endCoat S2 A2 (nI i) (nI q) = some (dE3 0 (dE2 0 (dE1 0 (dD 0 (dC 0 A2 q) q (S2 11)) i q) q) i) := by
  have hcq : (nI q).toNatClampNeg = q := nI_clamp (by omega)
  have hci : (nI i).toNatClampNeg = i := nI_clamp (by omega)
  unfold F_X2_endCoat
  rw [nm_eq, isG_nI h hg hi, bd_some, if_neg (by decide), isSq_nI hq, bd_some, if_neg (by decide)]
  simp only [ix_nI hq (by decide), hcq, hci, ix_nI (show i < 6 by omega) (by decide), nm_eq]
  by_cases c : (dC 0 A2 q) 3 q = 1
  · have c' : va_up A2 3 (upd (A2 3) q (A2 3 q + 1)) 3 q = 1 := c
    rw [if_pos c']
    unfold dD
    rw [if_pos (show dC 0 A2 q (3 + 0) q = 1 from c)]
    rfl
  · have c' : ¬ va_up A2 3 (upd (A2 3) q (A2 3 q + 1)) 3 q = 1 := c
    rw [if_neg c']
    unfold dD
    rw [if_neg (show ¬ dC 0 A2 q (3 + 0) q = 1 from c)]
    rfl
theorem wad_some {S2 : Nat → Int32} {A2 : Nat → Nat → Int32} {g i q : Nat} (h : S2 10 = nI g) (hg : g ≤ 6) (hi : i < g) (hq : q < 72) : F_X2_workADay S2 A2 (nI i) (nI q) = some (dW 0 A2 i q (S2 11)) := by
  have hcq : (nI q).toNatClampNeg = q := nI_clamp (by omega)
  have hci : (nI i).toNatClampNeg = i := nI_clamp (by omega)
  unfold F_X2_workADay
  rw [isG_nI h hg hi, bd_some, if_neg (by decide), isSq_nI hq, bd_some, if_neg (by decide)]
  simp only [ix_nI hq (by decide), hcq, hci, ix_nI (show i < 6 by omega) (by decide), nm_eq]
  have ev : va_up A2 5 (upd (A2 5) q (if A2 5 q - A2 1 i < 0 then 0 else A2 5 q - A2 1 i)) = dB 0 A2 i q := rfl
  have e5 : dB 0 A2 i q 5 q = dV 0 A2 i q := by unfold dB; simp [upA_at, upd_at]
  rw [ev, e5]
  unfold dW
  by_cases c : dV 0 A2 i q = 0
  · rw [if_pos c, if_pos c, endC h hg hi hq, bd_some]
  · rw [if_neg c, if_neg c]
theorem xd_idle {J : (Nat → Int32) → (Nat → Nat → Int32) → Option (Int32 × (Nat → Int32) × (Nat → Nat → Int32))} {S2 : Nat → Int32} {A2 : Nat → Nat → Int32} {g i n : Nat} (h : S2 10 = nI g) (hg : g ≤ 6) (hi : i < 6) (hb : A2 2 i = -1) : L_X2_passDay_14 J (n + 1) (nI i) S2 A2 = L_X2_passDay_14 J n (nI (i + 1)) S2 A2 := by
  have hci : (nI i).toNatClampNeg = i := nI_clamp (by omega)
  rw [L_X2_passDay_14.eq_2, if_neg (by rw [show (6 : Int32) = nI 6 from rfl, nI_leI (by decide) (by omega)]; omega), ix_nI hi (by decide), hci, hb, wad_idle h hg hi, bd_some, nm_eq, nI_1]
theorem xd_work {J : (Nat → Int32) → (Nat → Nat → Int32) → Option (Int32 × (Nat → Int32) × (Nat → Nat → Int32))} {S2 : Nat → Int32} {A2 : Nat → Nat → Int32} {g i q n : Nat} (h : S2 10 = nI g) (hg : g ≤ 6) (hi : i < g) (hq : q < 72) (hb : A2 2 i = nI q) : L_X2_passDay_14 J (n + 1) (nI i) S2 A2 = L_X2_passDay_14 J n (nI (i + 1)) S2 (dW 0 A2 i q (S2 11)) := by
  have hci : (nI i).toNatClampNeg = i := nI_clamp (by omega)
  rw [L_X2_passDay_14.eq_2, if_neg (by rw [show (6 : Int32) = nI 6 from rfl, nI_leI (by decide) (by omega)]; omega), ix_nI (show i < 6 by omega) (by decide), hci, hb, wad_some h hg hi hq, bd_some, nm_eq, nI_1]
theorem xd_end {J : (Nat → Int32) → (Nat → Nat → Int32) → Option (Int32 × (Nat → Int32) × (Nat → Nat → Int32))} {S2 : Nat → Int32} {A2 : Nat → Nat → Int32} {n : Nat} : L_X2_passDay_14 J (n + 1) (nI 6) S2 A2 = J S2 A2 := by
  rw [L_X2_passDay_14.eq_2, if_pos (show (6 : Int32) ≤ nI 6 by decide)]
theorem dv_eq (x : Int32) : (if (0 : Int32) < x then x else 0) = (if x < 0 then 0 else x) := by
  have e0 : (0 : Int32).toInt = 0 := rfl
  by_cases h1 : (0 : Int32) < x
  · rw [if_pos h1, if_neg (by rw [i_lt] at h1 ⊢; omega)]
  · rw [if_neg h1]
    by_cases h2 : x < 0
    · rw [if_pos h2]
    · rw [if_neg h2]; exact i_eq.mpr (by rw [i_lt] at h1 h2; omega)
theorem dV_nn (o : Nat) (A : Nat → Nat → Int32) (i q : Nat) : 0 ≤ (dV o A i q).toInt := by
  unfold dV
  by_cases h : A (5 + o) q - A (1 + o) i < 0
  · rw [if_pos h]; decide
  · rw [if_neg h]; rw [i_lt] at h
    have e0 : (0 : Int32).toInt = 0 := rfl
    omega
theorem md_end {J : (Nat → Int32) → (Nat → Nat → Int32) → Option (Int32 × (Nat → Int32) × (Nat → Nat → Int32))} {S6 : Nat → Int32} {A6 : Nat → Nat → Int32} {g n : Nat} (h : S6 4 = nI g) (hg : g ≤ 6) : L_X6_day_14 J (n + 1) (nI g) S6 A6 = J S6 A6 := by
  rw [L_X6_day_14.eq_2, nm_eq, nm_eq, h, if_pos (by rw [nI_leI (by omega) (by omega)]; omega)]
theorem md_idle {J : (Nat → Int32) → (Nat → Nat → Int32) → Option (Int32 × (Nat → Int32) × (Nat → Nat → Int32))} {S6 : Nat → Int32} {A6 : Nat → Nat → Int32} {g i n : Nat} (h : S6 4 = nI g) (hg : g ≤ 6) (hi : i < g) (hb : A6 6 i = -1) : L_X6_day_14 J (n + 1) (nI i) S6 A6 = L_X6_day_14 J n (nI (i + 1)) S6 A6 := by
  have hci : (nI i).toNatClampNeg = i := nI_clamp (by omega)
  rw [L_X6_day_14.eq_2, nm_eq, nm_eq, h, if_neg (by rw [nI_leI (by omega) (by omega)]; omega), ix_nI (show i < 6 by omega) (by decide), hci, hb, nm_eq, if_pos rfl]
  show L_X6_day_14 J n (nI i + 1) S6 A6 = _
  rw [nI_1]
theorem md_work {J : (Nat → Int32) → (Nat → Nat → Int32) → Option (Int32 × (Nat → Int32) × (Nat → Nat → Int32))} {S6 : Nat → Int32} {A6 : Nat → Nat → Int32} {g i q n : Nat} (h : S6 4 = nI g) (hg : g ≤ 6) (hi : i < g) (hq : q < 72) (hb : A6 6 i = nI q) : L_X6_day_14 J (n + 1) (nI i) S6 A6 = L_X6_day_14 J n (nI (i + 1)) S6 (dW 4 A6 i q (S6 3)) := by
  have hci : (nI i).toNatClampNeg = i := nI_clamp (by omega)
  have hcq : (nI q).toNatClampNeg = q := nI_clamp (by omega)
  have hne : ¬ nI q = -1 := fun e => by
    have := congrArg Int32.toInt e
    rw [nI_toInt (by omega)] at this
    have e1 : (-1 : Int32).toInt = -1 := rfl
    omega
  rw [L_X6_day_14.eq_2, nm_eq, nm_eq, h, if_neg (by rw [nI_leI (by omega) (by omega)]; omega), ix_nI (show i < 6 by omega) (by decide), hci, hb, nm_eq, if_neg hne]
  simp only [ix_nI hq (by decide), hcq, hci, ix_nI (show i < 6 by omega) (by decide), nm_eq, dv_eq, nI_1]
  have ev : va_up A6 9 (upd (A6 9) q (if A6 9 q - A6 5 i < 0 then 0 else A6 9 q - A6 5 i)) = dB 4 A6 i q := rfl
  have e5 : dB 4 A6 i q 9 q = dV 4 A6 i q := by unfold dB; simp [upA_at, upd_at]
  rw [ev, e5]
  have hnn := dV_nn 4 A6 i q
  have e0 : (0 : Int32).toInt = 0 := rfl
  unfold dW
  by_cases c : dV 4 A6 i q = 0
  · rw [if_pos (show dV 4 A6 i q ≤ 0 by rw [c]; decide), if_pos c]
    by_cases c2 : dC 4 (dB 4 A6 i q) q 7 q = 1
    · have c' : va_up (dB 4 A6 i q) 7 (upd (dB 4 A6 i q 7) q (dB 4 A6 i q 7 q + 1)) 7 q = 1 := c2
      rw [if_pos c']
      unfold dD
      rw [if_pos (show dC 4 (dB 4 A6 i q) q (3 + 4) q = 1 from c2)]
      rfl
    · have c' : ¬ va_up (dB 4 A6 i q) 7 (upd (dB 4 A6 i q 7) q (dB 4 A6 i q 7 q + 1)) 7 q = 1 := c2
      rw [if_neg c']
      unfold dD
      rw [if_neg (show ¬ dC 4 (dB 4 A6 i q) q (3 + 4) q = 1 from c2)]
      rfl
  · rw [if_neg (fun hle => c (i_eq.mpr (by rw [i_le] at hle; omega))), if_neg c]

/-- the class's rows 1..8 are the model's 5..12 -/
def SlR (A2 A6 : Nat → Nat → Int32) : Prop := ∀ k, 1 ≤ k → k ≤ 8 → A2 k = A6 (k + 4)
theorem SlR.up {A2 A6 : Nat → Nat → Int32} (h : SlR A2 A6) (j : Nat) (f : Nat → Int32) : SlR (va_up A2 j f) (va_up A6 (j + 4) f) := by
  intro k a b
  rw [upA_at, upA_at]
  by_cases e : k = j
  · rw [if_pos e, if_pos (by omega)]
  · rw [if_neg e, if_neg (by omega)]; exact h k a b
theorem slr_dW {A2 A6 : Nat → Nat → Int32} (h : SlR A2 A6) (i q : Nat) (t : Int32) : SlR (dW 0 A2 i q t) (dW 4 A6 i q t) := by
  have e5 := h 5 (by omega) (by omega)
  have e1 := h 1 (by omega) (by omega)
  have ev : dV 0 A2 i q = dV 4 A6 i q := by unfold dV; simp only [Nat.add_zero]; rw [e5, e1]
  have hB : SlR (dB 0 A2 i q) (dB 4 A6 i q) := by
    unfold dB
    rw [ev]
    simp only [Nat.add_zero]
    rw [e5]
    exact h.up 5 _
  have hC : ∀ {B2 B6 : Nat → Nat → Int32}, SlR B2 B6 → SlR (dC 0 B2 q) (dC 4 B6 q) := by
    intro B2 B6 hb
    unfold dC
    simp only [Nat.add_zero]
    rw [hb 3 (by omega) (by omega)]
    exact hb.up 3 _
  have hD : ∀ {B2 B6 : Nat → Nat → Int32}, SlR B2 B6 → SlR (dD 0 B2 q t) (dD 4 B6 q t) := by
    intro B2 B6 hb
    unfold dD
    simp only [Nat.add_zero]
    rw [hb 3 (by omega) (by omega), hb 6 (by omega) (by omega), hb 7 (by omega) (by omega)]
    by_cases c : B6 (3 + 4) q = 1
    · rw [if_pos c, if_pos c]; exact hb.up 6 _
    · rw [if_neg c, if_neg c]; exact hb.up 7 _
  have hE1 : ∀ {B2 B6 : Nat → Nat → Int32}, SlR B2 B6 → SlR (dE1 0 B2 i q) (dE1 4 B6 i q) := by
    intro B2 B6 hb
    unfold dE1
    simp only [Nat.add_zero]
    rw [hb 8 (by omega) (by omega)]
    exact hb.up 8 _
  have hE2 : ∀ {B2 B6 : Nat → Nat → Int32}, SlR B2 B6 → SlR (dE2 0 B2 q) (dE2 4 B6 q) := by
    intro B2 B6 hb
    unfold dE2
    simp only [Nat.add_zero]
    rw [hb 4 (by omega) (by omega)]
    exact hb.up 4 _
  have hE3 : ∀ {B2 B6 : Nat → Nat → Int32}, SlR B2 B6 → SlR (dE3 0 B2 i) (dE3 4 B6 i) := by
    intro B2 B6 hb
    unfold dE3
    simp only [Nat.add_zero]
    rw [hb 2 (by omega) (by omega)]
    exact hb.up 2 _
  unfold dW
  rw [ev]
  by_cases c : dV 4 A6 i q = 0
  · rw [if_pos c, if_pos c]; exact hE3 (hE2 (hE1 (hD (hC hB))))
  · rw [if_neg c, if_neg c]; exact hB
theorem dW_frame (A6 : Nat → Nat → Int32) (i q : Nat) (t : Int32) (j : Nat) (hj : j < 6 ∨ 12 < j) : dW 4 A6 i q t j = A6 j := by
  have u : ∀ (B : Nat → Nat → Int32) (k : Nat) (f : Nat → Int32), 6 ≤ k → k ≤ 12 → va_up B k f j = B j := fun B k f a b => by rw [upA_at, if_neg (by omega)]
  have hB : dB 4 A6 i q j = A6 j := u _ _ _ (by omega) (by omega)
  unfold dW
  by_cases c : dV 4 A6 i q = 0
  · rw [if_pos c]
    unfold dE3 dE2 dE1
    rw [u _ _ _ (by omega) (by omega), u _ _ _ (by omega) (by omega), u _ _ _ (by omega) (by omega)]
    unfold dD
    by_cases c2 : dC 4 (dB 4 A6 i q) q (3 + 4) q = 1
    · rw [if_pos c2, u _ _ _ (by omega) (by omega)]; unfold dC; rw [u _ _ _ (by omega) (by omega), hB]
    · rw [if_neg c2, u _ _ _ (by omega) (by omega)]; unfold dC; rw [u _ _ _ (by omega) (by omega), hB]
  · rw [if_neg c, hB]
