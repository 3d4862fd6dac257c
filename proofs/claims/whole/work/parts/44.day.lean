/-! a day's work of one gang, in the class (o = 0) and in the model (o = 4) -/
def dV (o : Nat) (A : Nat → Nat → Int32) (i q : Nat) : Int32 := if A (5 + o) q - A (1 + o) i < 0 then 0 else A (5 + o) q - A (1 + o) i
def dB (o : Nat) (A : Nat → Nat → Int32) (i q : Nat) : Nat → Nat → Int32 := va_up A (5 + o) (upd (A (5 + o)) q (dV o A i q))
def dC (o : Nat) (B : Nat → Nat → Int32) (q : Nat) : Nat → Nat → Int32 := va_up B (3 + o) (upd (B (3 + o)) q (B (3 + o) q + 1))
def dD (o : Nat) (B : Nat → Nat → Int32) (q : Nat) (t : Int32) : Nat → Nat → Int32 := if B (3 + o) q = 1 then va_up B (6 + o) (upd (B (6 + o)) q t) else va_up B (7 + o) (upd (B (7 + o)) q t)
def dE1 (o : Nat) (B : Nat → Nat → Int32) (i q : Nat) : Nat → Nat → Int32 := va_up B (8 + o) (upd (B (8 + o)) q (nI i))
def dE2 (o : Nat) (B : Nat → Nat → Int32) (q : Nat) : Nat → Nat → Int32 := va_up B (4 + o) (upd (B (4 + o)) q (-1))
def dE3 (o : Nat) (B : Nat → Nat → Int32) (i : Nat) : Nat → Nat → Int32 := va_up B (2 + o) (upd (B (2 + o)) i (-1))
def dW (o : Nat) (A : Nat → Nat → Int32) (i q : Nat) (t : Int32) : Nat → Nat → Int32 :=
  if dV o A i q = 0 then dE3 o (dE2 o (dE1 o (dD o (dC o (dB o A i q) q) q t) i q) q) i else dB o A i q
theorem isSq_m1 : F_X5_isSquare (-1) = some 0 := by decide
theorem isSq_nI {q : Nat} (hq : q < 72) : F_X5_isSquare (nI q) = some 1 := by
  unfold F_X5_isSquare
  rw [if_neg (nI_pos (by omega)), if_neg (by rw [show (72 : Int32) = nI 72 from rfl, nI_leI (by decide) (by omega)]; omega)]
theorem isG_nI {S2 : Nat → Int32} {g i : Nat} (h : S2 10 = nI g) (hg : g ≤ 6) (hi : i < g) : F_X2_isGang S2 (nI i) = some 1 := by
  unfold F_X2_isGang
  rw [if_neg (nI_pos (by omega)), h, if_neg (by rw [nI_leI (by omega) (by omega)]; omega), if_neg (by rw [show (6 : Int32) = nI 6 from rfl, nI_leI (by decide) (by omega)]; omega)]
theorem isG_no {S2 : Nat → Int32} {g i : Nat} (h : S2 10 = nI g) (hg : g ≤ i) (hi : i < 6) : F_X2_isGang S2 (nI i) = some 0 := by
  unfold F_X2_isGang
  rw [if_neg (nI_pos (by omega)), h, if_pos (by rw [nI_leI (by omega) (by omega)]; omega)]
theorem wad_idle {S2 : Nat → Int32} {A2 : Nat → Nat → Int32} {g i : Nat} (h : S2 10 = nI g) (hg : g ≤ 6) (hi : i < 6) : F_X2_workADay S2 A2 (nI i) (-1) = some A2 := by
  unfold F_X2_workADay
  rcases Nat.lt_or_ge i g with c | c
  · rw [isG_nI h hg c, bd_some, if_neg (by decide), isSq_m1, bd_some, if_pos rfl]
  · rw [isG_no h c hi, bd_some, if_pos rfl]
theorem endC {S2 : Nat → Int32} {A2 : Nat → Nat → Int32} {g i q : Nat} (h : S2 10 = nI g) (hg : g ≤ 6) (hi : i < g) (hq : q < 72) : F_X2_endCoat S2 A2 (nI i) (nI q) = some (dE3 0 (dE2 0 (dE1 0 (dD 0 (dC 0 A2 q) q (S2 11)) i q) q) i) := by
  have hcq : (nI q).toNatClampNeg = q := nI_clamp (by omega)
  have hci : (nI i).toNatClampNeg = i := nI_clamp (by omega)
  unfold F_X2_endCoat
  rw [nm_eq, isG_nI h hg hi, bd_some, if_neg (by decide), isSq_nI hq, bd_some, if_neg (by decide)]
  simp only [ix_nI hq (by decide), hcq, hci, ix_nI (show i < 6 by omega) (by decide), nm_eq]
  by_cases c : (dC 0 A2 q) 3 q = 1
  · have c' : va_up A2 3 (upd (A2 3) q (A2 3 q + 1)) 3 q = 1 := c
    rw [if_pos c']
    unfold dD
    rw [if_pos (show dC 0 A2 q (3 + 0) q = 1 from c)]
    rfl
  · have c' : ¬ va_up A2 3 (upd (A2 3) q (A2 3 q + 1)) 3 q = 1 := c
    rw [if_neg c']
    unfold dD
    rw [if_neg (show ¬ dC 0 A2 q (3 + 0) q = 1 from c)]
    rfl
theorem wad_some {S2 : Nat → Int32} {A2 : Nat → Nat → Int32} {g i q : Nat} (h : S2 10 = nI g) (hg : g ≤ 6) (hi : i < g) (hq : q < 72) : F_X2_workADay S2 A2 (nI i) (nI q) = some (dW 0 A2 i q (S2 11)) := by
  have hcq : (nI q).toNatClampNeg = q := nI_clamp (by omega)
  have hci : (nI i).toNatClampNeg = i := nI_clamp (by omega)
  unfold F_X2_workADay
  rw [isG_nI h hg hi, bd_some, if_neg (by decide), isSq_nI hq, bd_some, if_neg (by decide)]
  simp only [ix_nI hq (by decide), hcq, hci, ix_nI (show i < 6 by omega) (by decide), nm_eq]
  have ev : va_up A2 5 (upd (A2 5) q (if A2 5 q - A2 1 i < 0 then 0 else A2 5 q - A2 1 i)) = dB 0 A2 i q := rfl
  have e5 : dB 0 A2 i q 5 q = dV 0 A2 i q := by unfold dB; simp [upA_at, upd_at]
  rw [ev, e5]
  unfold dW
  by_cases c : dV 0 A2 i q = 0
  · rw [if_pos c, if_pos c, endC h hg hi hq, bd_some]
  · rw [if_neg c, if_neg c]
