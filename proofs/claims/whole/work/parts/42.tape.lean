/-! the tape: feed -/
def RTp (S0 : Nat → Int32) (A0 : Nat → Nat → Int32) (S6 : Nat → Int32) (A6 : Nat → Nat → Int32) : Prop :=
  ∃ t : Nat, t ≤ 600 ∧ S0 1 = nI t ∧ S6 17 = nI t ∧ ∀ j, j < t → A0 0 j = A6 15 j &&& 255
/-- one byte, as the class and as the model lay it -/
def byX (x : Int32) (s : Nat) : Int32 := (((x).toUInt32 >>> ((nI s : Int32).toUInt32 &&& Int32.toUInt32 31)).toInt32 &&& 255)
def byM (x : Int32) (s : Nat) : Int32 := vp_nar .byte ((x >>> (nI s &&& 31))).toInt8.toInt32
theorem by_eq (x : Int32) (s : Nat) (hs : s ≤ 24) : byX x s = byM x s &&& 255 := by
  unfold byX byM
  rw [pk_vb, bp_b]
  apply b_ext
  intro i hi
  rw [b_and, b_and, b_255, b_ushr s (by omega), b_sshr s (by omega) x hi]
  by_cases h : i < 8
  · rw [if_pos (by omega)]
  · simp [h]
theorem tf_step {J : (Nat → Int32) → (Nat → Nat → Int32) → Option ((Nat → Int32) × (Nat → Nat → Int32))} {S0 : Nat → Int32} {A0 : Nat → Nat → Int32} (n t s : Nat) (x1 : Int32) (h : S0 1 = nI t) (ht : t < 600) (hs : s ≤ 24) :
    L_X0_takeFour_3 J (n + 1) x1 (nI s) S0 A0 = L_X0_takeFour_3 J n x1 (nI s + (-8)) (upd S0 1 (nI (t + 1))) (va_up A0 0 (upd (A0 0) t (byX x1 s))) := by
  have hc : (nI t).toNatClampNeg = t := nI_clamp (by omega)
  have h1 : ¬ nI s < 0 := nI_pos (by omega)
  have h2 : ¬ nI t < 0 := nI_pos (by omega)
  have h3 : ¬ (600 : Int32) ≤ nI t := by rw [show (600 : Int32) = nI 600 from rfl, nI_leI (by decide) (by omega)]; omega
  rw [L_X0_takeFour_3.eq_2, nm_eq, if_neg h1, h, if_neg h2, if_neg h3, ix_nI ht (by decide), hc]
  rw [nI_succ]
  simp only [nm_eq, h]
  rfl
theorem fm_step {J : (Nat → Int32) → (Nat → Nat → Int32) → Option ((Nat → Int32) × (Nat → Nat → Int32))} {S6 : Nat → Int32} {A6 : Nat → Nat → Int32} (n t s : Nat) (x1 : Int32) (h : S6 17 = nI t) (ht : t < 600) (hs : s ≤ 24) :
    L_X6_four_3 J (n + 1) x1 (nI s) S6 A6 = L_X6_four_3 J n x1 (nI s + (-8)) (upd S6 17 (nI (t + 1))) (va_up A6 15 (upd (A6 15) t (byM x1 s))) := by
  have hc : (nI t).toNatClampNeg = t := nI_clamp (by omega)
  have h1 : ¬ nI s < 0 := nI_pos (by omega)
  rw [L_X6_four_3.eq_2, if_neg h1, h, ix_nI ht (by decide), hc]
  rw [nI_succ]
  simp only [nm_eq]
  rfl
/-- the two tapes, t bytes on each, everything else as at the begin -/
def TpS (t : Nat) (S0 T0 : Nat → Int32) (A0 : Nat → Nat → Int32) (S6 T6 : Nat → Int32) (A6 B6 : Nat → Nat → Int32) : Prop :=
  S0 1 = nI t ∧ S6 17 = nI t ∧ (∀ j, j < t → A0 0 j = A6 15 j &&& 255) ∧ (∀ q, q ≠ 1 → S0 q = T0 q) ∧ (∀ q, q ≠ 17 → S6 q = T6 q) ∧ ∀ q, q ≠ 15 → A6 q = B6 q
theorem TpS.step {t s : Nat} {S0 T0 : Nat → Int32} {A0 : Nat → Nat → Int32} {S6 T6 : Nat → Int32} {A6 B6 : Nat → Nat → Int32} (h : TpS t S0 T0 A0 S6 T6 A6 B6) (hs : s ≤ 24) (x : Int32) :
    TpS (t + 1) (upd S0 1 (nI (t + 1))) T0 (va_up A0 0 (upd (A0 0) t (byX x s))) (upd S6 17 (nI (t + 1))) T6 (va_up A6 15 (upd (A6 15) t (byM x s))) B6 := by
  obtain ⟨h1, h2, h3, h4, h5, h6⟩ := h
  refine ⟨rfl, rfl, ?_, ?_, ?_, ?_⟩
  · intro j hj
    show upd (A0 0) t (byX x s) j = upd (A6 15) t (byM x s) j &&& 255
    rw [upd_at, upd_at]
    by_cases e : j = t
    · rw [if_pos e, if_pos e]; exact by_eq x s hs
    · rw [if_neg e, if_neg e]; exact h3 j (by omega)
  · intro q hq; rw [upd_at, if_neg hq]; exact h4 q hq
  · intro q hq; rw [upd_at, if_neg hq]; exact h5 q hq
  · intro q hq; rw [upA_at, if_neg hq]; exact h6 q hq
theorem four_both {t : Nat} {S0 T0 : Nat → Int32} {A0 : Nat → Nat → Int32} {S6 T6 : Nat → Int32} {A6 B6 : Nat → Nat → Int32} (h : TpS t S0 T0 A0 S6 T6 A6 B6) (ht : t + 4 ≤ 600) (x : Int32) :
    ∃ S0' A0' S6' A6', F_X0_takeFour S0 A0 x = some (S0', A0') ∧ F_X6_four S6 A6 x = some (S6', A6') ∧ TpS (t + 4) S0' T0 A0' S6' T6 A6' B6 := by
  have e1 := h.step (s := 24) (by omega) x
  have e2 := e1.step (s := 16) (by omega) x
  have e3 := e2.step (s := 8) (by omega) x
  have e4 := e3.step (s := 0) (by omega) x
  refine ⟨_, _, _, _, ?_, ?_, e4⟩
  · unfold F_X0_takeFour
    rw [nm_eq, show FU = 99995 + 1 + 1 + 1 + 1 + 1 from rfl, show (24 : Int32) = nI 24 from rfl, tf_step _ t 24 x h.1 (by omega) (by omega), show nI 24 + (-8) = nI 16 from rfl, tf_step _ (t + 1) 16 x e1.1 (by omega) (by omega), show nI 16 + (-8) = nI 8 from rfl, tf_step _ (t + 2) 8 x e2.1 (by omega) (by omega), show nI 8 + (-8) = nI 0 from rfl, tf_step _ (t + 3) 0 x e3.1 (by omega) (by omega), L_X0_takeFour_3.eq_2, nm_eq, if_pos (show nI 0 + (-8) < 0 by decide)]
  · unfold F_X6_four
    rw [nm_eq, show FU = 99995 + 1 + 1 + 1 + 1 + 1 from rfl, show (24 : Int32) = nI 24 from rfl, fm_step _ t 24 x h.2.1 (by omega) (by omega), show nI 24 + (-8) = nI 16 from rfl, fm_step _ (t + 1) 16 x e1.2.1 (by omega) (by omega), show nI 16 + (-8) = nI 8 from rfl, fm_step _ (t + 2) 8 x e2.2.1 (by omega) (by omega), show nI 8 + (-8) = nI 0 from rfl, fm_step _ (t + 3) 0 x e3.2.1 (by omega) (by omega), L_X6_four_3.eq_2, if_pos (show nI 0 + (-8) < 0 by decide)]
theorem tp_feed {S0 : Nat → Int32} {A0 : Nat → Nat → Int32} {S6 : Nat → Int32} {A6 : Nat → Nat → Int32} (h : RTp S0 A0 S6 A6) (p1 p2 p3 p4 p5 : Int32) :
    ∃ r S0' A0' S6' A6', F_X5_feed S0 A0 p1 p2 p3 p4 p5 = some (r, S0', A0') ∧ F_X6_feed S6 A6 p1 p2 p3 p4 p5 = some (r, S6', A6') ∧ RTp S0' A0' S6' A6' ∧ (∀ q, q ≠ 1 → S0' q = S0 q) ∧ (∀ q, q ≠ 17 → S6' q = S6 q) ∧ ∀ q, q ≠ 15 → A6' q = A6 q := by
  obtain ⟨t, ht, h0, h6, hr⟩ := h
  unfold F_X5_feed F_X0_takeBytes F_X6_feed
  by_cases hc : t ≤ 580
  · have c1 : S0 1 ≤ 580 := by rw [h0, show (580 : Int32) = nI 580 from rfl, nI_leI (by omega) (by decide)]; exact hc
    have c2 : S6 17 + 20 ≤ 600 := by rw [h6, show (20 : Int32) = nI 20 from rfl, show (600 : Int32) = nI 600 from rfl, nI_add, nI_leI (by omega) (by decide)]; omega
    rw [if_pos c1, if_pos c2]
    have b0 : TpS t S0 S0 A0 S6 S6 A6 A6 := ⟨h0, h6, hr, fun _ _ => rfl, fun _ _ => rfl, fun _ _ => rfl⟩
    obtain ⟨s1, a1, m1, n1, f1, g1, b1⟩ := four_both b0 (by omega) p1
    obtain ⟨s2, a2, m2, n2, f2, g2, b2⟩ := four_both b1 (by omega) p2
    obtain ⟨s3, a3, m3, n3, f3, g3, b3⟩ := four_both b2 (by omega) p3
    obtain ⟨s4, a4, m4, n4, f4, g4, b4⟩ := four_both b3 (by omega) p4
    obtain ⟨s5, a5, m5, n5, f5, g5, b5⟩ := four_both b4 (by omega) p5
    rw [f1, bd_some, f2, bd_some, f3, bd_some, f4, bd_some, f5, bd_some, bd_some, g1, bd_some, g2, bd_some, g3, bd_some, g4, bd_some, g5, bd_some]
    refine ⟨s5 1, s5, a5, m5, n5, rfl, ?_, ⟨t + 4 + 4 + 4 + 4 + 4, by omega, b5.1, b5.2.1, b5.2.2.1⟩, b5.2.2.2.1, b5.2.2.2.2.1, b5.2.2.2.2.2⟩
    show some (m5 17, m5, n5) = some (s5 1, m5, n5)
    rw [b5.1, b5.2.1]
  · have c1 : ¬ S0 1 ≤ 580 := by rw [h0, show (580 : Int32) = nI 580 from rfl, nI_leI (by omega) (by decide)]; omega
    have c2 : ¬ S6 17 + 20 ≤ 600 := by rw [h6, show (20 : Int32) = nI 20 from rfl, show (600 : Int32) = nI 600 from rfl, nI_add, nI_leI (by omega) (by decide)]; omega
    rw [if_neg c1, if_neg c2, bd_some]
    exact ⟨_, _, _, _, _, rfl, rfl, ⟨t, ht, h0, h6, hr⟩, fun _ _ => rfl, fun _ _ => rfl, fun _ _ => rfl⟩
