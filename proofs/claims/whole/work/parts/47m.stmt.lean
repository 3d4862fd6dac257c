/-! a test, a row of tests, a statement: class and model side by side -/
theorem subH {A0 : Nat → Nat → Int32} {T : Nat → Nat} {n q : Nat} {S0 : Nat → Int32} (h : TX A0 T n) (hC : CA T n q S0) :
    (F_X0_subjectHere S0 A0 = some (-1) ∧ ¬ wm T n q 4 ∧ ¬ wm T n q 5 ∧ ¬ wm T n q 6) ∨ (F_X0_subjectHere S0 A0 = some 0 ∧ wm T n q 4) ∨ (F_X0_subjectHere S0 A0 = some 1 ∧ ¬ wm T n q 4 ∧ wm T n q 5) ∨ (F_X0_subjectHere S0 A0 = some 2 ∧ ¬ wm T n q 4 ∧ ¬ wm T n q 5 ∧ wm T n q 6) := by
  have h10 : ¬ (1 : Int32) = 0 := by decide
  unfold F_X0_subjectHere
  rcases isW (k := 4) h hC (by decide) with ⟨a1, a2⟩ | ⟨a1, a2⟩
  · rw [a1, bd_some, if_neg h10]; exact Or.inr (Or.inl ⟨rfl, a2⟩)
  · rw [a1, bd_some, if_pos rfl]
    rcases isW (k := 5) h hC (by decide) with ⟨b1, b2⟩ | ⟨b1, b2⟩
    · rw [b1, bd_some, if_neg h10]; exact Or.inr (Or.inr (Or.inl ⟨rfl, a2, b2⟩))
    · rw [b1, bd_some, if_pos rfl]
      rcases isW (k := 6) h hC (by decide) with ⟨c1, c2⟩ | ⟨c1, c2⟩
      · rw [c1, bd_some, if_neg h10]; exact Or.inr (Or.inr (Or.inr ⟨rfl, a2, b2, c2⟩))
      · rw [c1, bd_some, if_pos rfl]; exact Or.inl ⟨rfl, a2, b2, c2⟩
def FrT (k : Nat) (A6 B6 : Nat → Nat → Int32) : Prop := (∀ j, (j < 26 ∨ 28 < j) → B6 j = A6 j) ∧ ∀ j, 26 ≤ j → j ≤ 28 → ∀ i, i ≠ k → B6 j i = A6 j i
theorem FrT.frM {h k : Nat} {A6 B6 : Nat → Nat → Int32} (a : FrT k A6 B6) (hk : 36 * h ≤ k) : FrM h A6 B6 :=
  ⟨fun j hj => a.1 j (by omega), fun j h1 h2 i _ => by rw [a.1 j (by omega)], fun j h1 h2 i hi => a.2 j h1 h2 i (by omega)⟩
theorem t_test {A0 A6 A1 : Nat → Nat → Int32} {T : Nat → Nat} {n q p : Nat} {S0 S6 S1 : Nat → Int32} {sts : List StT} {v : Int32} {ts : TsT} {k : Nat} (hX : TX A0 T n) (hT : TM A6 T n) (hC : CA T n q S0) (hP : MP n p S6) (hq : ruN isBl T n p = q) (hR : RepC S1 A1 (sts ++ [(2, v, ts)])) (hl : sts.length < 12) (ht : ts.length < 3) (hk : k < 468) :
    (∃ S0' S6' A6' q', F_X0_readTest S0 A0 S1 A1 = some (0, S0', A1) ∧ F_X6_test S6 A6 (nI k) = some (0, S6', A6') ∧ S0' 4 = nI q' ∧ S6' 19 = nI q' ∧ q' ≤ n ∧ Fr0 S0 S0' ∧ FrS S6 S6' ∧ FrT k A6 A6') ∨
    (∃ S0' A1' S6' A6' q' p' t, F_X0_readTest S0 A0 S1 A1 = some (1, S0', A1') ∧ F_X6_test S6 A6 (nI k) = some (1, S6', A6') ∧ CA T n q' S0' ∧ MP n p' S6' ∧ ruN isBl T n p' = q' ∧ RepC S1 A1' (sts ++ [(2, v, ts ++ [t])]) ∧ A6' 26 = upd (A6 26) k t.1 ∧ A6' 27 = upd (A6 27) k t.2.1 ∧ A6' 28 = upd (A6 28) k t.2.2 ∧ Fr0 S0 S0' ∧ FrS S6 S6' ∧ FrT k A6 A6') := by
  have hn := hT.1
  have hqn : q ≤ n := hC.1
  have hck : (nI k).toNatClampNeg = k := nI_clamp (by omega)
  have hwd := mWd hT hP hq
  -- behind the subject
  have rest : ∀ s : Int32, ¬ s = -1 → F_X0_subjectHere S0 A0 = some s → (∃ w, w < 8 ∧ wm T n q w) →
      F_X6_test S6 A6 (nI k) = (bd (F_X6_blanks (upd (upd (upd S6 19 (nI q)) 33 (nI (ruN isLe T n q))) 19 (nI (ruN isLe T n q))) (va_up A6 26 (upd (A6 26) k s))) fun z_14 => if (z_14 19) = (z_14 18) then some (0, z_14, va_up A6 26 (upd (A6 26) k s)) else ix (z_14 19) 600 (if (A6 16 (z_14 19).toNatClampNeg) = 60 then (ix (z_14 19) 600 (bd (F_X6_takesNumber (upd z_14 19 (z_14 19 + 1)) (va_up (va_up A6 26 (upd (A6 26) k s)) 27 (upd (A6 27) k (A6 16 (z_14 19).toNatClampNeg))) 99999) fun z_5 => if z_5.1 = 0 then some (0, z_5.2, va_up (va_up A6 26 (upd (A6 26) k s)) 27 (upd (A6 27) k (A6 16 (z_14 19).toNatClampNeg))) else some (1, z_5.2, va_up (va_up (va_up A6 26 (upd (A6 26) k s)) 27 (upd (A6 27) k (A6 16 (z_14 19).toNatClampNeg))) 28 (upd (A6 28) k (z_5.2 34))))) else ix (z_14 19) 600 (if (A6 16 (z_14 19).toNatClampNeg) = 62 then (ix (z_14 19) 600 (bd (F_X6_takesNumber (upd z_14 19 (z_14 19 + 1)) (va_up (va_up A6 26 (upd (A6 26) k s)) 27 (upd (A6 27) k (A6 16 (z_14 19).toNatClampNeg))) 99999) fun z_5 => if z_5.1 = 0 then some (0, z_5.2, va_up (va_up A6 26 (upd (A6 26) k s)) 27 (upd (A6 27) k (A6 16 (z_14 19).toNatClampNeg))) else some (1, z_5.2, va_up (va_up (va_up A6 26 (upd (A6 26) k s)) 27 (upd (A6 27) k (A6 16 (z_14 19).toNatClampNeg))) 28 (upd (A6 28) k (z_5.2 34))))) else ix (z_14 19) 600 (if (A6 16 (z_14 19).toNatClampNeg) = 61 then (ix (z_14 19) 600 (bd (F_X6_takesNumber (upd z_14 19 (z_14 19 + 1)) (va_up (va_up A6 26 (upd (A6 26) k s)) 27 (upd (A6 27) k (A6 16 (z_14 19).toNatClampNeg))) 99999) fun z_5 => if z_5.1 = 0 then some (0, z_5.2, va_up (va_up A6 26 (upd (A6 26) k s)) 27 (upd (A6 27) k (A6 16 (z_14 19).toNatClampNeg))) else some (1, z_5.2, va_up (va_up (va_up A6 26 (upd (A6 26) k s)) 27 (upd (A6 27) k (A6 16 (z_14 19).toNatClampNeg))) 28 (upd (A6 28) k (z_5.2 34))))) else some (0, z_14, va_up A6 26 (upd (A6 26) k s)))))) →
      (∃ S0' S6' A6' q', F_X0_readTest S0 A0 S1 A1 = some (0, S0', A1) ∧ F_X6_test S6 A6 (nI k) = some (0, S6', A6') ∧ S0' 4 = nI q' ∧ S6' 19 = nI q' ∧ q' ≤ n ∧ Fr0 S0 S0' ∧ FrS S6 S6' ∧ FrT k A6 A6') ∨
      (∃ S0' A1' S6' A6' q' p' t, F_X0_readTest S0 A0 S1 A1 = some (1, S0', A1') ∧ F_X6_test S6 A6 (nI k) = some (1, S6', A6') ∧ CA T n q' S0' ∧ MP n p' S6' ∧ ruN isBl T n p' = q' ∧ RepC S1 A1' (sts ++ [(2, v, ts ++ [t])]) ∧ A6' 26 = upd (A6 26) k t.1 ∧ A6' 27 = upd (A6 27) k t.2.1 ∧ A6' 28 = upd (A6 28) k t.2.2 ∧ Fr0 S0 S0' ∧ FrS S6 S6' ∧ FrT k A6 A6') := by
    intro s hs hsub ⟨w, hw, hwm⟩ hmod
    have ete := te_word hw hqn hwm
    rw [hmod]
    have hT1 : TM (va_up A6 26 (upd (A6 26) k s)) T n := ⟨hT.1, hT.2⟩
    have hM1 : MP n (ruN isLe T n q) (upd (upd (upd S6 19 (nI q)) 33 (nI (ruN isLe T n q))) 19 (nI (ruN isLe T n q))) := ⟨ru_le _ _ hqn, hP.2.1, rfl⟩
    rw [mBl hT1 hM1, bd_some]
    obtain ⟨S01, a1, a2, a3⟩ := adv_CA hX hC
    rw [ete] at a2
    generalize hq1 : ruN isBl T n (ruN isLe T n q) = q1 at a2 ⊢
    have hq1n : q1 ≤ n := a2.1
    generalize hU : upd (upd (upd (upd S6 19 (nI q)) 33 (nI (ruN isLe T n q))) 19 (nI (ruN isLe T n q))) 19 (nI q1) = U6
    have u19 : U6 19 = nI q1 := by rw [← hU]; rfl
    have u18 : U6 18 = nI n := by rw [← hU]; exact hP.2.1
    have uF : FrS S6 U6 := fun j x y z => by rw [← hU, upd_at, if_neg x, upd_at, if_neg x, upd_at, if_neg y, upd_at, if_neg x]
    have f26 : FrT k A6 (va_up A6 26 (upd (A6 26) k s)) := ⟨fun j hj => by rw [upA_at, if_neg (by omega)], fun j x y i hi => by
      rw [upA_at]
      by_cases e : j = 26
      · rw [if_pos e, upd_at, if_neg hi, e]
      · rw [if_neg e]⟩
    unfold F_X0_readTest
    rw [hsub, bd_some, if_neg hs, a1, bd_some, u19, u18]
    rcases sigH hX a2 with ⟨s1, s2, s3, s4, s5⟩ | ⟨s1, s2⟩
    rotate_left
    · -- no sign
      rw [s1, bd_some, if_pos rfl]
      refine Or.inl ⟨S01, U6, va_up A6 26 (upd (A6 26) k s), q1, rfl, ?_, a2.2.2.2.2.1, u19, hq1n, a3, uF, f26⟩
      by_cases c : q1 = n
      · rw [if_pos (by rw [c])]
      · rw [if_neg (by rw [nI_eq (by omega) (by omega)]; exact c), ix_nI (by omega) (by decide), nI_clamp (by omega)]
        obtain ⟨t1, t2⟩ := hT.2 q1 (by omega)
        have hs := sg_iff _ t1
        rw [t2, if_neg (fun z => by have := hs.2.2.2.2.2.1.mp z; omega), ix_nI (by omega) (by decide), if_neg (fun z => by have := hs.2.2.2.2.2.2.2.mp z; omega), ix_nI (by omega) (by decide), if_neg (fun z => by have := hs.2.2.2.2.2.2.1.mp z; omega)]
    · obtain ⟨t1, t2⟩ := hT.2 q1 s1
      have hsg := sg_iff _ t1
      have hne : ¬ nI (T q1) = -1 := by
        intro e
        have := i_eq.mp e
        rw [nI_toInt (by omega)] at this
        have e2 : (-1 : Int32).toInt = -1 := rfl
        omega
      rw [s4, bd_some, if_neg hne, if_neg (show ¬ nI q1 = nI n by rw [nI_eq (by omega) (by omega)]; omega)]
      simp only [ix_nI (show q1 < 600 by omega) (show 600 < 2 ^ 31 by decide), nI_clamp (show q1 < 2 ^ 31 by omega), t2]
      by_cases c59 : T q1 = 59
      · rw [if_pos (by rw [c59]; rfl)]
        refine Or.inl ⟨S01, U6, va_up A6 26 (upd (A6 26) k s), q1, rfl, ?_, a2.2.2.2.2.1, u19, hq1n, a3, uF, f26⟩
        rw [if_neg (fun z => by have := hsg.2.2.2.2.2.1.mp z; omega), if_neg (fun z => by have := hsg.2.2.2.2.2.2.2.mp z; omega), if_neg (fun z => by have := hsg.2.2.2.2.2.2.1.mp z; omega)]
      · rw [if_neg (show ¬ nI (T q1) = 59 by rw [show (59 : Int32) = nI 59 from rfl, nI_eq (by omega) (by decide)]; exact c59)]
        have esg : sgB (T q1) = nI (T q1) := sg_le (by omega)
        have pick : ∀ X Y : Option (Int32 × (Nat → Int32) × (Nat → Nat → Int32)), (if sgB (T q1) = 60 then X else if sgB (T q1) = 62 then X else if sgB (T q1) = 61 then X else Y) = X := by
          intro X Y
          by_cases z0 : T q1 = 60
          · rw [if_pos (hsg.2.2.2.2.2.1.mpr z0)]
          · rw [if_neg (fun z => z0 (hsg.2.2.2.2.2.1.mp z))]
            by_cases z2 : T q1 = 62
            · rw [if_pos (hsg.2.2.2.2.2.2.2.mpr z2)]
            · rw [if_neg (fun z => z2 (hsg.2.2.2.2.2.2.2.mp z)), if_pos (hsg.2.2.2.2.2.2.1.mpr (by omega))]
        rw [pick, esg, nI_1]
        obtain ⟨S02, b1, b2, b3⟩ := adv_CA hX a2
        rw [s5] at b2
        rw [b1, bd_some]
        have hT2 : TM (va_up (va_up A6 26 (upd (A6 26) k s)) 27 (upd (A6 27) k (nI (T q1)))) T n := ⟨hT.1, hT.2⟩
        have hM2 : MP n (q1 + 1) (upd U6 19 (nI (q1 + 1))) := ⟨by omega, u18, rfl⟩
        have uF2 : FrS S6 (upd U6 19 (nI (q1 + 1))) := fun j x y z => by rw [upd_at, if_neg x]; exact uF j x y z
        have f27 : FrT k A6 (va_up (va_up A6 26 (upd (A6 26) k s)) 27 (upd (A6 27) k (nI (T q1)))) := ⟨fun j hj => by rw [upA_at, if_neg (by omega)]; exact f26.1 j hj, fun j x y i hi => by
          rw [upA_at]
          by_cases e : j = 27
          · rw [if_pos e, upd_at, if_neg hi, e]
          · rw [if_neg e]; exact f26.2 j x y i hi⟩
        generalize hq2 : ruN isBl T n (q1 + 1) = q2 at b2
        rw [show (99999 : Int32) = nI 99999 from rfl]
        rcases numH hX b2 (most := 99999) (by decide) with ⟨x, n1, n2, n3⟩ | ⟨n1, n2⟩
        · have hx := nu_b b2.1 n2
          have hxn : ¬ nI x = -1 := by
            intro e
            have := i_eq.mp e
            rw [nI_toInt (by omega)] at this
            have e2 : (-1 : Int32).toInt = -1 := rfl
            omega
          rw [n1, bd_some, if_neg hxn]
          rcases mTn hT2 hM2 hq2 (most := 99999) (by decide) with ⟨y, V6, m1, m2, m3, m4, m5⟩ | ⟨m1, -⟩
          rotate_left
          · exact absurd n2 (m1 x)
          have exy : y = x := by rw [m1.2.2.1, n2.2.2.1]
          obtain ⟨S03, c1, c2, c3⟩ := adv_CA hX b2
          rw [n3] at c2
          obtain ⟨A1', d1, d2⟩ := repC_test hR hl ht s (nI (T q1)) (nI x)
          rw [c1, bd_some, d1, bd_some, m2, bd_some, if_neg (show ¬ (1 : Int32) = 0 by decide)]
          dsimp only
          rw [m4, exy]
          refine Or.inr ⟨S03, A1', V6, _, _, ruN isDi T n q2, (s, nI (T q1), nI x), rfl, rfl, c2, m3, rfl, d2, rfl, rfl, rfl, Fr0.tr (Fr0.tr a3 b3) c3, FrS.tr uF2 (fun j u1 u2 u3 => m5 j u1 u3), ?_⟩
          refine ⟨fun j hj => by rw [upA_at, if_neg (by omega)]; exact f27.1 j hj, fun j u1 u2 i hi => ?_⟩
          rw [upA_at]
          by_cases e : j = 28
          · rw [if_pos e, upd_at, if_neg hi, e]
          · rw [if_neg e]; exact f27.2 j u1 u2 i hi
        · rw [n1, bd_some, if_pos rfl]
          rcases mTn hT2 hM2 hq2 (most := 99999) (by decide) with ⟨y, V6, m1, m2, m3, m4, m5⟩ | ⟨m1, V6, m2, m3, m4⟩
          · exact absurd m1 (n2 y)
          rw [m2, bd_some, if_pos rfl]
          exact Or.inl ⟨S02, V6, _, q2, rfl, rfl, b2.2.2.2.2.1, m3.2.2, b2.1, Fr0.tr a3 b3, FrS.tr uF2 (fun j u1 u2 u3 => m4 j u1 u3), f27⟩
  have w4 : (lg_cmp (wvN T q (ruN isLe T n q - q)) 2003133803 = 0) ↔ wm T n q 4 := by rw [lg_cmp_eq]; exact wv_wm (k := 4) (by decide) hqn
  have w5 : (lg_cmp (wvN T q (ruN isLe T n q - q)) 123580963646565 = 0) ↔ wm T n q 5 := by rw [lg_cmp_eq]; exact wv_wm (k := 5) (by decide) hqn
  have w6 : (lg_cmp (wvN T q (ruN isLe T n q - q)) 427070942835 = 0) ↔ wm T n q 6 := by rw [lg_cmp_eq]; exact wv_wm (k := 6) (by decide) hqn
  have e26 : ∀ s : Int32, va_up A6 26 (upd (A6 26) k s) 26 k = s := fun s => by rw [upA_at, if_pos rfl, upd_at, if_pos rfl]
  rcases subH hX hC with ⟨g1, g2, g3, g4⟩ | ⟨g1, g2⟩ | ⟨g1, g2, g3⟩ | ⟨g1, g2, g3, g4⟩
  · refine Or.inl ⟨S0, upd (upd S6 19 (nI q)) 33 (nI (ruN isLe T n q)), va_up A6 26 (upd (A6 26) k (-1)), q, ?_, ?_, hC.2.2.2.2.1, rfl, hqn, fun _ _ => rfl, fun j x y z => by rw [upd_at, if_neg y, upd_at, if_neg x], ?_⟩
    · unfold F_X0_readTest
      rw [g1, bd_some, if_pos rfl]
    · unfold F_X6_test
      simp only [nm_p]
      rw [hwd, bd_some, if_neg (fun z => g2 (w4.mp z)), if_neg (fun z => g3 (w5.mp z)), if_neg (fun z => g4 (w6.mp z)), ix_nI hk (by decide), hck, e26, ix_nI hk (by decide), if_pos rfl]
    · exact ⟨fun j hj => by rw [upA_at, if_neg (by omega)], fun j x y i hi => by
        rw [upA_at]
        by_cases e : j = 26
        · rw [if_pos e, upd_at, if_neg hi, e]
        · rw [if_neg e]⟩
  · refine rest 0 (by decide) g1 ⟨4, by decide, g2⟩ ?_
    unfold F_X6_test
    simp only [nm_p]
    rw [hwd, bd_some, if_pos (w4.mpr g2)]
    simp only [ix_nI hk (show 468 < 2 ^ 31 by decide), hck, e26]
    rw [if_neg (by decide)]
    rfl
  · refine rest 1 (by decide) g1 ⟨5, by decide, g3⟩ ?_
    unfold F_X6_test
    simp only [nm_p]
    rw [hwd, bd_some, if_neg (fun z => g2 (w4.mp z)), if_pos (w5.mpr g3)]
    simp only [ix_nI hk (show 468 < 2 ^ 31 by decide), hck, e26]
    rw [if_neg (by decide)]
    rfl
  · refine rest 2 (by decide) g1 ⟨6, by decide, g4⟩ ?_
    unfold F_X6_test
    simp only [nm_p]
    rw [hwd, bd_some, if_neg (fun z => g2 (w4.mp z)), if_neg (fun z => g3 (w5.mp z)), if_pos (w6.mpr g4)]
    simp only [ix_nI hk (show 468 < 2 ^ 31 by decide), hck, e26]
    rw [if_neg (by decide)]
    rfl
