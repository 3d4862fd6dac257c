/-! the row of tests, the statement -/
def J45f (A0 : Nat → Nat → Int32) : Int32 → (Nat → Int32) → (Nat → Nat → Int32) → Option (Int32 × (Nat → Int32) × (Nat → Nat → Int32)) := fun (x2 : Int32) (S0 : Nat → Int32) (A1 : Nat → Nat → Int32) =>
      if x2 = 0 then (
        if x2 = 0 then (
          some (1, S0, A1)
        ) else (
          some (0, S0, A1)
        )
      ) else (
        bd (F_X0_advance S0 A0) fun z_3 =>
        if x2 = 0 then (
          some (1, z_3, A1)
        ) else (
          some (0, z_3, A1)
        )
      )
/-- where both stand at the head of the loop of tests -/
def TsH (T : Nat → Nat) (n : Nat) (more : Bool) (q : Nat) (S0 S6 : Nat → Int32) : Prop := CA T n q S0 ∧ if more then MP n (teN T n q) S6 else ∃ p, MP n p S6 ∧ ruN isBl T n p = q
theorem t_tests {A0 : Nat → Nat → Int32} {JM : (Nat → Int32) → (Nat → Nat → Int32) → Option (Int32 × (Nat → Int32) × (Nat → Nat → Int32))} {T : Nat → Nat} {n h : Nat} {S1 : Nat → Int32} {sts : List StT} {v : Int32} (hX : TX A0 T n) (hh : h < 12) (hl : sts.length < 12) :
    ∀ (m : Nat) (ts : TsT) (more : Bool) (q nX nM : Nat) (S0 S6 : Nat → Int32) (A1 A6 : Nat → Nat → Int32), ts.length + m = 3 → m + 2 ≤ nX → m + 2 ≤ nM → TM A6 T n → TsH T n more q S0 S6 → RepC S1 A1 (sts ++ [(2, v, ts)]) → RepM A6 (12 * h) (sts ++ [(2, v, ts)]) →
    (∃ S0' A1' S6' A6' q', L_X0_readTests_9 A0 S1 (J45f A0) nX (if more then 1 else 0) (nI ts.length) S0 A1 = some (0, S0', A1') ∧ L_X6_statement_128 JM nM (nI (12 * h + sts.length)) (if more then 1 else 0) S6 A6 = some (0, S6', A6') ∧ S0' 4 = nI q' ∧ S6' 19 = nI q' ∧ q' ≤ n ∧ Fr0 S0 S0' ∧ FrS S6 S6' ∧ FrM h A6 A6') ∨
    (∃ ts' S0' A1' S6' A6' q' p', L_X0_readTests_9 A0 S1 (J45f A0) nX (if more then 1 else 0) (nI ts.length) S0 A1 = some (1, S0', A1') ∧ L_X6_statement_128 JM nM (nI (12 * h + sts.length)) (if more then 1 else 0) S6 A6 = JM S6' A6' ∧ CA T n q' S0' ∧ MP n p' S6' ∧ ruN isBl T n p' = q' ∧ RepC S1 A1' (sts ++ [(2, v, ts')]) ∧ RepM A6' (12 * h) (sts ++ [(2, v, ts')]) ∧ Fr0 S0 S0' ∧ FrS S6 S6' ∧ FrM h A6 A6') := by
  have h10 : ¬ (1 : Int32) = 0 := by decide
  have hcs : (nI (12 * h + sts.length)).toNatClampNeg = 12 * h + sts.length := nI_clamp (by omega)
  have hs : 12 * h + sts.length < 156 := by omega
  intro m
  induction m with
  | zero =>
    intro ts more q nX nM S0 S6 A1 A6 e1 e2 e3 hT hH hC hM
    obtain ⟨nX, rfl⟩ : ∃ k, nX = k + 1 := ⟨nX - 1, by omega⟩
    obtain ⟨nM, rfl⟩ : ∃ k, nM = k + 1 := ⟨nM - 1, by omega⟩
    rw [L_X0_readTests_9.eq_2, L_X6_statement_128.eq_2]
    cases more with
    | false =>
      obtain ⟨h1, p, h2, h3⟩ := hH
      refine Or.inr ⟨ts, S0, A1, S6, A6, q, p, ?_, ?_, h1, h2, h3, hC, hM, fun _ _ => rfl, fun _ _ _ _ => rfl, FrM.rf h A6⟩
      · rfl
      · rfl
    | true =>
      obtain ⟨h1, h2⟩ := hH
      have h2 : MP n (teN T n q) S6 := h2
      have h25 := (hM sts.length (2, v, ts) (by rw [List.getElem?_append_right (by omega), Nat.sub_self]; rfl)).2.2.1
      have e3 : ts.length = 3 := by omega
      obtain ⟨S0', a1, a2, a3⟩ := adv_CA hX h1
      refine Or.inl ⟨S0', A1, upd S6 19 (nI (ruN isBl T n (teN T n q))), A6, ruN isBl T n (teN T n q), ?_, ?_, a2.2.2.2.2.1, rfl, a2.1, a3, fun j x y z => by rw [upd_at, if_neg x], FrM.rf h A6⟩
      · show (if (1 : Int32) = 0 then _ else if 3 ≤ nI ts.length then _ else _) = _
        rw [if_neg h10, if_pos (by rw [e3]; decide)]
        unfold J45f
        show (if (1 : Int32) = 0 then _ else _) = _
        rw [if_neg h10, a1, bd_some]
        rfl
      · show (if (1 : Int32) = 0 then _ else _) = _
        rw [if_neg h10, mBl hT h2, bd_some, ix_nI hs (by decide), hcs, h25, if_pos (by show nI ts.length = 3; rw [e3]; rfl)]
  | succ m ih =>
    intro ts more q nX nM S0 S6 A1 A6 e1 e2 e3 hT hH hC hM
    obtain ⟨nX, rfl⟩ : ∃ k, nX = k + 1 := ⟨nX - 1, by omega⟩
    obtain ⟨nM, rfl⟩ : ∃ k, nM = k + 1 := ⟨nM - 1, by omega⟩
    rw [L_X0_readTests_9.eq_2, L_X6_statement_128.eq_2]
    cases more with
    | false =>
      obtain ⟨h1, p, h2, h3⟩ := hH
      refine Or.inr ⟨ts, S0, A1, S6, A6, q, p, ?_, ?_, h1, h2, h3, hC, hM, fun _ _ => rfl, fun _ _ _ _ => rfl, FrM.rf h A6⟩
      · rfl
      · rfl
    | true =>
      obtain ⟨h1, h2⟩ := hH
      have h2 : MP n (teN T n q) S6 := h2
      have h25 : A6 25 (12 * h + sts.length) = nI ts.length := (hM sts.length (2, v, ts) (by rw [List.getElem?_append_right (by omega), Nat.sub_self]; rfl)).2.2.1
      obtain ⟨S01, a1, a2, a3⟩ := adv_CA hX h1
      have hM1 : MP n (ruN isBl T n (teN T n q)) (upd S6 19 (nI (ruN isBl T n (teN T n q)))) := ⟨a2.1, h2.2.1, rfl⟩
      have uF : FrS S6 (upd S6 19 (nI (ruN isBl T n (teN T n q)))) := fun j x y z => by rw [upd_at, if_neg x]
      have hk3 : 3 * nI (12 * h + sts.length) + nI ts.length = nI (3 * (12 * h + sts.length) + ts.length) := by rw [show (3 : Int32) = nI 3 from rfl, pk_mul, nI_add]
      have cX : ∀ Y : Option (Int32 × (Nat → Int32) × (Nat → Nat → Int32)), (if (if true = true then (1 : Int32) else 0) = 0 then J45f A0 (if true = true then 1 else 0) S0 A1 else if 3 ≤ nI ts.length then J45f A0 (if true = true then 1 else 0) S0 A1 else Y) = Y := by
        intro Y
        rw [if_pos rfl, if_neg h10, if_neg (by rw [show (3 : Int32) = nI 3 from rfl]; exact nI_ge (by omega) (by decide))]
      have cM : ∀ Y : Option (Int32 × (Nat → Int32) × (Nat → Nat → Int32)), (if (if true = true then (1 : Int32) else 0) = 0 then JM S6 A6 else Y) = Y := by
        intro Y
        rw [if_pos rfl, if_neg h10]
      rw [cX, cM, a1, bd_some, mBl hT h2, bd_some]
      simp only [ix_nI hs (show 156 < 2 ^ 31 by decide), hcs, h25, hk3]
      rw [if_neg (show ¬ nI ts.length = 3 by rw [show (3 : Int32) = nI 3 from rfl, nI_eq (by omega) (by decide)]; omega)]
      generalize hq1 : ruN isBl T n (teN T n q) = q1 at a2 hM1 uF ⊢
      rcases t_test (k := 3 * (12 * h + sts.length) + ts.length) hX hT a2 hM1 a2.2.1 hC hl (by omega) (by omega) with ⟨S0', S6', A6', q', b1, b2, b3, b4, b5, b6, b7, b8⟩ | ⟨S0', A1', S6', A6', q', p', t, b1, b2, b3, b4, b5, b6, b7, b8, b9, b10, b11, b12⟩
      · rw [b1, bd_some, if_pos rfl, b2, bd_some, if_pos rfl]
        exact Or.inl ⟨S0', A1, S6', A6', q', rfl, rfl, b3, b4, b5, Fr0.tr a3 b6, FrS.tr uF b7, b8.frM (by omega)⟩
      · rw [b1, bd_some, if_neg h10, b2, bd_some, if_neg h10]
        simp only [nm_p]
        have h25' : A6' 25 (12 * h + sts.length) = nI ts.length := by rw [b12.1 25 (by omega)]; exact h25
        rw [h25', nI_1]
        generalize hB : va_up A6' 25 (upd (A6' 25) (12 * h + sts.length) (nI (ts.length + 1))) = B6
        have hFB : FrM h A6 B6 := by rw [← hB]; exact FrM.tr (b12.frM (by omega)) (FrM.up1 (by omega) (by omega) (by omega))
        have hTB : TM B6 T n := hFB.tm hT
        have hRB : RepM B6 (12 * h) (sts ++ [(2, v, ts ++ [t])]) := by
          refine repM_test hM (by omega) ?_ ?_ ?_ ?_ ?_ ?_
          · rw [← hB, upA_at, if_neg (by decide), b12.1 23 (by omega)]
          · rw [← hB, upA_at, if_neg (by decide), b12.1 24 (by omega)]
          · rw [← hB, upA_at, if_pos rfl, b12.1 25 (by omega)]
          · rw [← hB, upA_at, if_neg (by decide), b7]
          · rw [← hB, upA_at, if_neg (by decide), b8]
          · rw [← hB, upA_at, if_neg (by decide), b9]
        have el : (ts ++ [t]).length = ts.length + 1 := by rw [List.length_append]; rfl
        have kF := Fr0.tr a3 b10
        have kS := FrS.tr uF b11
        rcases mTk (k := 7) hTB b4 b5 (by decide) with ⟨w1, V6, w2, w3, w4⟩ | ⟨w1, V6, w2, w3, w4⟩
        · rw [show (6385252 : Int64) = wcst 7 from rfl, w2, bd_some]
          rcases isW (k := 7) hX b3 (by decide) with ⟨x1, x2⟩ | ⟨x1, x2⟩
          rotate_left
          · exact absurd w1 x2
          rw [x1, bd_some]
          have hS : FrS S6 V6 := FrS.tr kS (fun j y1 y2 y3 => w4 j y1 y2)
          rcases ih (ts ++ [t]) true q' nX nM S0' V6 A1' B6 (by rw [el]; omega) (by omega) (by omega) hTB ⟨b3, w3⟩ b6 hRB with ⟨D0, D1, D6, DA, dq, d1, d2, d3, d4, d5, d6, d7, d8⟩ | ⟨ts', D0, D1, D6, DA, dq, dp, d1, d2, d3, d4, d5, d6, d7, d8, d9, d10⟩
          · rw [el] at d1
            exact Or.inl ⟨D0, D1, D6, DA, dq, d1, d2, d3, d4, d5, Fr0.tr kF d6, FrS.tr hS d7, FrM.tr hFB d8⟩
          · rw [el] at d1
            exact Or.inr ⟨ts', D0, D1, D6, DA, dq, dp, d1, d2, d3, d4, d5, d6, d7, Fr0.tr kF d8, FrS.tr hS d9, FrM.tr hFB d10⟩
        · rw [show (6385252 : Int64) = wcst 7 from rfl, w2, bd_some]
          rcases isW (k := 7) hX b3 (by decide) with ⟨x1, x2⟩ | ⟨x1, x2⟩
          · exact absurd x2 w1
          rw [x1, bd_some]
          have hS : FrS S6 V6 := FrS.tr kS (fun j y1 y2 y3 => w4 j y1 y2)
          rcases ih (ts ++ [t]) false q' nX nM S0' V6 A1' B6 (by rw [el]; omega) (by omega) (by omega) hTB ⟨b3, q', w3, b3.2.1⟩ b6 hRB with ⟨D0, D1, D6, DA, dq, d1, d2, d3, d4, d5, d6, d7, d8⟩ | ⟨ts', D0, D1, D6, DA, dq, dp, d1, d2, d3, d4, d5, d6, d7, d8, d9, d10⟩
          · rw [el] at d1
            exact Or.inl ⟨D0, D1, D6, DA, dq, d1, d2, d3, d4, d5, Fr0.tr kF d6, FrS.tr hS d7, FrM.tr hFB d8⟩
          · rw [el] at d1
            exact Or.inr ⟨ts', D0, D1, D6, DA, dq, dp, d1, d2, d3, d4, d5, d6, d7, Fr0.tr kF d8, FrS.tr hS d9, FrM.tr hFB d10⟩
/-- the semicolon -/
def J108f (A0 : Nat → Nat → Int32) : (Nat → Int32) → (Nat → Int32) → (Nat → Nat → Int32) → Option (Int32 × (Nat → Int32) × (Nat → Int32) × (Nat → Nat → Int32)) := fun (S0 : Nat → Int32) (S1 : Nat → Int32) (A1 : Nat → Nat → Int32) =>
      bd (F_X0_signHere S0 A0) fun z_1 =>
      if z_1 = 59 then (
        bd (F_X0_advance S0 A0) fun z_3 =>
        some (1, z_3, S1, A1)
      ) else (
        some (0, S0, S1, A1)
      )
def J186f : (Nat → Int32) → (Nat → Nat → Int32) → Option (Int32 × (Nat → Int32) × (Nat → Nat → Int32)) := fun (S6 : Nat → Int32) (A6 : Nat → Nat → Int32) =>
      bd (F_X6_blanks S6 A6) fun z_1 =>
      if (z_1 19) = (z_1 18) then (
        some (0, z_1, A6)
      ) else (
        ix (z_1 19) 600 <|
        if (A6 16 (z_1 19).toNatClampNeg) = 59 then (
          nm (upd z_1 19 ((z_1 19) + 1)) fun S6_5 =>
          some (1, S6_5, A6)
        ) else (
          some (0, z_1, A6)
        )
      )
theorem t_semi {A0 A6 A1 : Nat → Nat → Int32} {T : Nat → Nat} {n q p : Nat} {S0 S6 S1 : Nat → Int32} (hX : TX A0 T n) (hT : TM A6 T n) (hC : CA T n q S0) (hP : MP n p S6) (hq : ruN isBl T n p = q) :
    (∃ S6', J108f A0 S0 S1 A1 = some (0, S0, S1, A1) ∧ J186f S6 A6 = some (0, S6', A6) ∧ S0 4 = nI q ∧ S6' 19 = nI q ∧ FrS S6 S6') ∨
    (∃ S0' S6' q' p', J108f A0 S0 S1 A1 = some (1, S0', S1, A1) ∧ J186f S6 A6 = some (1, S6', A6) ∧ CA T n q' S0' ∧ MP n p' S6' ∧ ruN isBl T n p' = q' ∧ Fr0 S0 S0' ∧ FrS S6 S6') := by
  have hn := hT.1
  have hqn := hC.1
  unfold J108f J186f
  rw [mBl hT hP, bd_some, hq]
  have u19 : upd S6 19 (nI q) 19 = nI q := rfl
  have u18 : upd S6 19 (nI q) 18 = nI n := hP.2.1
  rw [u19, u18]
  have uF : FrS S6 (upd S6 19 (nI q)) := fun j x y z => by rw [upd_at, if_neg x]
  rcases sigH hX hC with ⟨s1, s2, s3, s4, s5⟩ | ⟨s1, s2⟩
  · obtain ⟨t1, t2⟩ := hT.2 q s1
    have hsg := sg_iff _ t1
    rw [s4, bd_some, if_neg (show ¬ nI q = nI n by rw [nI_eq (by omega) (by omega)]; omega), ix_nI (by omega) (by decide), nI_clamp (by omega), t2]
    by_cases c : T q = 59
    · rw [if_pos (by rw [c]; rfl), if_pos (hsg.2.2.2.2.1.mpr c), nm_eq, nI_1]
      obtain ⟨S0', a1, a2, a3⟩ := adv_CA hX hC
      rw [s5] at a2
      rw [a1, bd_some]
      exact Or.inr ⟨S0', _, _, q + 1, rfl, rfl, a2, ⟨by omega, hP.2.1, rfl⟩, rfl, a3, fun j x y z => by rw [upd_at, if_neg x]; exact uF j x y z⟩
    · rw [if_neg (show ¬ nI (T q) = 59 by rw [show (59 : Int32) = nI 59 from rfl, nI_eq (by omega) (by decide)]; exact c), if_neg (fun z => c (hsg.2.2.2.2.1.mp z))]
      exact Or.inl ⟨_, rfl, rfl, hC.2.2.2.2.1, rfl, uF⟩
  · rw [s1, bd_some, if_neg (by decide)]
    refine Or.inl ⟨upd S6 19 (nI q), rfl, ?_, hC.2.2.2.2.1, rfl, uF⟩
    by_cases c : q = n
    · rw [if_pos (by rw [c])]
    · obtain ⟨t1, t2⟩ := hT.2 q (by omega)
      have hsg := sg_iff _ t1
      rw [if_neg (show ¬ nI q = nI n by rw [nI_eq (by omega) (by omega)]; omega), ix_nI (by omega) (by decide), nI_clamp (by omega), t2, if_neg (fun z => by have := hsg.2.2.2.2.1.mp z; omega)]
