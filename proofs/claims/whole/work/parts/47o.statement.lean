/-! the statement -/
def J49f (A0 : Nat → Nat → Int32) : Int32 → Int32 → Int32 → (Nat → Int32) → (Nat → Int32) → (Nat → Nat → Int32) → Option (Int32 × (Nat → Int32) × (Nat → Int32) × (Nat → Nat → Int32)) := fun (x2 : Int32) (x3 : Int32) (y0 : Int32) (S0 : Nat → Int32) (S1 : Nat → Int32) (A1 : Nat → Nat → Int32) =>
      bd (F_X0_numberHere S0 A0 y0) fun z_4 =>
      if z_4 = (-1) then (
        some (0, S0, S1, A1)
      ) else (
        bd (F_X0_advance S0 A0) fun z_6 =>
        if x2 = 0 then (
          if x3 = 0 then (
            bd (F_X1_setRent S1 z_4) fun z_12 =>
            J108f A0 z_6 z_12 A1
          ) else (
            bd (F_X1_addPart S1 A1 z_4) fun z_9 =>
            bd (F_X0_readTests z_6 A0 z_9.1 z_9.2) fun z_10 =>
            if z_10.1 = 0 then (
              some (0, z_10.2.1, z_9.1, z_10.2.2)
            ) else (
              J108f A0 z_10.2.1 z_9.1 z_10.2.2
            )
          )
        ) else (
          bd (F_X1_setWeeks S1 z_4) fun z_13 =>
          J108f A0 z_6 z_13 A1
        )
      )
def J33f (A0 : Nat → Nat → Int32) : Int32 → Int32 → (Nat → Int32) → (Nat → Int32) → (Nat → Nat → Int32) → Option (Int32 × (Nat → Int32) × (Nat → Int32) × (Nat → Nat → Int32)) := fun (x2 : Int32) (x3 : Int32) (S0 : Nat → Int32) (S1 : Nat → Int32) (A1 : Nat → Nat → Int32) =>
      bd (F_X0_advance S0 A0) fun z_14 =>
      if x3 = 0 then (
        J49f A0 x2 x3 99999 z_14 S1 A1
      ) else (
        J49f A0 x2 x3 100 z_14 S1 A1
      )
theorem rs_eq (S0 : Nat → Int32) (A0 : Nat → Nat → Int32) (S1 : Nat → Int32) (A1 : Nat → Nat → Int32) : F_X0_readStatement S0 A0 S1 A1 =
  bd (F_X0_isWord S0 A0 0) fun z_16 =>
  bd (F_X0_isWord S0 A0 1) fun z_17 =>
  if z_16 = 0 then (
    if z_17 = 0 then (
      bd (F_X0_isWord S0 A0 2) fun z_20 =>
      if z_20 = 0 then (
        some (0, S0, S1, A1)
      ) else (
        J33f A0 z_16 z_17 S0 S1 A1
      )
    ) else (
      J33f A0 z_16 z_17 S0 S1 A1
    )
  ) else (
    J33f A0 z_16 z_17 S0 S1 A1
  ) := by
  unfold F_X0_readStatement J33f J49f J108f
  simp only [nm_p]
theorem rt_eq (S0 : Nat → Int32) (A0 : Nat → Nat → Int32) (S1 : Nat → Int32) (A1 : Nat → Nat → Int32) : F_X0_readTests S0 A0 S1 A1 =
  bd (F_X0_isWord S0 A0 3) fun z_12 => L_X0_readTests_9 A0 S1 (J45f A0) FU z_12 0 S0 A1 := by
  unfold F_X0_readTests J45f
  simp only [nm_p]
def J84f : Int32 → Int32 → (Nat → Int32) → (Nat → Nat → Int32) → Option (Int32 × (Nat → Int32) × (Nat → Nat → Int32)) := fun (x1 : Int32) (y0 : Int32) (S6 : Nat → Int32) (A6 : Nat → Nat → Int32) =>
      bd (F_X6_takesNumber S6 A6 y0) fun z_17 =>
      if z_17.1 = 0 then (
        some (0, z_17.2, A6)
      ) else (
        ix x1 156 <|
        nm (va_up A6 24 (upd (A6 24) (x1).toNatClampNeg (z_17.2 34))) fun A6_20 =>
        ix x1 156 <|
        if (A6_20 23 (x1).toNatClampNeg) = 2 then (
          bd (F_X6_takes z_17.2 A6_20 26982) fun z_23 =>
          if z_23.1 = 0 then (
            L_X6_statement_128 J186f FU x1 0 z_23.2 A6_20
          ) else (
            L_X6_statement_128 J186f FU x1 1 z_23.2 A6_20
          )
        ) else (
          L_X6_statement_128 J186f FU x1 0 z_17.2 A6_20
        )
      )
def J55f : Int32 → Int32 → Int32 → (Nat → Int32) → (Nat → Nat → Int32) → Option (Int32 × (Nat → Int32) × (Nat → Nat → Int32)) := fun (x1 : Int32) (y0 : Int32) (y1 : Int32) (S6 : Nat → Int32) (A6 : Nat → Nat → Int32) =>
      ix y1 156 <|
      nm (va_up A6 23 (upd (A6 23) (y1).toNatClampNeg y0)) fun A6_26 =>
      ix x1 156 <|
      if (A6_26 23 (x1).toNatClampNeg) = (-1) then (
        some (0, S6, A6_26)
      ) else (
        ix x1 156 <|
        if (A6_26 23 (x1).toNatClampNeg) = 2 then (
          J84f x1 100 S6 A6_26
        ) else (
          J84f x1 99999 S6 A6_26
        )
      )
theorem st_eq (S6 : Nat → Int32) (A6 : Nat → Nat → Int32) (p1 : Int32) : F_X6_statement S6 A6 p1 =
  (ix p1 156 <|
  nm (va_up A6 25 (upd (A6 25) (p1).toNatClampNeg 0)) fun A6_32 =>
  bd (F_X6_takes S6 A6_32 512802253683) fun z_33 =>
  if z_33.1 = 0 then (
    bd (F_X6_takes z_33.2 A6_32 1919250036) fun z_35 =>
    if z_35.1 = 0 then (
      bd (F_X6_takes z_35.2 A6_32 1885434484) fun z_37 =>
      if z_37.1 = 0 then (
        J55f p1 (-1) p1 z_37.2 A6_32
      ) else (
        J55f p1 2 p1 z_37.2 A6_32
      )
    ) else (
      J55f p1 1 p1 z_35.2 A6_32
    )
  ) else (
    J55f p1 0 p1 z_33.2 A6_32
  )) := by
  unfold F_X6_statement J55f J84f J186f
  simp only [nm_p]
def Fr1 (S1 T1 : Nat → Int32) : Prop := ∀ j, 8 ≤ j → T1 j = S1 j
/-- how a statement may come out, in both -/
def StO (T : Nat → Nat) (n h : Nat) (sts : List StT) (S0 S6 S1 : Nat → Int32) (A6 : Nat → Nat → Int32) (X : Option (Int32 × (Nat → Int32) × (Nat → Int32) × (Nat → Nat → Int32))) (Y : Option (Int32 × (Nat → Int32) × (Nat → Nat → Int32))) : Prop :=
  (∃ S0' S1' A1' S6' A6' q', X = some (0, S0', S1', A1') ∧ Y = some (0, S6', A6') ∧ S0' 4 = nI q' ∧ S6' 19 = nI q' ∧ q' ≤ n ∧ Fr0 S0 S0' ∧ Fr1 S1 S1' ∧ FrS S6 S6' ∧ FrM h A6 A6') ∨
  (∃ st S0' S1' A1' S6' A6' q' p', X = some (1, S0', S1', A1') ∧ Y = some (1, S6', A6') ∧ CA T n q' S0' ∧ MP n p' S6' ∧ ruN isBl T n p' = q' ∧ RepC S1' A1' (sts ++ [st]) ∧ RepM A6' (12 * h) (sts ++ [st]) ∧ Fr0 S0 S0' ∧ Fr1 S1 S1' ∧ FrS S6 S6' ∧ FrM h A6 A6')
theorem sto_semi {A0 B6 A6 A1' : Nat → Nat → Int32} {T : Nat → Nat} {n h q p : Nat} {S0 S6 S1 S0' S6' S1' : Nat → Int32} {sts : List StT} {st : StT} (hX : TX A0 T n) (hT : TM B6 T n) (hC : CA T n q S0') (hP : MP n p S6') (hq : ruN isBl T n p = q) (hR : RepC S1' A1' (sts ++ [st])) (hM : RepM B6 (12 * h) (sts ++ [st])) (f0 : Fr0 S0 S0') (f1 : Fr1 S1 S1') (f6 : FrS S6 S6') (fm : FrM h A6 B6) :
    StO T n h sts S0 S6 S1 A6 (J108f A0 S0' S1' A1') (J186f S6' B6) := by
  rcases t_semi (S1 := S1') (A1 := A1') hX hT hC hP hq with ⟨V6, a1, a2, a3, a4, a5⟩ | ⟨V0, V6, q', p', a1, a2, a3, a4, a5, a6, a7⟩
  · exact Or.inl ⟨S0', S1', A1', V6, B6, q, a1, a2, a3, a4, hC.1, f0, f1, FrS.tr f6 a5, fm⟩
  · exact Or.inr ⟨st, V0, S1', A1', V6, B6, q', p', a1, a2, a3, a4, a5, hR, hM, Fr0.tr f0 a6, f1, FrS.tr f6 a7, fm⟩
theorem nne {x : Nat} (h : x < 2 ^ 31) : ¬ nI x = -1 := by
  intro e
  have := i_eq.mp e
  rw [nI_toInt h] at this
  have e2 : (-1 : Int32).toInt = -1 := rfl
  omega
theorem s128_0 {J : (Nat → Int32) → (Nat → Nat → Int32) → Option (Int32 × (Nat → Int32) × (Nat → Nat → Int32))} (x1 : Int32) (S6 : Nat → Int32) (A6 : Nat → Nat → Int32) : L_X6_statement_128 J FU x1 0 S6 A6 = J S6 A6 := by
  rw [show FU = 99999 + 1 from rfl, L_X6_statement_128.eq_2, if_pos rfl]
/-- behind the statement's word -/
theorem sto_word {A0 A6 B6 A1 : Nat → Nat → Int32} {T : Nat → Nat} {n h q kk : Nat} {S0 S6 V6 S1 : Nat → Int32} {sts : List StT} (hX : TX A0 T n) (hT : TM A6 T n) (hh : h < 12) (hl : sts.length < 12) (hC : CA T n q S0) (hP : MP n (teN T n q) V6) (hR : RepC S1 A1 sts) (hM : RepM A6 (12 * h) sts) (f6 : FrS S6 V6) (hkk : kk ≤ 2) (hB : B6 = va_up A6 25 (upd (A6 25) (12 * h + sts.length) 0)) :
    StO T n h sts S0 S6 S1 A6 (J33f A0 (if kk = 0 then 1 else 0) (if kk = 2 then 1 else 0) S0 S1 A1) (J55f (nI (12 * h + sts.length)) (nI kk) (nI (12 * h + sts.length)) V6 B6) := by
  have h10 : ¬ (1 : Int32) = 0 := by decide
  have hs : 12 * h + sts.length < 156 := by omega
  have hcs : (nI (12 * h + sts.length)).toNatClampNeg = 12 * h + sts.length := nI_clamp (by omega)
  obtain ⟨S01, a1, a2, a3⟩ := adv_CA hX hC
  generalize hq1 : ruN isBl T n (teN T n q) = q1 at a2
  -- the model's rows so far
  obtain ⟨C6, hC6⟩ : ∃ C6, C6 = va_up B6 23 (upd (B6 23) (12 * h + sts.length) (nI kk)) := ⟨_, rfl⟩
  have fB : FrM h A6 B6 := by rw [hB]; exact FrM.up1 (by omega) (by omega) (by omega)
  have fC : FrM h A6 C6 := by rw [hC6]; exact FrM.tr fB (FrM.up1 (by omega) (by omega) (by omega))
  have hTC : TM C6 T n := fC.tm hT
  have c23 : C6 23 (12 * h + sts.length) = nI kk := by rw [hC6, upA_at, if_pos rfl, upd_at, if_pos rfl]
  have key : ∀ most : Nat, most < 100000 → StO T n h sts S0 S6 S1 A6 (J49f A0 (if kk = 0 then 1 else 0) (if kk = 2 then 1 else 0) (nI most) S01 S1 A1) (J84f (nI (12 * h + sts.length)) (nI most) V6 C6) := by
    intro most hm
    unfold J49f J84f
    simp only [nm_p]
    rcases numH hX a2 hm with ⟨x, n1, n2, n3⟩ | ⟨n1, n2⟩
    · rw [n1, bd_some, if_neg (nne (by have := nu_b a2.1 n2; omega))]
      rcases mTn hTC hP hq1 hm with ⟨y, W6, m1, m2, m3, m4, m5⟩ | ⟨m1, -⟩
      rotate_left
      · exact absurd n2 (m1 x)
      have exy : y = x := by rw [m1.2.2.1, n2.2.2.1]
      rw [m2, bd_some, if_neg h10]
      dsimp only
      rw [m4, exy]
      obtain ⟨S02, b1, b2, b3⟩ := adv_CA hX a2
      rw [n3] at b2
      rw [b1, bd_some]
      simp only [ix_nI hs (show 156 < 2 ^ 31 by decide), hcs]
      obtain ⟨D6, hD6⟩ : ∃ D6, D6 = va_up C6 24 (upd (C6 24) (12 * h + sts.length) (nI x)) := ⟨_, rfl⟩
      rw [← hD6]
      have fD : FrM h A6 D6 := by rw [hD6]; exact FrM.tr fC (FrM.up1 (by omega) (by omega) (by omega))
      have hTD : TM D6 T n := fD.tm hT
      have d23 : D6 23 (12 * h + sts.length) = nI kk := by rw [hD6, upA_at, if_neg (by decide)]; exact c23
      have hMD : RepM D6 (12 * h) (sts ++ [(kk, nI x, [])]) := by
        refine repM_new hM hkk ?_ ?_ ?_ ?_
        · rw [hD6, hC6, hB]; rfl
        · rw [hD6, hC6, hB]; rfl
        · rw [hD6, hC6, hB]; rfl
        · intro j x1 x2
          rw [hD6, hC6, hB, upA_at, if_neg (by omega), upA_at, if_neg (by omega), upA_at, if_neg (by omega)]
      have g0 : Fr0 S0 S02 := Fr0.tr a3 b3
      have g6 : FrS S6 W6 := FrS.tr f6 (fun j u1 u2 u3 => m5 j u1 u3)
      rw [d23]
      by_cases k0 : kk = 0
      · subst k0
        rw [show (if (0 : Nat) = 0 then (1 : Int32) else 0) = 1 from rfl, if_neg h10, if_neg (show ¬ nI 0 = 2 by decide), s128_0]
        unfold F_X1_setWeeks
        rw [nm_eq, bd_some]
        exact sto_semi hX hTD b2 m3 rfl (repC_weeks hR (nI x)) hMD g0 (fun j hj => by rw [upd_at, if_neg (by omega)]) g6 fD
      · by_cases k1 : kk = 1
        · subst k1
          rw [show (if (1 : Nat) = 0 then (1 : Int32) else 0) = 0 from rfl, show (if (1 : Nat) = 2 then (1 : Int32) else 0) = 0 from rfl, if_pos rfl, if_pos rfl, if_neg (show ¬ nI 1 = 2 by decide), s128_0]
          unfold F_X1_setRent
          rw [nm_eq, bd_some]
          exact sto_semi hX hTD b2 m3 rfl (repC_rent hR (nI x)) hMD g0 (fun j hj => by rw [upd_at, if_neg (by omega)]) g6 fD
        · have k2 : kk = 2 := by omega
          subst k2
          rw [show (if (2 : Nat) = 0 then (1 : Int32) else 0) = 0 from rfl, show (if (2 : Nat) = 2 then (1 : Int32) else 0) = 1 from rfl, if_pos rfl, if_neg h10, if_pos (show nI 2 = 2 from rfl)]
          obtain ⟨S1', A1', p1, p2, p3⟩ := repC_part hR hl (nI x)
          have g1 : Fr1 S1 S1' := fun j hj => p3 j (by omega)
          rw [p1, bd_some, rt_eq]
          generalize hq2 : ruN isBl T n (ruN isDi T n q1) = q2 at b2
          have run : ∀ (more : Bool) (X6 : Nat → Int32), TsH T n more q2 S02 X6 → FrS S6 X6 → StO T n h sts S0 S6 S1 A6 (bd (L_X0_readTests_9 A0 S1' (J45f A0) FU (if more then 1 else 0) 0 S02 A1') fun z_10 => if z_10.1 = 0 then some (0, z_10.2.1, S1', z_10.2.2) else J108f A0 z_10.2.1 S1' z_10.2.2) (L_X6_statement_128 J186f FU (nI (12 * h + sts.length)) (if more then 1 else 0) X6 D6) := by
            intro more X6 hH fX
            rcases t_tests (JM := J186f) hX hh hl 3 [] more q2 FU FU S02 X6 A1' D6 rfl (by unfold FU; omega) (by unfold FU; omega) hTD hH p2 hMD with ⟨D0, D1, E6, DA, dq, d1, d2, d3, d4, d5, d6, d7, d8⟩ | ⟨ts', D0, D1, E6, DA, dq, dp, d1, d2, d3, d4, d5, d6, d7, d8, d9, d10⟩
            · have d1' : L_X0_readTests_9 A0 S1' (J45f A0) FU (if more then 1 else 0) 0 S02 A1' = some (0, D0, D1) := d1
              rw [d1', d2, bd_some, if_pos rfl]
              exact Or.inl ⟨D0, S1', D1, E6, DA, dq, rfl, rfl, d3, d4, d5, Fr0.tr g0 d6, g1, FrS.tr fX d7, FrM.tr fD d8⟩
            · have d1' : L_X0_readTests_9 A0 S1' (J45f A0) FU (if more then 1 else 0) 0 S02 A1' = some (1, D0, D1) := d1
              rw [d1', d2, bd_some, if_neg h10]
              exact sto_semi hX (d10.tm hTD) d3 d4 d5 d6 d7 (Fr0.tr g0 d8) g1 (FrS.tr fX d9) (FrM.tr fD d10)
          rcases mTk (k := 3) hTD m3 hq2 (by decide) with ⟨w1, X6, w2, w3, w4⟩ | ⟨w1, X6, w2, w3, w4⟩
          · rw [show (26982 : Int64) = wcst 3 from rfl, w2, bd_some, if_neg h10]
            rcases isW (k := 3) hX b2 (by decide) with ⟨x1, x2⟩ | ⟨x1, x2⟩
            rotate_left
            · exact absurd w1 x2
            rw [x1, bd_some]
            exact run true X6 ⟨b2, w3⟩ (FrS.tr g6 (fun j u1 u2 u3 => w4 j u1 u2))
          · rw [show (26982 : Int64) = wcst 3 from rfl, w2, bd_some, if_pos rfl]
            rcases isW (k := 3) hX b2 (by decide) with ⟨x1, x2⟩ | ⟨x1, x2⟩
            · exact absurd x2 w1
            rw [x1, bd_some]
            exact run false X6 ⟨b2, q2, w3, b2.2.1⟩ (FrS.tr g6 (fun j u1 u2 u3 => w4 j u1 u2))
    · rw [n1, bd_some, if_pos rfl]
      rcases mTn hTC hP hq1 hm with ⟨y, W6, m1, -⟩ | ⟨m1, W6, m2, m3, m4⟩
      · exact absurd m1 (n2 y)
      rw [m2, bd_some, if_pos rfl]
      exact Or.inl ⟨S01, S1, A1, W6, C6, q1, rfl, rfl, a2.2.2.2.2.1, m3.2.2, a2.1, a3, fun _ _ => rfl, FrS.tr f6 (fun j u1 u2 u3 => m4 j u1 u3), fC⟩
  unfold J33f J55f
  rw [a1, bd_some]
  simp only [nm_p, ix_nI hs (show 156 < 2 ^ 31 by decide), hcs]
  rw [← hC6, c23, if_neg (nne (by omega))]
  by_cases k2 : kk = 2
  · subst k2
    have kx := key 100 (by decide)
    rw [show (if (2 : Nat) = 2 then (1 : Int32) else 0) = 1 from rfl] at kx ⊢
    rw [if_neg h10, if_pos (show nI 2 = 2 from rfl)]
    exact kx
  · have kx := key 99999 (by decide)
    have i2 : (if kk = 2 then (1 : Int32) else 0) = 0 := if_neg k2
    rw [i2] at kx ⊢
    rw [if_pos (rfl : (0 : Int32) = 0), if_neg (show ¬ nI kk = 2 by rw [show (2 : Int32) = nI 2 from rfl, nI_eq (by omega) (by decide)]; exact k2)]
    exact kx
theorem wm_ex01 {T : Nat → Nat} {n q : Nat} (a : wm T n q 0) (b : wm T n q 1) : False := by
  have h1 := a.1
  have h2 := b.1
  have e0 : wlen 0 = 5 := rfl
  have e1 : wlen 1 = 4 := rfl
  omega
theorem wm_ex02 {T : Nat → Nat} {n q : Nat} (a : wm T n q 0) (b : wm T n q 2) : False := by
  have h1 := a.1
  have h2 := b.1
  have e0 : wlen 0 = 5 := rfl
  have e1 : wlen 2 = 4 := rfl
  omega
theorem wm_ex12 {T : Nat → Nat} {n q : Nat} (a : wm T n q 1) (b : wm T n q 2) : False := by
  have h1 := a.2 0 (by decide)
  have h2 := b.2 0 (by decide)
  have e0 : wch 1 0 = 112 := rfl
  have e1 : wch 2 0 = 114 := rfl
  omega
theorem t_stmt {A0 A6 A1 : Nat → Nat → Int32} {T : Nat → Nat} {n h q p : Nat} {S0 S6 S1 : Nat → Int32} {sts : List StT} (hX : TX A0 T n) (hT : TM A6 T n) (hh : h < 12) (hl : sts.length < 12) (hC : CA T n q S0) (hP : MP n p S6) (hq : ruN isBl T n p = q) (hR : RepC S1 A1 sts) (hM : RepM A6 (12 * h) sts) :
    StO T n h sts S0 S6 S1 A6 (F_X0_readStatement S0 A0 S1 A1) (F_X6_statement S6 A6 (nI (12 * h + sts.length))) := by
  have h10 : ¬ (1 : Int32) = 0 := by decide
  have hs : 12 * h + sts.length < 156 := by omega
  have hcs : (nI (12 * h + sts.length)).toNatClampNeg = 12 * h + sts.length := nI_clamp (by omega)
  rw [rs_eq, st_eq, ix_nI hs (by decide), hcs, nm_eq]
  obtain ⟨B6, hB⟩ : ∃ B6, B6 = va_up A6 25 (upd (A6 25) (12 * h + sts.length) 0) := ⟨_, rfl⟩
  rw [← hB, show (512802253683 : Int64) = wcst 0 from rfl, show (1919250036 : Int64) = wcst 2 from rfl, show (1885434484 : Int64) = wcst 1 from rfl]
  have fB : FrM h A6 B6 := by rw [hB]; exact FrM.up1 (by omega) (by omega) (by omega)
  have hTB : TM B6 T n := fB.tm hT
  have w := fun (kk : Nat) (V6 : Nat → Int32) (hP : MP n (teN T n q) V6) (f6 : FrS S6 V6) (hkk : kk ≤ 2) => sto_word (S6 := S6) hX hT hh hl hC hP hR hM f6 hkk hB
  rcases mTk (k := 0) hTB hP hq (by decide) with ⟨w1, X6, w2, w3, w4⟩ | ⟨w1, X6, w2, w3, w4⟩
  · rw [w2, bd_some, if_neg h10]
    rcases isW (k := 0) hX hC (by decide) with ⟨x1, x2⟩ | ⟨x1, x2⟩
    rotate_left
    · exact absurd w1 x2
    rcases isW (k := 1) hX hC (by decide) with ⟨y1, y2⟩ | ⟨y1, y2⟩
    · exact (wm_ex01 w1 y2).elim
    rw [x1, bd_some, y1, bd_some, if_neg h10]
    exact w 0 X6 w3 (fun j u1 u2 u3 => w4 j u1 u2) (by decide)
  · rw [w2, bd_some, if_pos rfl]
    rcases isW (k := 0) hX hC (by decide) with ⟨x1, x2⟩ | ⟨x1, x2⟩
    · exact absurd x2 w1
    rw [x1, bd_some]
    rcases mTk (k := 2) hTB w3 hC.2.1 (by decide) with ⟨v1, Y6, v2, v3, v4⟩ | ⟨v1, Y6, v2, v3, v4⟩
    · rw [v2, bd_some, if_neg h10]
      rcases isW (k := 1) hX hC (by decide) with ⟨y1, y2⟩ | ⟨y1, y2⟩
      · exact (wm_ex12 y2 v1).elim
      rcases isW (k := 2) hX hC (by decide) with ⟨z1, z2⟩ | ⟨z1, z2⟩
      rotate_left
      · exact absurd v1 z2
      rw [y1, bd_some, if_pos rfl, if_pos rfl, z1, bd_some, if_neg h10]
      exact w 1 Y6 v3 (FrS.tr (fun j u1 u2 u3 => w4 j u1 u2) (fun j u1 u2 u3 => v4 j u1 u2)) (by decide)
    · rw [v2, bd_some, if_pos rfl]
      rcases mTk (k := 1) hTB v3 hC.2.1 (by decide) with ⟨t1, Z6, t2, t3, t4⟩ | ⟨t1, Z6, t2, t3, t4⟩
      · rw [t2, bd_some, if_neg h10]
        rcases isW (k := 1) hX hC (by decide) with ⟨y1, y2⟩ | ⟨y1, y2⟩
        rotate_left
        · exact absurd t1 y2
        rw [y1, bd_some, if_pos rfl, if_neg h10]
        exact w 2 Z6 t3 (FrS.tr (FrS.tr (fun j u1 u2 u3 => w4 j u1 u2) (fun j u1 u2 u3 => v4 j u1 u2)) (fun j u1 u2 u3 => t4 j u1 u2)) (by decide)
      · rw [t2, bd_some, if_pos rfl]
        rcases isW (k := 1) hX hC (by decide) with ⟨y1, y2⟩ | ⟨y1, y2⟩
        · exact absurd y2 t1
        rcases isW (k := 2) hX hC (by decide) with ⟨z1, z2⟩ | ⟨z1, z2⟩
        · exact absurd z2 v1
        rw [y1, bd_some, if_pos rfl, if_pos rfl, z1, bd_some, if_pos rfl]
        unfold J55f
        rw [ix_nI hs (by decide), hcs, nm_eq, ix_nI hs (by decide)]
        rw [if_pos (by rw [upA_at, if_pos rfl, upd_at, if_pos rfl])]
        exact Or.inl ⟨S0, S1, A1, Z6, _, q, rfl, rfl, hC.2.2.2.2.1, t3.2.2, hC.1, fun _ _ => rfl, fun _ _ => rfl, FrS.tr (FrS.tr (fun j u1 u2 u3 => w4 j u1 u2) (fun j u1 u2 u3 => v4 j u1 u2)) (fun j u1 u2 u3 => t4 j u1 u2), FrM.tr fB (FrM.up1 (by omega) (by omega) (by omega))⟩
