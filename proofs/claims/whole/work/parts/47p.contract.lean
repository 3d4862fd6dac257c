/-! the contract, the hall -/
def J64f : (Nat → Int32) → (Nat → Int32) → (Nat → Nat → Int32) → Option (Int32 × (Nat → Int32) × (Nat → Int32) × (Nat → Nat → Int32)) := fun (S0 : Nat → Int32) (S1 : Nat → Int32) (A1 : Nat → Nat → Int32) =>
      if (S0 3) = 0 then (
        some ((-1), S0, S1, A1)
      ) else (
        some (S0 4, S0, S1, A1)
      )
theorem rc_eq (S0 : Nat → Int32) (A0 : Nat → Nat → Int32) (S1 : Nat → Int32) (A1 : Nat → Nat → Int32) (p1 : Int32) : F_X0_readContract S0 A0 S1 A1 p1 =
  bd (F_X0_advance (upd (upd (upd S0 2 (if (S0 1) < p1 then (S0 1) else p1)) 1 0) 5 0) A0) fun z_12 =>
  L_X0_readContract_32 A0 J64f FU 0 z_12 (upd (upd (upd S1 5 0) 6 1) 7 0) A1 := by
  unfold F_X0_readContract J64f F_X1_clearContract
  simp only [nm_p, bd_some]
theorem h83_0 {J : Int32 → (Nat → Int32) → (Nat → Nat → Int32) → Option (Int32 × (Nat → Int32) × (Nat → Nat → Int32))} (k : Nat) (S6 : Nat → Int32) (A6 : Nat → Nat → Int32) : L_X6_hall_83 J (k + 1) 0 S6 A6 = J 0 S6 A6 := by
  rw [L_X6_hall_83.eq_2, nm_eq, nm_eq, if_pos rfl]
theorem t_loop {A0 : Nat → Nat → Int32} {JM : Int32 → (Nat → Int32) → (Nat → Nat → Int32) → Option (Int32 × (Nat → Int32) × (Nat → Nat → Int32))} {T : Nat → Nat} {n h : Nat} (hX : TX A0 T n) (hh : h < 12) :
    ∀ (m : Nat) (sts : List StT) (q nX nM : Nat) (S0 S1 S6 : Nat → Int32) (A1 A6 : Nat → Nat → Int32), sts.length + m = 12 → m + 1 ≤ nX → m + 2 ≤ nM → TM A6 T n → CA T n q S0 → MP n q S6 → S6 21 = nI h → A6 22 h = nI sts.length → RepC S1 A1 sts → RepM A6 (12 * h) sts →
    (∃ S0' S1' A1' S6' A6' q', L_X0_readContract_32 A0 J64f nX (nI sts.length) S0 S1 A1 = some (nI q', S0', S1', A1') ∧ L_X6_hall_83 JM nM 1 S6 A6 = JM 0 S6' A6' ∧ S6' 19 = nI q' ∧ q' ≤ n ∧ Fr0 S0 S0' ∧ Fr1 S1 S1' ∧ FrS S6 S6' ∧ FrH h A6 A6') ∨
    (∃ sts' S0' S1' A1' S6' A6', L_X0_readContract_32 A0 J64f nX (nI sts.length) S0 S1 A1 = some (-1, S0', S1', A1') ∧ L_X6_hall_83 JM nM 1 S6 A6 = JM 1 S6' A6' ∧ RepC S1' A1' sts' ∧ RepM A6' (12 * h) sts' ∧ A6' 22 h = nI sts'.length ∧ sts'.length ≤ 12 ∧ Fr0 S0 S0' ∧ Fr1 S1 S1' ∧ FrS S6 S6' ∧ FrH h A6 A6') := by
  have h10 : ¬ (1 : Int32) = 0 := by decide
  have hn := hX.1
  have hch : (nI h).toNatClampNeg = h := nI_clamp (by omega)
  intro m
  induction m with
  | zero =>
    intro sts q nX nM S0 S1 S6 A1 A6 e1 e2 e3 hT hC hP h21 h22 hR hM
    obtain ⟨nX, rfl⟩ : ∃ k, nX = k + 1 := ⟨nX - 1, by omega⟩
    obtain ⟨nM, rfl⟩ : ∃ k, nM = k + 1 + 1 := ⟨nM - 2, by omega⟩
    have hTq : q < n → T q < 256 := fun c => (hT.2 q c).1
    have hqn := hC.1
    have c12 : (12 : Int32) ≤ nI sts.length := by rw [show (12 : Int32) = nI 12 from rfl]; exact nI_le (by omega) (by omega)
    rw [L_X0_readContract_32.eq_2, if_pos c12, L_X6_hall_83.eq_2]
    simp only [nm_p]
    rw [if_neg h10, hP.2.1, hP.2.2]
    unfold J64f
    by_cases c : n ≤ q
    · rw [if_pos (by rw [hC.2.2.2.1]; exact (kd_0 hTq).mpr c), if_pos (nI_le c (by omega))]
      exact Or.inr ⟨sts, S0, S1, A1, S6, A6, rfl, rfl, hR, hM, h22, by omega, fun _ _ => rfl, fun _ _ => rfl, fun _ _ _ _ => rfl, (FrM.rf h A6).toH⟩
    · rw [if_neg (by rw [hC.2.2.2.1]; exact fun z => c ((kd_0 hTq).mp z)), if_neg (nI_ge (by omega) (by omega)), h21, ix_nI (by omega) (by decide), hch, h22, if_pos c12, if_pos trivial, h83_0]
      exact Or.inl ⟨S0, S1, A1, S6, A6, q, by rw [hC.2.2.2.2.1], rfl, hP.2.2, hqn, fun _ _ => rfl, fun _ _ => rfl, fun _ _ _ _ => rfl, (FrM.rf h A6).toH⟩
  | succ m ih =>
    intro sts q nX nM S0 S1 S6 A1 A6 e1 e2 e3 hT hC hP h21 h22 hR hM
    obtain ⟨nX, rfl⟩ : ∃ k, nX = k + 1 := ⟨nX - 1, by omega⟩
    obtain ⟨nM, rfl⟩ : ∃ k, nM = k + 1 + 1 := ⟨nM - 2, by omega⟩
    have hTq : q < n → T q < 256 := fun c => (hT.2 q c).1
    have hqn := hC.1
    have c12 : ¬ (12 : Int32) ≤ nI sts.length := by rw [show (12 : Int32) = nI 12 from rfl]; exact nI_ge (by omega) (by decide)
    have h12 : 12 * nI h + nI sts.length = nI (12 * h + sts.length) := by rw [show (12 : Int32) = nI 12 from rfl, pk_mul, nI_add]
    rw [L_X0_readContract_32.eq_2, if_neg c12, L_X6_hall_83.eq_2]
    simp only [nm_p]
    rw [if_neg h10, hP.2.1, hP.2.2]
    by_cases c : n ≤ q
    · unfold J64f
      rw [if_pos (by rw [hC.2.2.2.1]; exact (kd_0 hTq).mpr c), if_pos (by rw [hC.2.2.2.1]; exact (kd_0 hTq).mpr c), if_pos (nI_le c (by omega))]
      exact Or.inr ⟨sts, S0, S1, A1, S6, A6, rfl, rfl, hR, hM, h22, by omega, fun _ _ => rfl, fun _ _ => rfl, fun _ _ _ _ => rfl, (FrM.rf h A6).toH⟩
    · rw [if_neg (by rw [hC.2.2.2.1]; exact fun z => c ((kd_0 hTq).mp z)), if_neg (nI_ge (by omega) (by omega)), h21]
      simp only [ix_nI (show h < 13 by omega) (show 13 < 2 ^ 31 by decide), hch, h22]
      rw [if_neg c12, h12]
      rcases t_stmt hX hT hh (by omega) hC hP hC.2.1 hR hM with ⟨S0', S1', A1', S6', A6', q', a1, a2, a3, a4, a5, a6, a7, a8, a9⟩ | ⟨st, S0', S1', A1', S6', A6', q', p', a1, a2, a3, a4, a5, a6, a7, a8, a9, a10, a11⟩
      · rw [a1, bd_some, if_pos rfl, a2, bd_some, if_pos rfl, if_pos trivial, h83_0]
        dsimp only
        exact Or.inl ⟨S0', S1', A1', S6', A6', q', by rw [a3], rfl, a4, a5, a6, a7, a8, a9.toH⟩
      · rw [a1, bd_some, if_neg h10, a2, bd_some, if_neg h10, if_neg h10]
        have s21 : S6' 21 = nI h := by rw [a10 21 (by decide) (by decide) (by decide)]; exact h21
        have s22 : A6' 22 h = nI sts.length := by rw [a11.1 22 (by omega)]; exact h22
        dsimp only
        rw [s21]
        simp only [ix_nI (show h < 13 by omega) (show 13 < 2 ^ 31 by decide), hch, s22, nI_1]
        obtain ⟨B6, hB⟩ : ∃ B6, B6 = va_up A6' 22 (upd (A6' 22) h (nI (sts.length + 1))) := ⟨_, rfl⟩
        rw [← hB]
        have fB : FrH h A6 B6 := by rw [hB]; exact FrH.tr a11.toH (FrH.up0 (Nat.le_refl _))
        have hTB : TM B6 T n := fB.tm hT
        rw [mBl hTB a4, bd_some, a5]
        have el : (sts ++ [st]).length = sts.length + 1 := by rw [List.length_append]; rfl
        have hMB : RepM B6 (12 * h) (sts ++ [st]) := by
          intro i x hx
          rw [hB, upA_at, if_neg (by decide), upA_at, if_neg (by decide), upA_at, if_neg (by decide), upA_at, if_neg (by decide), upA_at, if_neg (by decide), upA_at, if_neg (by decide)]
          exact a7 i x hx
        have kS : FrS S6 (upd S6' 19 (nI q')) := fun j u1 u2 u3 => by rw [upd_at, if_neg u1]; exact a10 j u1 u2 u3
        rcases ih (sts ++ [st]) q' nX (nM + 1) S0' S1' (upd S6' 19 (nI q')) A1' B6 (by rw [el]; omega) (by omega) (by omega) hTB a3 ⟨a3.1, a4.2.1, rfl⟩ s21 (by rw [hB, upA_at, if_pos rfl, upd_at, if_pos rfl, el]) a6 hMB with ⟨D0, D1, DA, D6, E6, dq, d1, d2, d3, d4, d5, d6, d7, d8⟩ | ⟨sts', D0, D1, DA, D6, E6, d1, d2, d3, d4, d5, d6, d7, d8, d9, d10⟩
        · rw [el] at d1
          exact Or.inl ⟨D0, D1, DA, D6, E6, dq, d1, d2, d3, d4, Fr0.tr a8 d5, fun j hj => by rw [d6 j hj, a9 j hj], FrS.tr kS d7, FrH.tr fB d8⟩
        · rw [el] at d1
          exact Or.inr ⟨sts', D0, D1, DA, D6, E6, d1, d2, d3, d4, d5, d6, Fr0.tr a8 d7, fun j hj => by rw [d8 j hj, a9 j hj], FrS.tr kS d9, FrH.tr fB d10⟩
theorem cp_text {J : Int32 → (Nat → Int32) → (Nat → Nat → Int32) → Option (Int32 × (Nat → Int32) × (Nat → Nat → Int32))} {n : Nat} (hn : n ≤ 600) (S6 : Nat → Int32) :
    ∀ (m i n' : Nat) (A6 : Nat → Nat → Int32), i + m = n → m + 1 ≤ n' → (∀ j, j < i → A6 16 j = vp_nar .byte (A6 15 j)) → ∃ B6, L_X6_hall_29 J n' (nI n) (nI i) S6 A6 = J (nI n) S6 B6 ∧ (∀ j, j < n → B6 16 j = vp_nar .byte (A6 15 j)) ∧ ∀ j, j ≠ 16 → B6 j = A6 j := by
  intro m
  induction m with
  | zero =>
    intro i n' A6 e1 e2 hA
    obtain ⟨n', rfl⟩ : ∃ k, n' = k + 1 := ⟨n' - 1, by omega⟩
    have : i = n := by omega
    subst this
    exact ⟨A6, by rw [L_X6_hall_29.eq_2, if_pos (nI_le (by omega) (by omega))], hA, fun _ _ => rfl⟩
  | succ m ih =>
    intro i n' A6 e1 e2 hA
    obtain ⟨n', rfl⟩ : ∃ k, n' = k + 1 := ⟨n' - 1, by omega⟩
    rw [L_X6_hall_29.eq_2, if_neg (nI_ge (by omega) (by omega)), ix_nI (by omega) (by decide), ix_nI (by omega) (by decide), nI_clamp (by omega), nm_eq, nm_eq, nI_1]
    obtain ⟨B6, g1, g2, g3⟩ := ih (i + 1) n' (va_up A6 16 (upd (A6 16) i (vp_nar .byte (A6 15 i)))) (by omega) (by omega) (fun j hj => by
      show upd (A6 16) i (vp_nar .byte (A6 15 i)) j = vp_nar .byte (A6 15 j)
      rw [upd_at]
      by_cases e : j = i
      · rw [if_pos e, e]
      · rw [if_neg e]; exact hA j (by omega))
    exact ⟨B6, g1, g2, fun j hj => by rw [g3 j hj, upA_at, if_neg hj]⟩
