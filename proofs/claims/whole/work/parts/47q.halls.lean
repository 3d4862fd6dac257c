/-! the halls: hall, week, hallOf -/
abbrev HLp : Type := List ((Nat → Nat) × (Nat → Int32) × (Nat → Nat → Int32))
def RHall (g : Nat) (SH : Nat → Int32) (AH : Nat → Nat → Int32) (A6 : Nat → Nat → Int32) (G6 : Nat → Nat → Int64) : Prop :=
  ∃ sts : List StT, sts.length ≤ 12 ∧ A6 22 g = nI sts.length ∧ RepM A6 (12 * g) sts ∧ RepC SH AH sts ∧ SH 8 = A6 29 g ∧ SH 9 = (G6 31 g).toInt32 ∧ SH 10 = (G6 32 g).toInt32 ∧ SH 11 = A6 30 g
def RHs (S5 : Nat → Int32) (f : Nat → Option Nat) (HL : HLp) (S1 S6 : Nat → Int32) (A6 : Nat → Nat → Int32) (G6 : Nat → Nat → Int64) : Prop :=
  HL.length ≤ 12 ∧ S5 6 = nI HL.length ∧ S6 21 = nI HL.length ∧ S5 7 = S6 20 ∧ (∀ j, j < 12 → f j = (HL[j]?).map (fun x => x.1 0)) ∧ (∀ g x, HL[g]? = some x → RHall g x.2.1 x.2.2 A6 G6) ∧ (S1 8 = 0 ∧ S1 9 = 0 ∧ S1 10 = 0 ∧ S1 11 = 0) ∧ ∀ g, HL.length ≤ g → g < 12 → A6 29 g = 0 ∧ A6 30 g = 0 ∧ G6 31 g = 0 ∧ G6 32 g = 0
theorem RHall.congr {g : Nat} {SH : Nat → Int32} {AH A6 B6 : Nat → Nat → Int32} {G6 : Nat → Nat → Int64} (h : RHall g SH AH A6 G6) (hB : ∀ j, 22 ≤ j → j ≤ 30 → B6 j = A6 j) : RHall g SH AH B6 G6 := by
  obtain ⟨sts, a1, a2, a3, a4, a5, a6, a7, a8⟩ := h
  refine ⟨sts, a1, by rw [hB 22 (by omega) (by omega)]; exact a2, ?_, a4, by rw [hB 29 (by omega) (by omega)]; exact a5, a6, a7, by rw [hB 30 (by omega) (by omega)]; exact a8⟩
  intro i st hi
  rw [hB 23 (by omega) (by omega), hB 24 (by omega) (by omega), hB 25 (by omega) (by omega), hB 26 (by omega) (by omega), hB 27 (by omega) (by omega), hB 28 (by omega) (by omega)]
  exact a3 i st hi
theorem RHall.frH {g h : Nat} {SH : Nat → Int32} {AH A6 B6 : Nat → Nat → Int32} {G6 : Nat → Nat → Int64} (a : RHall g SH AH A6 G6) (hg : g < h) (hB : FrH h A6 B6) : RHall g SH AH B6 G6 := by
  obtain ⟨sts, a1, a2, a3, a4, a5, a6, a7, a8⟩ := a
  refine ⟨sts, a1, by rw [hB.2.1 g hg]; exact a2, ?_, a4, by rw [hB.1 29 (by omega)]; exact a5, a6, a7, by rw [hB.1 30 (by omega)]; exact a8⟩
  intro i st hi
  have hl := get_lt hi
  obtain ⟨b1, b2, b3, b4, b5, b6⟩ := a3 i st hi
  rw [hB.2.2.1 23 (by omega) (by omega) _ (by omega), hB.2.2.1 24 (by omega) (by omega) _ (by omega), hB.2.2.1 25 (by omega) (by omega) _ (by omega)]
  refine ⟨b1, b2, b3, b4, b5, fun j t hj => ?_⟩
  have hl2 := get_lt hj
  rw [hB.2.2.2 26 (by omega) (by omega) _ (by omega), hB.2.2.2 27 (by omega) (by omega) _ (by omega), hB.2.2.2 28 (by omega) (by omega) _ (by omega)]
  exact b6 j t hj
theorem RHs.congr {S5 : Nat → Int32} {f : Nat → Option Nat} {HL : HLp} {S1 S6 T6 : Nat → Int32} {A6 B6 : Nat → Nat → Int32} {G6 : Nat → Nat → Int64} (h : RHs S5 f HL S1 S6 A6 G6) (h20 : T6 20 = S6 20) (h21 : T6 21 = S6 21) (hB : ∀ j, 22 ≤ j → j ≤ 30 → B6 j = A6 j) : RHs S5 f HL S1 T6 B6 G6 := by
  obtain ⟨a1, a2, a3, a4, a5, a6, a7, a8⟩ := h
  refine ⟨a1, a2, by rw [h21]; exact a3, by rw [h20]; exact a4, a5, fun g x hx => (a6 g x hx).congr hB, a7, fun g h1 h2 => ?_⟩
  rw [hB 29 (by omega) (by omega), hB 30 (by omega) (by omega)]
  exact a8 g h1 h2
theorem hl_hall {S5 S0 S1 S6 : Nat → Int32} {A0 A1 A6 : Nat → Nat → Int32} {f : Nat → Option Nat} {HL : HLp} {G6 : Nat → Nat → Int64} (hT : RTp S0 A0 S6 A6) (hH : RHs S5 f HL S1 S6 A6 G6) (q1 : Int32) :
    ∃ (r : Int32) (b : Bool) (S5' S0' S1' : Nat → Int32) (A1' : Nat → Nat → Int32) (S6' : Nat → Int32) (A6' : Nat → Nat → Int32), F_X5_hall S5 S0 A0 S1 A1 q1 = some (r, b, S5', S0', S1', A1') ∧ F_X6_hall S6 A6 q1 = some (r, S6', A6') ∧ RTp S0' A0 S6' A6' ∧ (b = false → RHs S5' f HL S1' S6' A6' G6) ∧ (b = true → ∀ a1 : Nat → Nat, RHs S5' (va_up f (S5 6).toNatClampNeg (some (a1 0))) (HL ++ [(a1, S1', A1')]) hlS S6' A6' G6) ∧ (∀ j, (j < 17 ∨ (21 < j ∧ j < 33) ∨ 34 < j) → S6' j = S6 j) ∧ ∀ j, (j < 16 ∨ 28 < j) → A6' j = A6 j := by
  have h10 : ¬ (1 : Int32) = 0 := by decide
  obtain ⟨t, ht, t0, t6, tA⟩ := id hT
  obtain ⟨h1, h2, h3, h4, h5, h6, h7, h8⟩ := id hH
  have same : ∀ r : Int32, ∃ (r' : Int32) (b : Bool) (S5' S0' S1' : Nat → Int32) (A1' : Nat → Nat → Int32) (S6' : Nat → Int32) (A6' : Nat → Nat → Int32), some (r, false, S5, S0, S1, A1) = some (r', b, S5', S0', S1', A1') ∧ some (r, S6, A6) = some (r', S6', A6') ∧ RTp S0' A0 S6' A6' ∧ (b = false → RHs S5' f HL S1' S6' A6' G6) ∧ (b = true → ∀ a1 : Nat → Nat, RHs S5' (va_up f (S5 6).toNatClampNeg (some (a1 0))) (HL ++ [(a1, S1', A1')]) hlS S6' A6' G6) ∧ (∀ j, (j < 17 ∨ (21 < j ∧ j < 33) ∨ 34 < j) → S6' j = S6 j) ∧ ∀ j, (j < 16 ∨ 28 < j) → A6' j = A6 j :=
    fun r => ⟨r, false, S5, S0, S1, A1, S6, A6, rfl, rfl, hT, fun _ => hH, fun e => Bool.noConfusion e, fun _ _ => rfl, fun _ _ => rfl⟩
  unfold F_X5_hall F_X6_hall
  simp only [nm_p, isIn_eq, bd_some]
  rw [t0, t6]
  by_cases c1 : q1 < 0
  · rw [if_pos c1, if_pos (Or.inl c1), if_pos rfl]; exact same (-2)
  obtain ⟨n, hn31, rfl⟩ := nI_of c1
  rw [if_neg c1]
  by_cases c2 : n ≤ t
  rotate_left
  · rw [if_neg (nI_ge (by omega) hn31), if_pos (Or.inr (nI_lt (by omega) hn31)), if_pos rfl]; exact same (-2)
  have n2 : ¬ (nI n < 0 ∨ nI t < nI n) := fun z => z.elim c1 (nI_nlt c2 (by omega))
  rw [if_pos (nI_le c2 (by omega)), if_neg n2, if_neg h10, h2, h3, if_neg (nI_pos (by omega))]
  generalize hh : HL.length = h at *
  by_cases c3 : h < 12
  rotate_left
  · have e : h = 12 := by omega
    have sm3 := same (-3)
    rw [h2, e] at sm3
    rw [e, if_neg (by decide), if_pos (show nI 12 = 12 from rfl)]; exact sm3
  rw [show (12 : Int32) = nI 12 from rfl, if_pos (nI_lt c3 (by decide)), if_neg (show ¬ nI h = nI 12 by rw [nI_eq (by omega) (by decide)]; omega)]
  -- the texts
  obtain ⟨B6, b1, b2, b3⟩ := cp_text (n := n) (J := fun (x1 : Int32) (S6 : Nat → Int32) (A6 : Nat → Nat → Int32) => ix (upd (upd (upd S6 18 x1) 17 0) 19 0 21) 13 (bd (F_X6_blanks (upd (upd (upd S6 18 x1) 17 0) 19 0) (va_up A6 22 (upd (A6 22) (upd (upd (upd S6 18 x1) 17 0) 19 0 21).toNatClampNeg 0))) fun z_22 => L_X6_hall_83 (fun (x2 : Int32) (S6 : Nat → Int32) (A6 : Nat → Nat → Int32) => if x2 = 0 then (if x2 = 0 then some ((-1), upd S6 20 (S6 19), A6) else some (((upd (upd S6 20 (S6 19)) 21 ((upd S6 20 (S6 19) 21) + 1) 21) - 1), upd (upd S6 20 (S6 19)) 21 ((upd S6 20 (S6 19) 21) + 1), A6)) else (if x2 = 0 then some ((-1), upd S6 20 (-1), A6) else some (((upd (upd S6 20 (-1)) 21 ((upd S6 20 (-1) 21) + 1) 21) - 1), upd (upd S6 20 (-1)) 21 ((upd S6 20 (-1) 21) + 1), A6))) FU 1 z_22 (va_up A6 22 (upd (A6 22) (upd (upd (upd S6 18 x1) 17 0) 19 0 21).toNatClampNeg 0)))) (by omega) S6 n 0 FU A6 (by omega) (by unfold FU; omega) (fun j hj => by omega)
  have b1' := b1
  rw [show (0 : Int32) = nI 0 from rfl] at b1' ⊢
  rw [b1']
  obtain ⟨T, eT⟩ : ∃ T : Nat → Nat, T = fun j => (A0 0 j).toNatClampNeg := ⟨_, rfl⟩
  have hTT : ∀ j, j < n → T j < 256 ∧ A0 0 j = nI (T j) ∧ B6 16 j = sgB (T j) := by
    intro j hj
    obtain ⟨x, x1, x2, x3⟩ := sg_of (A6 15 j)
    have ea : A0 0 j = nI x := by rw [tA j (by omega), x3]
    have et : T j = x := by rw [eT]; show (A0 0 j).toNatClampNeg = x; rw [ea, nI_clamp (by omega)]
    rw [et]
    exact ⟨x1, ea, by rw [b2 j hj, x2]⟩
  have hX : TX A0 T n := ⟨by omega, fun j hj => ⟨(hTT j hj).1, (hTT j hj).2.1⟩⟩
  have u21 : upd (upd (upd S6 18 (nI n)) 17 (nI 0)) 19 (nI 0) 21 = nI h := h3
  rw [u21, ix_nI (by omega) (by decide), nI_clamp (by omega)]
  obtain ⟨C6, hC6⟩ : ∃ C6, C6 = va_up B6 22 (upd (B6 22) h (nI 0)) := ⟨_, rfl⟩
  rw [← hC6]
  have fC : FrH h B6 C6 := by rw [hC6]; exact FrH.up0 (Nat.le_refl _)
  have hTB : TM B6 T n := ⟨by omega, fun j hj => ⟨(hTT j hj).1, (hTT j hj).2.2⟩⟩
  have hTC : TM C6 T n := fC.tm hTB
  obtain ⟨U6, hU6⟩ : ∃ U6, U6 = upd (upd (upd S6 18 (nI n)) 17 (nI 0)) 19 (nI 0) := ⟨_, rfl⟩
  have uM : MP n 0 U6 := by rw [hU6]; exact ⟨by omega, rfl, rfl⟩
  rw [← hU6, mBl hTC uM, bd_some, rc_eq]
  -- the class
  obtain ⟨R0, hR0⟩ : ∃ R0, R0 = upd (upd (upd S0 2 (if (S0 1) < nI n then (S0 1) else nI n)) 1 0) 5 0 := ⟨_, rfl⟩
  have r2 : R0 2 = nI n := by
    rw [hR0]
    show (if S0 1 < nI n then S0 1 else nI n) = nI n
    rw [t0, if_neg (nI_nlt c2 (by omega))]
  have r5 : R0 5 = nI 0 := by rw [hR0]; rfl
  have r1 : R0 1 = nI 0 := by rw [hR0]; rfl
  obtain ⟨R0', a1, a2, a3⟩ := adv_spec hX r2 r5 (Nat.zero_le n)
  rw [← hR0, a1, bd_some]
  obtain ⟨R1, hR1⟩ : ∃ R1, R1 = upd (upd (upd S1 5 0) 6 1) 7 0 := ⟨_, rfl⟩
  have rC : RepC R1 A1 [] := by rw [hR1]; exact ⟨rfl, rfl, rfl, fun i st z => by simp at z⟩
  rw [← hR1]
  have fR1 : Fr1 S1 R1 := fun j hj => by rw [hR1, upd_at, if_neg (by omega), upd_at, if_neg (by omega), upd_at, if_neg (by omega)]
  obtain ⟨q, hq⟩ : ∃ q, q = ruN isBl T n 0 := ⟨_, rfl⟩
  rw [← hq] at a2 ⊢
  have v21 : upd U6 19 (nI q) 21 = nI h := by rw [hU6]; exact h3
  have v18 : upd U6 19 (nI q) 18 = nI n := by rw [hU6]; rfl
  have fU : ∀ j, j ≠ 17 → j ≠ 18 → j ≠ 19 → upd U6 19 (nI q) j = S6 j := fun j x y z => by rw [upd_at, if_neg z, hU6, upd_at, if_neg z, upd_at, if_neg x, upd_at, if_neg y]
  have v17 : upd U6 19 (nI q) 17 = nI 0 := by rw [hU6]; rfl
  have frA : ∀ {E6 : Nat → Nat → Int32}, FrH h C6 E6 → FrH h B6 E6 := fun z => FrH.tr fC z
  have frB : ∀ {E6 : Nat → Nat → Int32}, FrH h B6 E6 → ∀ j, (j < 16 ∨ 28 < j) → E6 j = A6 j := fun z j hj => by rw [z.1 j (by omega), b3 j (by omega)]
  have hallB : ∀ g x, HL[g]? = some x → RHall g x.2.1 x.2.2 B6 G6 := fun g x hx => (h6 g x hx).congr (fun j u1 u2 => b3 j (by omega))
  rcases t_loop (JM := fun (x2 : Int32) (S6 : Nat → Int32) (A6 : Nat → Nat → Int32) => if x2 = nI 0 then (if x2 = nI 0 then some ((-1), upd S6 20 (S6 19), A6) else some (((upd (upd S6 20 (S6 19)) 21 ((upd S6 20 (S6 19) 21) + 1) 21) - 1), upd (upd S6 20 (S6 19)) 21 ((upd S6 20 (S6 19) 21) + 1), A6)) else (if x2 = nI 0 then some ((-1), upd S6 20 (-1), A6) else some (((upd (upd S6 20 (-1)) 21 ((upd S6 20 (-1) 21) + 1) 21) - 1), upd (upd S6 20 (-1)) 21 ((upd S6 20 (-1) 21) + 1), A6))) hX c3 12 [] q FU FU R0' R1 (upd U6 19 (nI q)) A1 C6 rfl (by unfold FU; omega) (by unfold FU; omega) hTC a2 ⟨a2.1, v18, rfl⟩ v21 (by rw [hC6, upA_at, if_pos rfl, upd_at, if_pos rfl]; rfl) rC (fun i st z => by simp at z) with ⟨D0, D1, DA, D6, E6, dq, d1, d2, d3, d4, d5, d6, d7, d8⟩ | ⟨sts', D0, D1, DA, D6, E6, d1, d2, d3, d4, d5, d6, d7, d8, d9, d10⟩
  · have d1' : L_X0_readContract_32 A0 J64f FU 0 R0' R1 A1 = some (nI dq, D0, D1, DA) := d1
    rw [d1', d2, bd_some]
    have e0 : D0 1 = nI 0 := by rw [d5 1 (by omega), a3 1 (by omega), r1]
    have e17 : D6 17 = nI 0 := by rw [d7 17 (by decide) (by decide) (by decide), v17]
    have fE := frA d8
    have fE2 := frB fE
    rw [if_neg (nne (by omega))]
    refine ⟨-1, false, upd S5 7 (nI dq), D0, D1, DA, upd D6 20 (D6 19), E6, rfl, rfl, ⟨0, by omega, e0, ?_, fun j hj => by omega⟩, fun _ => ?_, fun e => Bool.noConfusion e, fun j hj => ?_, fE2⟩
    · rw [upd_at, if_neg (by decide)]; exact e17
    · refine ⟨by omega, by rw [upd_at, if_neg (by decide), hh]; exact h2, ?_, ?_, h5, fun g x hx => ?_, ?_, fun g g1 g2 => ?_⟩
      · rw [upd_at, if_neg (by decide), d7 21 (by decide) (by decide) (by decide), v21, hh]
      · rw [upd_at, if_pos rfl, upd_at, if_pos rfl, d3]
      · exact (hallB g x hx).frH (by have := get_lt hx; omega) fE
      · rw [d6 8 (by omega), d6 9 (by omega), d6 10 (by omega), d6 11 (by omega), fR1 8 (by omega), fR1 9 (by omega), fR1 10 (by omega), fR1 11 (by omega)]
        exact h7
      · rw [fE2 29 (by omega), fE2 30 (by omega)]
        exact h8 g (by omega) g2
    · rw [upd_at, if_neg (by omega), d7 j (by omega) (by omega) (by omega), fU j (by omega) (by omega) (by omega)]
  · have d1' : L_X0_readContract_32 A0 J64f FU 0 R0' R1 A1 = some (-1, D0, D1, DA) := d1
    rw [d1', d2, bd_some, if_pos rfl, ix_nI c3 (by decide), nI_1]
    have e0 : D0 1 = nI 0 := by rw [d7 1 (by omega), a3 1 (by omega), r1]
    have e17 : D6 17 = nI 0 := by rw [d9 17 (by decide) (by decide) (by decide), v17]
    have e21 : D6 21 = nI h := by rw [d9 21 (by decide) (by decide) (by decide), v21]
    have fE := frA d10
    have fE2 := frB fE
    have hc : (nI h).toNatClampNeg = h := nI_clamp (by omega)
    have hD1 : D1 8 = 0 ∧ D1 9 = 0 ∧ D1 10 = 0 ∧ D1 11 = 0 := by
      rw [d8 8 (by omega), d8 9 (by omega), d8 10 (by omega), d8 11 (by omega), fR1 8 (by omega), fR1 9 (by omega), fR1 10 (by omega), fR1 11 (by omega)]
      exact h7
    refine ⟨nI h, true, _, D0, D1, DA, upd (upd D6 20 (-1)) 21 (nI (h + 1)), E6, rfl, ?_, ⟨0, by omega, e0, ?_, fun j hj => by omega⟩, fun e => Bool.noConfusion e, fun _ a1 => ?_, fun j hj => ?_, fE2⟩
    · have e : upd D6 20 (-1) 21 + 1 = nI (h + 1) := by
        rw [upd_at, if_neg (by decide), e21, nI_1]
      have e2 : upd (upd D6 20 (-1)) 21 (nI (h + 1)) 21 - 1 = nI h := by
        rw [upd_at, if_pos rfl]
        exact nI_pred h
      show (if (1 : Int32) = nI 0 then _ else if (1 : Int32) = nI 0 then _ else some (upd (upd D6 20 (-1)) 21 (upd D6 20 (-1) 21 + 1) 21 - 1, upd (upd D6 20 (-1)) 21 (upd D6 20 (-1) 21 + 1), E6)) = _
      rw [if_neg (show ¬ (1 : Int32) = nI 0 by decide), if_neg (show ¬ (1 : Int32) = nI 0 by decide), e, e2]
    · rw [upd_at, if_neg (by decide), upd_at, if_neg (by decide)]; exact e17
    · have el : (HL ++ [(a1, D1, DA)]).length = h + 1 := by rw [List.length_append, hh]; rfl
      refine ⟨by omega, ?_, ?_, rfl, fun j hj => ?_, fun g x hx => ?_, ⟨rfl, rfl, rfl, rfl⟩, fun g g1 g2 => ?_⟩
      · rw [upd_at, if_pos rfl, el]
      · rw [upd_at, if_pos rfl, el]
      · rw [upA_at]
        by_cases e : j = h
        · rw [if_pos e, e, List.getElem?_append_right (by omega), hh, Nat.sub_self]; rfl
        · rw [if_neg e, h5 j hj]
          by_cases c : j < h
          · rw [List.getElem?_append_left (by omega)]
          · rw [List.getElem?_eq_none (by omega), List.getElem?_eq_none (by omega)]
      · rcases app_get hx with ⟨x1, x2⟩ | ⟨x1, x2⟩
        · exact (hallB g x x2).frH (by omega) fE
        · subst x2
          rw [hh] at x1
          subst x1
          obtain ⟨k1, k2, k3, k4⟩ := h8 g (by omega) c3
          refine ⟨sts', d6, d5, d4, d3, ?_, ?_, ?_, ?_⟩
          · rw [fE2 29 (by omega), k1]; exact hD1.1
          · rw [k3]; exact hD1.2.1
          · rw [k4]; exact hD1.2.2.1
          · rw [fE2 30 (by omega), k2]; exact hD1.2.2.2
      · rw [fE2 29 (by omega), fE2 30 (by omega)]
        exact h8 g (by omega) g2
    · rw [upd_at, if_neg (by omega), upd_at, if_neg (by omega), d9 j (by omega) (by omega) (by omega), fU j (by omega) (by omega) (by omega)]
