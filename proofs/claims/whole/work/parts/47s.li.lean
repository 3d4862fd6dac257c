/-! the relation of the law's loop, and its steps -/
theorem RTp.congr {S0 T0 : Nat → Int32} {A0 : Nat → Nat → Int32} {S6 T6 : Nat → Int32} {A6 B6 : Nat → Nat → Int32} (h : RTp S0 A0 S6 A6) (h0 : T0 1 = S0 1) (h17 : T6 17 = S6 17) (h15 : B6 15 = A6 15) : RTp T0 A0 T6 B6 := by
  obtain ⟨t, a1, a2, a3, a4⟩ := h
  exact ⟨t, a1, by rw [h0]; exact a2, by rw [h17]; exact a3, by rw [h15]; exact a4⟩
def LIp (n : Nat) (S5 : Nat → Int32) (f : Nat → Option Nat) (A4 : Nat → Nat → Int32) (S2 : Nat → Int32) (A2 : Nat → Nat → Int32) (S0 : Nat → Int32) (A0 : Nat → Nat → Int32) (S3 : Nat → Int32) (A3 : Nat → Nat → Int32) (_a1 : Nat → Nat) (S1 : Nat → Int32) (_A1 : Nat → Nat → Int32) (HL : HLp) (S6 : Nat → Int32) (A6 : Nat → Nat → Int32) (G6 : Nat → Nat → Int64) : Prop :=
  RPl n S3 A3 S6 A6 ∧ RPa S2 A2 S6 A6 ∧ RRd A4 A6 ∧ RTp S0 A0 S6 A6 ∧ RHs S5 f HL S1 S6 A6 G6
section
variable {n : Nat} {S5 : Nat → Int32} {f : Nat → Option Nat} {A4 : Nat → Nat → Int32} {S2 : Nat → Int32} {A2 : Nat → Nat → Int32} {S0 : Nat → Int32} {A0 : Nat → Nat → Int32} {S3 : Nat → Int32} {A3 : Nat → Nat → Int32} {a1 : Nat → Nat} {S1 : Nat → Int32} {A1 : Nat → Nat → Int32} {HL : HLp} {S6 : Nat → Int32} {A6 : Nat → Nat → Int32} {G6 : Nat → Nat → Int64}
theorem li_none (h : LIp n S5 f A4 S2 A2 S0 A0 S3 A3 a1 S1 A1 HL S6 A6 G6) : LIp (n + 1) S5 f A4 S2 A2 S0 A0 S3 A3 a1 S1 A1 HL S6 A6 G6 := ⟨h.1.mono, h.2⟩
/-- the round changed, or the model's store -/
theorem li_round {B4 B6 : Nat → Nat → Int32} (h : LIp n S5 f A4 S2 A2 S0 A0 S3 A3 a1 S1 A1 HL S6 A6 G6) (hR : RRd B4 B6) (hB : ∀ j, 2 < j → B6 j = A6 j) : LIp (n + 1) S5 f B4 S2 A2 S0 A0 S3 A3 a1 S1 A1 HL S6 B6 G6 :=
  ⟨h.1.mono.congr (fun _ _ _ => rfl) (hB 41 (by omega)), h.2.1.congr rfl rfl (fun j _ _ => hB j (by omega)), hR, h.2.2.2.1.congr rfl rfl (hB 15 (by omega)), h.2.2.2.2.congr rfl rfl (fun j _ _ => hB j (by omega))⟩
theorem li_mark (h : LIp n S5 f A4 S2 A2 S0 A0 S3 A3 a1 S1 A1 HL S6 A6 G6) (q1 q2 q3 q4 : Int32) : ∃ zx zm, F_X5_mark A4 q1 q2 q3 q4 = some zx ∧ F_X6_mark A6 q1 q2 q3 q4 = some zm ∧ zx.1 = zm.1 ∧ LIp (n + 1) S5 f zx.2 S2 A2 S0 A0 S3 A3 a1 S1 A1 HL S6 zm.2 G6 := by
  obtain ⟨r, B4, B6, e1, e2, e3, e4⟩ := rd_mark h.2.2.1 q1 q2 q3 q4
  exact ⟨(r, B4), (r, B6), e1, e2, rfl, li_round h e3 e4⟩
theorem li_line (h : LIp n S5 f A4 S2 A2 S0 A0 S3 A3 a1 S1 A1 HL S6 A6 G6) (q1 q2 q3 q4 q5 q6 : Int32) : ∃ zx zm, F_X5_line A4 q1 q2 q3 q4 q5 q6 = some zx ∧ F_X6_line A6 q1 q2 q3 q4 q5 q6 = some zm ∧ zx.1 = zm.1 ∧ LIp (n + 1) S5 f zx.2 S2 A2 S0 A0 S3 A3 a1 S1 A1 HL S6 zm.2 G6 := by
  obtain ⟨r, B4, B6, e1, e2, e3, e4⟩ := rd_line h.2.2.1 q1 q2 q3 q4 q5 q6
  exact ⟨(r, B4), (r, B6), e1, e2, rfl, li_round h e3 e4⟩
theorem li_stands (h : LIp n S5 f A4 S2 A2 S0 A0 S3 A3 a1 S1 A1 HL S6 A6 G6) (q1 q2 q3 q4 : Int32) : ∃ zx zm, F_X5_stands q1 q2 q3 q4 = some zx ∧ F_X6_stands q1 q2 q3 q4 = some zm ∧ zx = zm ∧ LIp (n + 1) S5 f A4 S2 A2 S0 A0 S3 A3 a1 S1 A1 HL S6 A6 G6 := by
  obtain ⟨r, e1, e2⟩ := rd_stands q1 q2 q3 q4
  exact ⟨r, r, e1, e2, rfl, li_none h⟩
theorem li_colour (h : LIp n S5 f A4 S2 A2 S0 A0 S3 A3 a1 S1 A1 HL S6 A6 G6) (q1 q2 : Int32) : ∃ zx zm, F_X5_colour A4 q1 q2 = some zx ∧ F_X6_colour A6 q1 q2 = some zm ∧ zx = zm.1 ∧ LIp (n + 1) S5 f A4 S2 A2 S0 A0 S3 A3 a1 S1 A1 HL S6 zm.2 G6 := by
  obtain ⟨r, B6, e1, e2, e3, e4⟩ := rd_colour h.2.2.1 q1 q2
  exact ⟨r, (r, B6), e1, e2, rfl, li_round h e3 e4⟩
theorem li_from (h : LIp n S5 f A4 S2 A2 S0 A0 S3 A3 a1 S1 A1 HL S6 A6 G6) (q1 q2 : Int32) : ∃ zx zm, F_X5_from A4 q1 q2 = some zx ∧ F_X6_from A6 q1 q2 = some zm ∧ zx = zm.1 ∧ LIp (n + 1) S5 f A4 S2 A2 S0 A0 S3 A3 a1 S1 A1 HL S6 zm.2 G6 := by
  obtain ⟨r, B6, e1, e2, e3, e4⟩ := rd_from h.2.2.1 q1 q2
  exact ⟨r, (r, B6), e1, e2, rfl, li_round h e3 e4⟩
theorem li_seam (h : LIp n S5 f A4 S2 A2 S0 A0 S3 A3 a1 S1 A1 HL S6 A6 G6) (q1 : Int32) : ∃ zx zm, F_X5_seam A4 q1 = some zx ∧ F_X6_seam A6 q1 = some zm ∧ zx = zm.1 ∧ LIp (n + 1) S5 f A4 S2 A2 S0 A0 S3 A3 a1 S1 A1 HL S6 zm.2 G6 := by
  obtain ⟨r, B6, e1, e2, e3, e4⟩ := rd_seam h.2.2.1 q1
  exact ⟨r, (r, B6), e1, e2, rfl, li_round h e3 e4⟩
theorem li_gang (h : LIp n S5 f A4 S2 A2 S0 A0 S3 A3 a1 S1 A1 HL S6 A6 G6) (q1 : Int32) : ∃ zx zm, F_X5_gang S2 A2 q1 = some zx ∧ F_X6_gang S6 A6 q1 = some zm ∧ zx.1 = zm.1 ∧ LIp (n + 1) S5 f A4 zx.2.1 zx.2.2 S0 A0 S3 A3 a1 S1 A1 HL zm.2.1 zm.2.2 G6 := by
  obtain ⟨r, S2', A2', S6', A6', e1, e2, e3, e4, e5, e6⟩ := pa_gang h.2.1 q1
  refine ⟨(r, S2', A2'), (r, S6', A6'), e1, e2, rfl, ?_⟩
  exact ⟨h.1.mono.congr (fun j _ _ => e5 j (by omega)) (e6 41 (by omega)), e3, h.2.2.1.congr (fun j _ => e6 j (by omega)), h.2.2.2.1.congr rfl (e5 17 (by omega)) (e6 15 (by omega)), h.2.2.2.2.congr (e5 20 (by omega)) (e5 21 (by omega)) (fun j _ _ => e6 j (by omega))⟩
theorem li_put (h : LIp n S5 f A4 S2 A2 S0 A0 S3 A3 a1 S1 A1 HL S6 A6 G6) (q1 q2 : Int32) : ∃ zx zm, F_X5_put S2 A2 A4 q1 q2 = some zx ∧ F_X6_put S6 A6 q1 q2 = some zm ∧ zx.1 = zm.1 ∧ LIp (n + 1) S5 f A4 S2 zx.2 S0 A0 S3 A3 a1 S1 A1 HL S6 zm.2 G6 := by
  obtain ⟨r, A2', A6', e1, e2, e3, e4, e5⟩ := pa_put h.2.2.1 h.2.1 q1 q2
  refine ⟨(r, A2'), (r, A6'), e1, e2, rfl, ?_⟩
  exact ⟨h.1.mono.congr (fun _ _ _ => rfl) (e5 41 (by omega)), e4, e3, h.2.2.2.1.congr rfl rfl (e5 15 (by omega)), h.2.2.2.2.congr rfl rfl (fun j _ _ => e5 j (by omega))⟩
theorem li_day (h : LIp n S5 f A4 S2 A2 S0 A0 S3 A3 a1 S1 A1 HL S6 A6 G6) : ∃ zx zm, F_X5_day S2 A2 = some zx ∧ F_X6_day S6 A6 = some zm ∧ zx.1 = zm.1 ∧ LIp (n + 1) S5 f A4 zx.2.1 zx.2.2 S0 A0 S3 A3 a1 S1 A1 HL zm.2.1 zm.2.2 G6 := by
  obtain ⟨r, S2', A2', S6', A6', e1, e2, e3, e4, e5, e6⟩ := pa_day h.2.1
  refine ⟨(r, S2', A2'), (r, S6', A6'), e1, e2, rfl, ?_⟩
  exact ⟨h.1.mono.congr (fun j _ _ => e5 j (by omega)) (e6 41 (by omega)), e3, h.2.2.1.congr (fun j _ => e6 j (by omega)), h.2.2.2.1.congr rfl (e5 17 (by omega)) (e6 15 (by omega)), h.2.2.2.2.congr (e5 20 (by omega)) (e5 21 (by omega)) (fun j _ _ => e6 j (by omega))⟩
theorem li_square (h : LIp n S5 f A4 S2 A2 S0 A0 S3 A3 a1 S1 A1 HL S6 A6 G6) (q1 q2 : Int32) : ∃ zx zm, F_X5_square A2 A4 q1 q2 = some zx ∧ F_X6_square A6 q1 q2 = some zm ∧ zx = zm.1 ∧ LIp (n + 1) S5 f A4 S2 A2 S0 A0 S3 A3 a1 S1 A1 HL S6 zm.2 G6 := by
  obtain ⟨r, B6, e1, e2, e3, e4⟩ := pa_square h.2.2.1 h.2.1 q1 q2
  exact ⟨r, (r, B6), e1, e2, rfl, li_round h e3 e4⟩
theorem li_least (h : LIp n S5 f A4 S2 A2 S0 A0 S3 A3 a1 S1 A1 HL S6 A6 G6) (q1 q2 q3 : Int32) : ∃ zx zm, F_X5_least S2 A2 A4 q1 q2 q3 = some zx ∧ F_X6_least S6 A6 q1 q2 q3 = some zm ∧ zx.1 = zm.1 ∧ LIp (n + 1) S5 f A4 S2 zx.2 S0 A0 S3 A3 a1 S1 A1 HL S6 zm.2 G6 := by
  obtain ⟨r, A2', A6', e1, e2, e3, e4, e5⟩ := pa_least h.2.2.1 h.2.1 q1 q2 q3
  refine ⟨(r, A2'), (r, A6'), e1, e2, rfl, ?_⟩
  exact ⟨h.1.mono.congr (fun _ _ _ => rfl) (e5 41 (by omega) (by omega) (by omega)), e4, e3, h.2.2.2.1.congr rfl rfl (e5 15 (by omega) (by omega) (by omega)), h.2.2.2.2.congr rfl rfl (fun j _ _ => e5 j (by omega) (by omega) (by omega))⟩
theorem li_feed (h : LIp n S5 f A4 S2 A2 S0 A0 S3 A3 a1 S1 A1 HL S6 A6 G6) (q1 q2 q3 q4 q5 : Int32) : ∃ zx zm, F_X5_feed S0 A0 q1 q2 q3 q4 q5 = some zx ∧ F_X6_feed S6 A6 q1 q2 q3 q4 q5 = some zm ∧ zx.1 = zm.1 ∧ LIp (n + 1) S5 f A4 S2 A2 zx.2.1 zx.2.2 S3 A3 a1 S1 A1 HL zm.2.1 zm.2.2 G6 := by
  obtain ⟨r, S0', A0', S6', A6', e1, e2, e3, e4, e5, e6⟩ := tp_feed h.2.2.2.1 q1 q2 q3 q4 q5
  refine ⟨(r, S0', A0'), (r, S6', A6'), e1, e2, rfl, ?_⟩
  exact ⟨h.1.mono.congr (fun j _ _ => e5 j (by omega)) (e6 41 (by omega)), h.2.1.congr (e5 3 (by omega)) (e5 4 (by omega)) (fun j _ _ => e6 j (by omega)), h.2.2.1.congr (fun j _ => e6 j (by omega)), e3, h.2.2.2.2.congr (e5 20 (by omega)) (e5 21 (by omega)) (fun j _ _ => e6 j (by omega))⟩
theorem li_hall (h : LIp n S5 f A4 S2 A2 S0 A0 S3 A3 a1 S1 A1 HL S6 A6 G6) (q1 : Int32) : ∃ (zx : Int32 × Bool × (Nat → Int32) × (Nat → Int32) × (Nat → Int32) × (Nat → Nat → Int32)) (zm : Int32 × (Nat → Int32) × (Nat → Nat → Int32)), F_X5_hall S5 S0 A0 S1 A1 q1 = some zx ∧ F_X6_hall S6 A6 q1 = some zm ∧ zx.1 = zm.1 ∧ (zx.2.1 = false → LIp (n + 1) zx.2.2.1 f A4 S2 A2 zx.2.2.2.1 A0 S3 A3 a1 zx.2.2.2.2.1 zx.2.2.2.2.2 HL zm.2.1 zm.2.2 G6) ∧ (zx.2.1 = true → ∀ b1 : Nat → Nat, LIp (n + 1) zx.2.2.1 (va_up f (S5 6).toNatClampNeg (some (a1 0))) A4 S2 A2 zx.2.2.2.1 A0 S3 A3 b1 hlS hlA (HL ++ [(a1, zx.2.2.2.2.1, zx.2.2.2.2.2)]) zm.2.1 zm.2.2 G6) := by
  obtain ⟨r, b, S5', S0', S1', A1', S6', A6', e1, e2, e3, e4, e5, e6, e7⟩ := hl_hall (A1 := A1) h.2.2.2.1 h.2.2.2.2 q1
  refine ⟨(r, b, S5', S0', S1', A1'), (r, S6', A6'), e1, e2, rfl, fun z => ?_, fun z b1 => ?_⟩
  · exact ⟨h.1.mono.congr (fun j _ _ => e6 j (by omega)) (e7 41 (by omega)), h.2.1.congr (e6 3 (by omega)) (e6 4 (by omega)) (fun j _ _ => e7 j (by omega)), h.2.2.1.congr (fun j _ => e7 j (by omega)), e3, e4 z⟩
  · exact ⟨h.1.mono.congr (fun j _ _ => e6 j (by omega)) (e7 41 (by omega)), h.2.1.congr (e6 3 (by omega)) (e6 4 (by omega)) (fun j _ _ => e7 j (by omega)), h.2.2.1.congr (fun j _ => e7 j (by omega)), e3, e5 z a1⟩
theorem li_fault (h : LIp n S5 f A4 S2 A2 S0 A0 S3 A3 a1 S1 A1 HL S6 A6 G6) : ∃ zx zm, F_X5_fault S5 = some zx ∧ F_X6_fault S6 = some zm ∧ zx = zm ∧ LIp (n + 1) S5 f A4 S2 A2 S0 A0 S3 A3 a1 S1 A1 HL S6 A6 G6 :=
  ⟨_, _, rfl, rfl, h.2.2.2.2.2.2.2.1, li_none h⟩
theorem li_week0 (h : LIp n S5 f A4 S2 A2 S0 A0 S3 A3 a1 S1 A1 HL S6 A6 G6) (q1 q2 q3 : Int32) (ht : hNo f q1 = none) : ∃ zm, F_X6_week S6 A6 G6 q1 q2 q3 = some zm ∧ (-1 : Int32) = zm.1 ∧ LIp (n + 1) S5 f A4 S2 A2 S0 A0 S3 A3 a1 S1 A1 HL S6 zm.2.1 zm.2.2 :=
  ⟨_, hl_week0 h.2.2.2.2 ht q2 q3, rfl, li_none h⟩
theorem li_week1 (h : LIp n S5 f A4 S2 A2 S0 A0 S3 A3 a1 S1 A1 HL S6 A6 G6) (q1 q2 q3 : Int32) (t : Nat) (ht : hNo f q1 = some t) : ∃ (l1 l2 : HLp) (aH : Nat → Nat) (SH : Nat → Int32) (AH : Nat → Nat → Int32) (zx : Int32 × (Nat → Int32)) (zm : Int32 × (Nat → Nat → Int32) × (Nat → Nat → Int64)), HL = l1 ++ (aH, SH, AH) :: l2 ∧ aH 0 = t ∧ F_X5_week SH AH q2 q3 = some zx ∧ F_X6_week S6 A6 G6 q1 q2 q3 = some zm ∧ zx.1 = zm.1 ∧ LIp (n + 1) S5 f A4 S2 A2 S0 A0 S3 A3 a1 S1 A1 (l1 ++ (aH, zx.2, AH) :: l2) S6 zm.2.1 zm.2.2 := by
  obtain ⟨l1, l2, aH, SH, AH, r, SH', A6', G6', e1, e2, e3, e4, e5, e6⟩ := hl_week1 h.2.2.2.2 ht q2 q3
  refine ⟨l1, l2, aH, SH, AH, (r, SH'), (r, A6', G6'), e1, e2, e3, e4, rfl, ?_⟩
  exact ⟨h.1.mono.congr (fun _ _ _ => rfl) (e6 41 (by omega) (by omega)), h.2.1.congr rfl rfl (fun j _ _ => e6 j (by omega) (by omega)), h.2.2.1.congr (fun j _ => e6 j (by omega) (by omega)), h.2.2.2.1.congr rfl rfl (e6 15 (by omega) (by omega)), e5⟩
theorem li_hallOf0 (h : LIp n S5 f A4 S2 A2 S0 A0 S3 A3 a1 S1 A1 HL S6 A6 G6) (q1 q2 : Int32) (ht : hNo f q1 = none) : ∃ zm, F_X6_hallOf S6 A6 G6 q1 q2 = some zm ∧ (-1 : Int32) = zm ∧ LIp (n + 1) S5 f A4 S2 A2 S0 A0 S3 A3 a1 S1 A1 HL S6 A6 G6 :=
  ⟨_, hl_of0 h.2.2.2.2 ht q2, rfl, li_none h⟩
theorem li_hallOf1 (h : LIp n S5 f A4 S2 A2 S0 A0 S3 A3 a1 S1 A1 HL S6 A6 G6) (q1 q2 : Int32) (t : Nat) (ht : hNo f q1 = some t) : ∃ (l1 l2 : HLp) (aH : Nat → Nat) (SH : Nat → Int32) (AH : Nat → Nat → Int32) (zx : Int32) (zm : Int32), HL = l1 ++ (aH, SH, AH) :: l2 ∧ aH 0 = t ∧ F_X1_tell SH q2 = some zx ∧ F_X6_hallOf S6 A6 G6 q1 q2 = some zm ∧ zx = zm ∧ LIp (n + 1) S5 f A4 S2 A2 S0 A0 S3 A3 a1 S1 A1 (l1 ++ (aH, SH, AH) :: l2) S6 A6 G6 := by
  obtain ⟨l1, l2, aH, SH, AH, r, e1, e2, e3, e4⟩ := hl_of1 h.2.2.2.2 ht q2
  exact ⟨l1, l2, aH, SH, AH, r, r, e1, e2, e3, e4, rfl, by rw [← e1]; exact li_none h⟩
theorem li_room (h : LIp n S5 f A4 S2 A2 S0 A0 S3 A3 a1 S1 A1 HL S6 A6 G6) (q1 : Int32) : ∃ zx zm, F_X5_room S3 q1 = some zx ∧ F_X6_room S6 q1 = some zm ∧ zx.1 = zm.1 ∧ LIp (n + 1) S5 f A4 S2 A2 S0 A0 zx.2 A3 a1 S1 A1 HL zm.2 A6 G6 := by
  obtain ⟨r, S3', S6', e1, e2, e3, e4⟩ := pl_room h.1 q1
  refine ⟨(r, S3'), (r, S6'), e1, e2, rfl, ?_⟩
  exact ⟨e3.mono, h.2.1.congr (e4 3 (by omega)) (e4 4 (by omega)) (fun _ _ _ => rfl), h.2.2.1, h.2.2.2.1.congr rfl (e4 17 (by omega)) rfl, h.2.2.2.2.congr (e4 20 (by omega)) (e4 21 (by omega)) (fun _ _ _ => rfl)⟩
theorem li_crowd (h : LIp n S5 f A4 S2 A2 S0 A0 S3 A3 a1 S1 A1 HL S6 A6 G6) (q1 : Int32) : ∃ zx zm, F_X5_crowd S3 q1 = some zx ∧ F_X6_crowd S6 q1 = some zm ∧ zx = zm ∧ LIp (n + 1) S5 f A4 S2 A2 S0 A0 S3 A3 a1 S1 A1 HL S6 A6 G6 := by
  obtain ⟨r, e1, e2⟩ := pl_crowd h.1 q1
  exact ⟨r, r, e1, e2, rfl, li_none h⟩
theorem li_count (h : LIp n S5 f A4 S2 A2 S0 A0 S3 A3 a1 S1 A1 HL S6 A6 G6) (q1 : Int32) : ∃ zx zm, F_X5_count S5 S2 A2 A4 S0 q1 = some zx ∧ F_X6_count S6 A6 q1 = some zm ∧ zx = zm.1 ∧ LIp (n + 1) S5 f A4 S2 A2 S0 A0 S3 A3 a1 S1 A1 HL S6 zm.2 G6 := by
  obtain ⟨r, B6, e1, e2, e3, e4⟩ := all_count (S5 := S5) h.2.2.1 h.2.1 h.2.2.2.1 (by rw [h.2.2.2.2.2.1, h.2.2.2.2.2.2.1]) q1
  exact ⟨r, (r, B6), e1, e2, rfl, li_round h e3 e4⟩
theorem li_minute (hn : n < 512) (h : LIp n S5 f A4 S2 A2 S0 A0 S3 A3 a1 S1 A1 HL S6 A6 G6) (q1 : Int32) : ∃ zx zm, F_X5_minute S3 A3 q1 = some zx ∧ F_X6_minute S6 A6 q1 = some zm ∧ zx.1 = zm.1 ∧ LIp (n + 1) S5 f A4 S2 A2 S0 A0 zx.2.1 zx.2.2 a1 S1 A1 HL zm.2.1 zm.2.2 G6 := by
  obtain ⟨r, S3', A3', S6', A6', e1, e2, e3, e4, e5⟩ := pl_minute h.1 (by omega) q1
  refine ⟨(r, S3', A3'), (r, S6', A6'), ?_, e2, rfl, ?_⟩
  · unfold F_X5_minute
    rw [e1, bd_some]
  · exact ⟨e3, h.2.1.congr (e4 3 (by omega)) (e4 4 (by omega)) (fun j _ _ => e5 j (by omega)), h.2.2.1.congr (fun j _ => e5 j (by omega)), h.2.2.2.1.congr rfl (e4 17 (by omega)) (e5 15 (by omega)), h.2.2.2.2.congr (e4 20 (by omega)) (e4 21 (by omega)) (fun j _ _ => e5 j (by omega))⟩
end
/-! the begin -/
def fmI (f : Nat → Int32) (a b : Nat) : Nat → Int32 := fun p => if a ≤ p ∧ p < b then -1 else f p
theorem fmI_step (f : Nat → Int32) (a b : Nat) (h : a < b) : fmI (upd f a (-1)) (a + 1) b = fmI f a b := by
  funext p
  unfold fmI
  by_cases c : a + 1 ≤ p ∧ p < b
  · rw [if_pos c, if_pos ⟨by omega, c.2⟩]
  · rw [if_neg c, upd_at]
    by_cases e : p = a
    · rw [if_pos e, if_pos ⟨by omega, by omega⟩]
    · rw [if_neg e, if_neg (fun h2 => c ⟨by omega, h2.2⟩)]
theorem fmI_end (f : Nat → Int32) (b : Nat) : fmI f b b = f := by
  funext p
  unfold fmI
  rw [if_neg (by omega)]
theorem in82 {J : (Nat → Nat → Int32) → Option (Nat → Nat → Int32)} : ∀ (m i n' : Nat) (A2 : Nat → Nat → Int32), i + m = 6 → m + 1 ≤ n' → ∃ B2, L_X2_init_82 J n' (nI i) A2 = J B2 ∧ B2 2 = fmI (A2 2) i 6 ∧ ∀ j, j ≠ 2 → B2 j = A2 j := by
  intro m
  induction m with
  | zero =>
    intro i n' A2 h1 h2
    obtain ⟨n', rfl⟩ : ∃ k, n' = k + 1 := ⟨n' - 1, by omega⟩
    have : i = 6 := by omega
    subst this
    exact ⟨A2, by rw [L_X2_init_82.eq_2, show (6 : Int32) = nI 6 from rfl, if_pos (nI_le (Nat.le_refl _) (by omega))], (fmI_end _ _).symm, fun _ _ => rfl⟩
  | succ m ih =>
    intro i n' A2 h1 h2
    obtain ⟨n', rfl⟩ : ∃ k, n' = k + 1 := ⟨n' - 1, by omega⟩
    rw [L_X2_init_82.eq_2, show (6 : Int32) = nI 6 from rfl, if_neg (nI_ge (by omega) (by decide)), ix_nI (by omega) (by decide), nI_clamp (by omega), nm_eq, nm_eq, nI_1]
    obtain ⟨B2, g1, g2, g3⟩ := ih (i + 1) n' (va_up A2 2 (upd (A2 2) i (-1))) (by omega) (by omega)
    exact ⟨B2, g1, by rw [g2, upA_at, if_pos rfl, fmI_step _ _ _ (by omega)], fun j hj => by rw [g3 j hj, upA_at, if_neg hj]⟩
theorem in241 {J : (Nat → Nat → Int32) → Option (Nat → Nat → Int32)} : ∀ (m i n' : Nat) (A6 : Nat → Nat → Int32), i + m = 6 → m + 1 ≤ n' → ∃ B6, L_X6_init_241 J n' (nI i) A6 = J B6 ∧ B6 6 = fmI (A6 6) i 6 ∧ ∀ j, j ≠ 6 → B6 j = A6 j := by
  intro m
  induction m with
  | zero =>
    intro i n' A2 h1 h2
    obtain ⟨n', rfl⟩ : ∃ k, n' = k + 1 := ⟨n' - 1, by omega⟩
    have : i = 6 := by omega
    subst this
    exact ⟨A2, by rw [L_X6_init_241.eq_2, show (6 : Int32) = nI 6 from rfl, if_pos (nI_le (Nat.le_refl _) (by omega))], (fmI_end _ _).symm, fun _ _ => rfl⟩
  | succ m ih =>
    intro i n' A2 h1 h2
    obtain ⟨n', rfl⟩ : ∃ k, n' = k + 1 := ⟨n' - 1, by omega⟩
    rw [L_X6_init_241.eq_2, show (6 : Int32) = nI 6 from rfl, if_neg (nI_ge (by omega) (by decide)), ix_nI (by omega) (by decide), nI_clamp (by omega), nm_eq, nm_eq, nI_1]
    obtain ⟨B2, g1, g2, g3⟩ := ih (i + 1) n' (va_up A2 6 (upd (A2 6) i (-1))) (by omega) (by omega)
    exact ⟨B2, g1, by rw [g2, upA_at, if_pos rfl, fmI_step _ _ _ (by omega)], fun j hj => by rw [g3 j hj, upA_at, if_neg hj]⟩
theorem in103 {J : (Nat → Nat → Int32) → Option (Nat → Nat → Int32)} : ∀ (m i n' : Nat) (A2 : Nat → Nat → Int32), i + m = 72 → m + 1 ≤ n' → ∃ B2, L_X2_init_103 J n' (nI i) A2 = J B2 ∧ (∀ j, (j = 4 ∨ j = 6 ∨ j = 7 ∨ j = 8) → B2 j = fmI (A2 j) i 72) ∧ ∀ j, j ≠ 4 → j ≠ 6 → j ≠ 7 → j ≠ 8 → B2 j = A2 j := by
  intro m
  induction m with
  | zero =>
    intro i n' A2 h1 h2
    obtain ⟨n', rfl⟩ : ∃ k, n' = k + 1 := ⟨n' - 1, by omega⟩
    have : i = 72 := by omega
    subst this
    exact ⟨A2, by rw [L_X2_init_103.eq_2, show (72 : Int32) = nI 72 from rfl, if_pos (nI_le (Nat.le_refl _) (by omega))], fun j _ => (fmI_end _ _).symm, fun _ _ _ _ _ => rfl⟩
  | succ m ih =>
    intro i n' A2 h1 h2
    obtain ⟨n', rfl⟩ : ∃ k, n' = k + 1 := ⟨n' - 1, by omega⟩
    rw [L_X2_init_103.eq_2, show (72 : Int32) = nI 72 from rfl, if_neg (nI_ge (by omega) (by decide))]
    simp only [ix_nI (show i < 72 by omega) (show 72 < 2 ^ 31 by decide), nI_clamp (show i < 2 ^ 31 by omega), nm_eq, nI_1]
    obtain ⟨B2, g1, g2, g3⟩ := ih (i + 1) n' _ (by omega) (by omega)
    refine ⟨B2, g1, fun j hj => ?_, fun j h1 h2 h3 h4 => by rw [g3 j h1 h2 h3 h4, upA_at, if_neg h4, upA_at, if_neg h3, upA_at, if_neg h2, upA_at, if_neg h1]⟩
    rw [g2 j hj, ← fmI_step (A2 j) i 72 (by omega)]
    rcases hj with rfl | rfl | rfl | rfl
    · rfl
    · rfl
    · rfl
    · rfl
theorem in262 {J : (Nat → Nat → Int32) → Option (Nat → Nat → Int32)} : ∀ (m i n' : Nat) (A2 : Nat → Nat → Int32), i + m = 72 → m + 1 ≤ n' → ∃ B2, L_X6_init_262 J n' (nI i) A2 = J B2 ∧ (∀ j, (j = 8 ∨ j = 10 ∨ j = 11 ∨ j = 12) → B2 j = fmI (A2 j) i 72) ∧ ∀ j, j ≠ 8 → j ≠ 10 → j ≠ 11 → j ≠ 12 → B2 j = A2 j := by
  intro m
  induction m with
  | zero =>
    intro i n' A2 h1 h2
    obtain ⟨n', rfl⟩ : ∃ k, n' = k + 1 := ⟨n' - 1, by omega⟩
    have : i = 72 := by omega
    subst this
    exact ⟨A2, by rw [L_X6_init_262.eq_2, show (72 : Int32) = nI 72 from rfl, if_pos (nI_le (Nat.le_refl _) (by omega))], fun j _ => (fmI_end _ _).symm, fun _ _ _ _ _ => rfl⟩
  | succ m ih =>
    intro i n' A2 h1 h2
    obtain ⟨n', rfl⟩ : ∃ k, n' = k + 1 := ⟨n' - 1, by omega⟩
    rw [L_X6_init_262.eq_2, show (72 : Int32) = nI 72 from rfl, if_neg (nI_ge (by omega) (by decide))]
    simp only [ix_nI (show i < 72 by omega) (show 72 < 2 ^ 31 by decide), nI_clamp (show i < 2 ^ 31 by omega), nm_eq, nI_1]
    obtain ⟨B2, g1, g2, g3⟩ := ih (i + 1) n' _ (by omega) (by omega)
    refine ⟨B2, g1, fun j hj => ?_, fun j h1 h2 h3 h4 => by rw [g3 j h1 h2 h3 h4, upA_at, if_neg h4, upA_at, if_neg h3, upA_at, if_neg h2, upA_at, if_neg h1]⟩
    rw [g2 j hj, ← fmI_step (A2 j) i 72 (by omega)]
    rcases hj with rfl | rfl | rfl | rfl
    · rfl
    · rfl
    · rfl
    · rfl
theorem hV_0 (v u c r : Nat) : ∀ (k i : Nat) (a : Int32), hV (fun _ => 0) v u c r k i a = a := by
  intro k
  induction k with
  | zero => intro i a; rfl
  | succ k ih => intro i a; rw [hV, ih, if_neg (fun q => q.2.2 rfl)]
theorem uV_0 (v c r : Nat) : ∀ (k i : Nat) (a : Int32), uV (fun _ => 0) v c r k i a = a := by
  intro k
  induction k with
  | zero => intro i a; rfl
  | succ k ih => intro i a; rw [uV, ih, hV_0]
theorem sq_0 {q : Nat} (hq : q < 72) : sq (fun _ => 0) q = 0 := by
  refine sm_zero 10 (fun i hi => sm_zero 10 (fun j hj => ?_))
  unfold cl
  have hp : ∀ v c r, pic (fun _ => 0) v c r = 0 := fun v c r => uV_0 v c r 40 0 0
  have h0 : ¬ (0 : Int32) ≠ 0 := fun z => z rfl
  have hv : viewOf (fun _ => 0) (10 * (q % 36) + i) (loN q + j) = -1 := by rw [viewOf_eq _ (by omega), hp, hp, if_neg h0, if_neg h0]
  rw [hv, if_pos rfl]
theorem li_init : ∃ z2 z6, F_X2_init (fun _ _ => 0) = some z2 ∧ F_X6_init (fun _ _ => 0) = some z6 ∧ ∀ a1 : Nat → Nat, LIp 0 (upd (fun _ => 0) 7 (-1)) (fun _ => none) (fun _ _ => 0) (fun _ => 0) z2 (fun _ => 0) (fun _ _ => 0) (upd (fun _ => 0) 1 40) (fun _ _ => 0) a1 hlS hlA [] (upd (upd (fun _ => 0) 20 (-1)) 35 40) z6 (fun _ _ => 0) := by
  obtain ⟨B2, a1, a2, a3⟩ := in82 (J := fun (A2 : Nat → Nat → Int32) => L_X2_init_103 (fun A2 => some A2) FU 0 A2) 6 0 FU (fun _ _ => 0) (by omega) (by unfold FU; omega)
  obtain ⟨C2, b1, b2, b3⟩ := in103 (J := fun A2 => some A2) 72 0 FU B2 (by omega) (by unfold FU; omega)
  obtain ⟨B6, c1, c2, c3⟩ := in241 (J := fun (A2 : Nat → Nat → Int32) => L_X6_init_262 (fun A2 => some A2) FU 0 A2) 6 0 FU (fun _ _ => 0) (by omega) (by unfold FU; omega)
  obtain ⟨C6, d1, d2, d3⟩ := in262 (J := fun A2 => some A2) 72 0 FU B6 (by omega) (by unfold FU; omega)
  have e2 : C2 2 = fmI (fun _ => 0) 0 6 := by rw [b3 2 (by decide) (by decide) (by decide) (by decide), a2]
  have eo : ∀ j, j ≠ 2 → j ≠ 4 → j ≠ 6 → j ≠ 7 → j ≠ 8 → C2 j = fun _ => 0 := fun j x1 x2 x3 x4 x5 => by rw [b3 j x2 x3 x4 x5, a3 j x1]
  have em : ∀ j, (j = 4 ∨ j = 6 ∨ j = 7 ∨ j = 8) → C2 j = fmI (fun _ => 0) 0 72 := fun j hj => by rw [b2 j hj, a3 j (by omega)]
  have f6 : C6 6 = fmI (fun _ => 0) 0 6 := by rw [d3 6 (by decide) (by decide) (by decide) (by decide), c2]
  have fo : ∀ j, j ≠ 6 → j ≠ 8 → j ≠ 10 → j ≠ 11 → j ≠ 12 → C6 j = fun _ => 0 := fun j x1 x2 x3 x4 x5 => by rw [d3 j x2 x3 x4 x5, c3 j x1]
  have fm6 : ∀ j, (j = 8 ∨ j = 10 ∨ j = 11 ∨ j = 12) → C6 j = fmI (fun _ => 0) 0 72 := fun j hj => by rw [d2 j hj, c3 j (by omega)]
  have m1 : ∀ p b, p < b → fmI (fun _ => 0) 0 b p = -1 := fun p b hp => by unfold fmI; rw [if_pos ⟨by omega, hp⟩]
  refine ⟨C2, C6, ?_, ?_, fun a1 => ⟨?_, ?_, ?_, ?_, ?_⟩⟩
  · rw [show nI 0 = (0 : Int32) from rfl] at a1 b1
    unfold F_X2_init
    rw [nm_eq, nm_eq, a1, b1]
  · rw [show nI 0 = (0 : Int32) from rfl] at c1 d1
    unfold F_X6_init
    rw [nm_eq, nm_eq, c1, d1]
  · refine ⟨rfl, rfl, rfl, rfl, rfl, rfl, ?_, by decide, by decide, by decide, by decide⟩
    rw [fo 41 (by decide) (by decide) (by decide) (by decide) (by decide)]
  · refine ⟨fun k k1 k2 => ?_, 0, 0, rfl, rfl, rfl, rfl, by decide, by decide, fun i hi => by omega, fun i hi => Or.inl (by rw [e2]; exact m1 i 6 hi), fun q hq => ?_, fun q hq => ?_⟩
    · rcases (show k = 1 ∨ k = 2 ∨ k = 3 ∨ k = 4 ∨ k = 5 ∨ k = 6 ∨ k = 7 ∨ k = 8 by omega) with rfl | rfl | rfl | rfl | rfl | rfl | rfl | rfl
      · rw [eo 1 (by decide) (by decide) (by decide) (by decide) (by decide), fo 5 (by decide) (by decide) (by decide) (by decide) (by decide)]
      · rw [e2, f6]
      · rw [eo 3 (by decide) (by decide) (by decide) (by decide) (by decide), fo 7 (by decide) (by decide) (by decide) (by decide) (by decide)]
      · rw [em 4 (by decide), fm6 8 (by decide)]
      · rw [eo 5 (by decide) (by decide) (by decide) (by decide) (by decide), fo 9 (by decide) (by decide) (by decide) (by decide) (by decide)]
      · rw [em 6 (by decide), fm6 10 (by decide)]
      · rw [em 7 (by decide), fm6 11 (by decide)]
      · rw [em 8 (by decide), fm6 12 (by decide)]
    · rw [eo 3 (by decide) (by decide) (by decide) (by decide) (by decide)]
      exact (by decide : 0 ≤ (0 : Int32).toInt ∧ (0 : Int32).toInt ≤ 2)
    · rw [em 6 (by decide), m1 q 72 hq]
      decide
  · refine ⟨?_, ⟨fun k => ?_, fun v hv => Or.inl ?_⟩, fun q hq => (sq_0 hq).symm⟩
    · rw [fo 0 (by decide) (by decide) (by decide) (by decide) (by decide)]
    · rw [fo 0 (by decide) (by decide) (by decide) (by decide) (by decide)]
      exact (by decide : vp_nar .byte (0 : Int32) = 0)
    · rw [fo 2 (by decide) (by decide) (by decide) (by decide) (by decide)]
  · exact ⟨0, by decide, rfl, rfl, fun j hj => by omega⟩
  · refine ⟨by decide, rfl, rfl, rfl, fun j hj => rfl, fun g x hx => by simp at hx, ⟨rfl, rfl, rfl, rfl⟩, fun g h1 h2 => ?_⟩
    rw [fo 29 (by decide) (by decide) (by decide) (by decide) (by decide), fo 30 (by decide) (by decide) (by decide) (by decide) (by decide)]
    exact ⟨rfl, rfl, rfl, rfl⟩
