theorem vi_in {i j L : Nat} (h : i + j < L) (hL : L ≤ 3584) : vp_in (nI i + nI j) L := by
  rw [nI_add]
  exact vp_in_nI h (by omega)
set_option maxRecDepth 100000 in
set_option maxHeartbeats 8000000 in
theorem law_loop_open {p : Program} {l : Launch} {e : Env} {s : State} {m : MethodId} {below : List Frame} {meth : Method} {c : Code} {K : Kx} {D : va_G} {C : Nat → ClassId} {b L : Nat} {xs : Nat → Int32} (LI : Nat → (Nat → Int32) → (Nat → Option Nat) → (Nat → Nat → Int32) → (Nat → Int32) → (Nat → Nat → Int32) → (Nat → Int32) → (Nat → Nat → Int32) → (Nat → Int32) → (Nat → Nat → Int32) → (Nat → Nat) → (Nat → Int32) → (Nat → Nat → Int32) → HLt → (Nat → Int32) → (Nat → Nat → Int32) → (Nat → Nat → Int64) → Prop)
    (h_mark : ∀ (n : Nat) (S5 : Nat → Int32) (f : Nat → Option Nat) (A4 : Nat → Nat → Int32) (S2 : Nat → Int32) (A2 : Nat → Nat → Int32) (S0 : Nat → Int32) (A0 : Nat → Nat → Int32) (S3 : Nat → Int32) (A3 : Nat → Nat → Int32) (a1 : Nat → Nat) (S1 : Nat → Int32) (A1 : Nat → Nat → Int32) (HL : HLt) (S6 : Nat → Int32) (A6 : Nat → Nat → Int32) (G6 : Nat → Nat → Int64) (q1 : Int32) (q2 : Int32) (q3 : Int32) (q4 : Int32), n < 512 → LI n S5 f A4 S2 A2 S0 A0 S3 A3 a1 S1 A1 HL S6 A6 G6 → ∃ zx zm, F_X5_mark A4 q1 q2 q3 q4 = some zx ∧ F_X6_mark A6 q1 q2 q3 q4 = some zm ∧ zx.1 = zm.1 ∧ LI (n + 1) S5 f zx.2 S2 A2 S0 A0 S3 A3 a1 S1 A1 HL S6 zm.2 G6)
    (h_line : ∀ (n : Nat) (S5 : Nat → Int32) (f : Nat → Option Nat) (A4 : Nat → Nat → Int32) (S2 : Nat → Int32) (A2 : Nat → Nat → Int32) (S0 : Nat → Int32) (A0 : Nat → Nat → Int32) (S3 : Nat → Int32) (A3 : Nat → Nat → Int32) (a1 : Nat → Nat) (S1 : Nat → Int32) (A1 : Nat → Nat → Int32) (HL : HLt) (S6 : Nat → Int32) (A6 : Nat → Nat → Int32) (G6 : Nat → Nat → Int64) (q1 : Int32) (q2 : Int32) (q3 : Int32) (q4 : Int32) (q5 : Int32) (q6 : Int32), n < 512 → LI n S5 f A4 S2 A2 S0 A0 S3 A3 a1 S1 A1 HL S6 A6 G6 → ∃ zx zm, F_X5_line A4 q1 q2 q3 q4 q5 q6 = some zx ∧ F_X6_line A6 q1 q2 q3 q4 q5 q6 = some zm ∧ zx.1 = zm.1 ∧ LI (n + 1) S5 f zx.2 S2 A2 S0 A0 S3 A3 a1 S1 A1 HL S6 zm.2 G6)
    (h_stands : ∀ (n : Nat) (S5 : Nat → Int32) (f : Nat → Option Nat) (A4 : Nat → Nat → Int32) (S2 : Nat → Int32) (A2 : Nat → Nat → Int32) (S0 : Nat → Int32) (A0 : Nat → Nat → Int32) (S3 : Nat → Int32) (A3 : Nat → Nat → Int32) (a1 : Nat → Nat) (S1 : Nat → Int32) (A1 : Nat → Nat → Int32) (HL : HLt) (S6 : Nat → Int32) (A6 : Nat → Nat → Int32) (G6 : Nat → Nat → Int64) (q1 : Int32) (q2 : Int32) (q3 : Int32) (q4 : Int32), n < 512 → LI n S5 f A4 S2 A2 S0 A0 S3 A3 a1 S1 A1 HL S6 A6 G6 → ∃ zx zm, F_X5_stands q1 q2 q3 q4 = some zx ∧ F_X6_stands q1 q2 q3 q4 = some zm ∧ zx = zm ∧ LI (n + 1) S5 f A4 S2 A2 S0 A0 S3 A3 a1 S1 A1 HL S6 A6 G6)
    (h_colour : ∀ (n : Nat) (S5 : Nat → Int32) (f : Nat → Option Nat) (A4 : Nat → Nat → Int32) (S2 : Nat → Int32) (A2 : Nat → Nat → Int32) (S0 : Nat → Int32) (A0 : Nat → Nat → Int32) (S3 : Nat → Int32) (A3 : Nat → Nat → Int32) (a1 : Nat → Nat) (S1 : Nat → Int32) (A1 : Nat → Nat → Int32) (HL : HLt) (S6 : Nat → Int32) (A6 : Nat → Nat → Int32) (G6 : Nat → Nat → Int64) (q1 : Int32) (q2 : Int32), n < 512 → LI n S5 f A4 S2 A2 S0 A0 S3 A3 a1 S1 A1 HL S6 A6 G6 → ∃ zx zm, F_X5_colour A4 q1 q2 = some zx ∧ F_X6_colour A6 q1 q2 = some zm ∧ zx = zm.1 ∧ LI (n + 1) S5 f A4 S2 A2 S0 A0 S3 A3 a1 S1 A1 HL S6 zm.2 G6)
    (h_from : ∀ (n : Nat) (S5 : Nat → Int32) (f : Nat → Option Nat) (A4 : Nat → Nat → Int32) (S2 : Nat → Int32) (A2 : Nat → Nat → Int32) (S0 : Nat → Int32) (A0 : Nat → Nat → Int32) (S3 : Nat → Int32) (A3 : Nat → Nat → Int32) (a1 : Nat → Nat) (S1 : Nat → Int32) (A1 : Nat → Nat → Int32) (HL : HLt) (S6 : Nat → Int32) (A6 : Nat → Nat → Int32) (G6 : Nat → Nat → Int64) (q1 : Int32) (q2 : Int32), n < 512 → LI n S5 f A4 S2 A2 S0 A0 S3 A3 a1 S1 A1 HL S6 A6 G6 → ∃ zx zm, F_X5_from A4 q1 q2 = some zx ∧ F_X6_from A6 q1 q2 = some zm ∧ zx = zm.1 ∧ LI (n + 1) S5 f A4 S2 A2 S0 A0 S3 A3 a1 S1 A1 HL S6 zm.2 G6)
    (h_seam : ∀ (n : Nat) (S5 : Nat → Int32) (f : Nat → Option Nat) (A4 : Nat → Nat → Int32) (S2 : Nat → Int32) (A2 : Nat → Nat → Int32) (S0 : Nat → Int32) (A0 : Nat → Nat → Int32) (S3 : Nat → Int32) (A3 : Nat → Nat → Int32) (a1 : Nat → Nat) (S1 : Nat → Int32) (A1 : Nat → Nat → Int32) (HL : HLt) (S6 : Nat → Int32) (A6 : Nat → Nat → Int32) (G6 : Nat → Nat → Int64) (q1 : Int32), n < 512 → LI n S5 f A4 S2 A2 S0 A0 S3 A3 a1 S1 A1 HL S6 A6 G6 → ∃ zx zm, F_X5_seam A4 q1 = some zx ∧ F_X6_seam A6 q1 = some zm ∧ zx = zm.1 ∧ LI (n + 1) S5 f A4 S2 A2 S0 A0 S3 A3 a1 S1 A1 HL S6 zm.2 G6)
    (h_gang : ∀ (n : Nat) (S5 : Nat → Int32) (f : Nat → Option Nat) (A4 : Nat → Nat → Int32) (S2 : Nat → Int32) (A2 : Nat → Nat → Int32) (S0 : Nat → Int32) (A0 : Nat → Nat → Int32) (S3 : Nat → Int32) (A3 : Nat → Nat → Int32) (a1 : Nat → Nat) (S1 : Nat → Int32) (A1 : Nat → Nat → Int32) (HL : HLt) (S6 : Nat → Int32) (A6 : Nat → Nat → Int32) (G6 : Nat → Nat → Int64) (q1 : Int32), n < 512 → LI n S5 f A4 S2 A2 S0 A0 S3 A3 a1 S1 A1 HL S6 A6 G6 → ∃ zx zm, F_X5_gang S2 A2 q1 = some zx ∧ F_X6_gang S6 A6 q1 = some zm ∧ zx.1 = zm.1 ∧ LI (n + 1) S5 f A4 zx.2.1 zx.2.2 S0 A0 S3 A3 a1 S1 A1 HL zm.2.1 zm.2.2 G6)
    (h_put : ∀ (n : Nat) (S5 : Nat → Int32) (f : Nat → Option Nat) (A4 : Nat → Nat → Int32) (S2 : Nat → Int32) (A2 : Nat → Nat → Int32) (S0 : Nat → Int32) (A0 : Nat → Nat → Int32) (S3 : Nat → Int32) (A3 : Nat → Nat → Int32) (a1 : Nat → Nat) (S1 : Nat → Int32) (A1 : Nat → Nat → Int32) (HL : HLt) (S6 : Nat → Int32) (A6 : Nat → Nat → Int32) (G6 : Nat → Nat → Int64) (q1 : Int32) (q2 : Int32), n < 512 → LI n S5 f A4 S2 A2 S0 A0 S3 A3 a1 S1 A1 HL S6 A6 G6 → ∃ zx zm, F_X5_put S2 A2 A4 q1 q2 = some zx ∧ F_X6_put S6 A6 q1 q2 = some zm ∧ zx.1 = zm.1 ∧ LI (n + 1) S5 f A4 S2 zx.2 S0 A0 S3 A3 a1 S1 A1 HL S6 zm.2 G6)
    (h_day : ∀ (n : Nat) (S5 : Nat → Int32) (f : Nat → Option Nat) (A4 : Nat → Nat → Int32) (S2 : Nat → Int32) (A2 : Nat → Nat → Int32) (S0 : Nat → Int32) (A0 : Nat → Nat → Int32) (S3 : Nat → Int32) (A3 : Nat → Nat → Int32) (a1 : Nat → Nat) (S1 : Nat → Int32) (A1 : Nat → Nat → Int32) (HL : HLt) (S6 : Nat → Int32) (A6 : Nat → Nat → Int32) (G6 : Nat → Nat → Int64), n < 512 → LI n S5 f A4 S2 A2 S0 A0 S3 A3 a1 S1 A1 HL S6 A6 G6 → ∃ zx zm, F_X5_day S2 A2 = some zx ∧ F_X6_day S6 A6 = some zm ∧ zx.1 = zm.1 ∧ LI (n + 1) S5 f A4 zx.2.1 zx.2.2 S0 A0 S3 A3 a1 S1 A1 HL zm.2.1 zm.2.2 G6)
    (h_square : ∀ (n : Nat) (S5 : Nat → Int32) (f : Nat → Option Nat) (A4 : Nat → Nat → Int32) (S2 : Nat → Int32) (A2 : Nat → Nat → Int32) (S0 : Nat → Int32) (A0 : Nat → Nat → Int32) (S3 : Nat → Int32) (A3 : Nat → Nat → Int32) (a1 : Nat → Nat) (S1 : Nat → Int32) (A1 : Nat → Nat → Int32) (HL : HLt) (S6 : Nat → Int32) (A6 : Nat → Nat → Int32) (G6 : Nat → Nat → Int64) (q1 : Int32) (q2 : Int32), n < 512 → LI n S5 f A4 S2 A2 S0 A0 S3 A3 a1 S1 A1 HL S6 A6 G6 → ∃ zx zm, F_X5_square A2 A4 q1 q2 = some zx ∧ F_X6_square A6 q1 q2 = some zm ∧ zx = zm.1 ∧ LI (n + 1) S5 f A4 S2 A2 S0 A0 S3 A3 a1 S1 A1 HL S6 zm.2 G6)
    (h_least : ∀ (n : Nat) (S5 : Nat → Int32) (f : Nat → Option Nat) (A4 : Nat → Nat → Int32) (S2 : Nat → Int32) (A2 : Nat → Nat → Int32) (S0 : Nat → Int32) (A0 : Nat → Nat → Int32) (S3 : Nat → Int32) (A3 : Nat → Nat → Int32) (a1 : Nat → Nat) (S1 : Nat → Int32) (A1 : Nat → Nat → Int32) (HL : HLt) (S6 : Nat → Int32) (A6 : Nat → Nat → Int32) (G6 : Nat → Nat → Int64) (q1 : Int32) (q2 : Int32) (q3 : Int32), n < 512 → LI n S5 f A4 S2 A2 S0 A0 S3 A3 a1 S1 A1 HL S6 A6 G6 → ∃ zx zm, F_X5_least S2 A2 A4 q1 q2 q3 = some zx ∧ F_X6_least S6 A6 q1 q2 q3 = some zm ∧ zx.1 = zm.1 ∧ LI (n + 1) S5 f A4 S2 zx.2 S0 A0 S3 A3 a1 S1 A1 HL S6 zm.2 G6)
    (h_feed : ∀ (n : Nat) (S5 : Nat → Int32) (f : Nat → Option Nat) (A4 : Nat → Nat → Int32) (S2 : Nat → Int32) (A2 : Nat → Nat → Int32) (S0 : Nat → Int32) (A0 : Nat → Nat → Int32) (S3 : Nat → Int32) (A3 : Nat → Nat → Int32) (a1 : Nat → Nat) (S1 : Nat → Int32) (A1 : Nat → Nat → Int32) (HL : HLt) (S6 : Nat → Int32) (A6 : Nat → Nat → Int32) (G6 : Nat → Nat → Int64) (q1 : Int32) (q2 : Int32) (q3 : Int32) (q4 : Int32) (q5 : Int32), n < 512 → LI n S5 f A4 S2 A2 S0 A0 S3 A3 a1 S1 A1 HL S6 A6 G6 → ∃ zx zm, F_X5_feed S0 A0 q1 q2 q3 q4 q5 = some zx ∧ F_X6_feed S6 A6 q1 q2 q3 q4 q5 = some zm ∧ zx.1 = zm.1 ∧ LI (n + 1) S5 f A4 S2 A2 zx.2.1 zx.2.2 S3 A3 a1 S1 A1 HL zm.2.1 zm.2.2 G6)
    (h_hall : ∀ (n : Nat) (S5 : Nat → Int32) (f : Nat → Option Nat) (A4 : Nat → Nat → Int32) (S2 : Nat → Int32) (A2 : Nat → Nat → Int32) (S0 : Nat → Int32) (A0 : Nat → Nat → Int32) (S3 : Nat → Int32) (A3 : Nat → Nat → Int32) (a1 : Nat → Nat) (S1 : Nat → Int32) (A1 : Nat → Nat → Int32) (HL : HLt) (S6 : Nat → Int32) (A6 : Nat → Nat → Int32) (G6 : Nat → Nat → Int64) (q1 : Int32), n < 512 → LI n S5 f A4 S2 A2 S0 A0 S3 A3 a1 S1 A1 HL S6 A6 G6 → ∃ (zx : Int32 × Bool × (Nat → Int32) × (Nat → Int32) × (Nat → Int32) × (Nat → Nat → Int32)) (zm : Int32 × (Nat → Int32) × (Nat → Nat → Int32)), F_X5_hall S5 S0 A0 S1 A1 q1 = some zx ∧ F_X6_hall S6 A6 q1 = some zm ∧ zx.1 = zm.1 ∧ (zx.2.1 = false → LI (n + 1) zx.2.2.1 f A4 S2 A2 zx.2.2.2.1 A0 S3 A3 a1 zx.2.2.2.2.1 zx.2.2.2.2.2 HL zm.2.1 zm.2.2 G6) ∧ (zx.2.1 = true → ∀ b1 : Nat → Nat, LI (n + 1) zx.2.2.1 (va_up f (S5 6).toNatClampNeg (some (a1 0))) A4 S2 A2 zx.2.2.2.1 A0 S3 A3 b1 hlS hlA (HL ++ [(a1, zx.2.2.2.2.1, zx.2.2.2.2.2)]) zm.2.1 zm.2.2 G6))
    (h_fault : ∀ (n : Nat) (S5 : Nat → Int32) (f : Nat → Option Nat) (A4 : Nat → Nat → Int32) (S2 : Nat → Int32) (A2 : Nat → Nat → Int32) (S0 : Nat → Int32) (A0 : Nat → Nat → Int32) (S3 : Nat → Int32) (A3 : Nat → Nat → Int32) (a1 : Nat → Nat) (S1 : Nat → Int32) (A1 : Nat → Nat → Int32) (HL : HLt) (S6 : Nat → Int32) (A6 : Nat → Nat → Int32) (G6 : Nat → Nat → Int64), n < 512 → LI n S5 f A4 S2 A2 S0 A0 S3 A3 a1 S1 A1 HL S6 A6 G6 → ∃ zx zm, F_X5_fault S5 = some zx ∧ F_X6_fault S6 = some zm ∧ zx = zm ∧ LI (n + 1) S5 f A4 S2 A2 S0 A0 S3 A3 a1 S1 A1 HL S6 A6 G6)
    (h_week0 : ∀ (n : Nat) (S5 : Nat → Int32) (f : Nat → Option Nat) (A4 : Nat → Nat → Int32) (S2 : Nat → Int32) (A2 : Nat → Nat → Int32) (S0 : Nat → Int32) (A0 : Nat → Nat → Int32) (S3 : Nat → Int32) (A3 : Nat → Nat → Int32) (a1 : Nat → Nat) (S1 : Nat → Int32) (A1 : Nat → Nat → Int32) (HL : HLt) (S6 : Nat → Int32) (A6 : Nat → Nat → Int32) (G6 : Nat → Nat → Int64) (q1 : Int32) (q2 : Int32) (q3 : Int32), n < 512 → LI n S5 f A4 S2 A2 S0 A0 S3 A3 a1 S1 A1 HL S6 A6 G6 → hNo f q1 = none → ∃ zm, F_X6_week S6 A6 G6 q1 q2 q3 = some zm ∧ (-1 : Int32) = zm.1 ∧ LI (n + 1) S5 f A4 S2 A2 S0 A0 S3 A3 a1 S1 A1 HL S6 zm.2.1 zm.2.2)
    (h_week1 : ∀ (n : Nat) (S5 : Nat → Int32) (f : Nat → Option Nat) (A4 : Nat → Nat → Int32) (S2 : Nat → Int32) (A2 : Nat → Nat → Int32) (S0 : Nat → Int32) (A0 : Nat → Nat → Int32) (S3 : Nat → Int32) (A3 : Nat → Nat → Int32) (a1 : Nat → Nat) (S1 : Nat → Int32) (A1 : Nat → Nat → Int32) (HL : HLt) (S6 : Nat → Int32) (A6 : Nat → Nat → Int32) (G6 : Nat → Nat → Int64) (q1 : Int32) (q2 : Int32) (q3 : Int32) (t : Nat), n < 512 → LI n S5 f A4 S2 A2 S0 A0 S3 A3 a1 S1 A1 HL S6 A6 G6 → hNo f q1 = some t → ∃ (l1 l2 : HLt) (aH : Nat → Nat) (SH : Nat → Int32) (AH : Nat → Nat → Int32) (zx : Int32 × (Nat → Int32)) (zm : Int32 × (Nat → Nat → Int32) × (Nat → Nat → Int64)), HL = l1 ++ (aH, SH, AH) :: l2 ∧ aH 0 = t ∧ F_X5_week SH AH q2 q3 = some zx ∧ F_X6_week S6 A6 G6 q1 q2 q3 = some zm ∧ zx.1 = zm.1 ∧ LI (n + 1) S5 f A4 S2 A2 S0 A0 S3 A3 a1 S1 A1 (l1 ++ (aH, zx.2, AH) :: l2) S6 zm.2.1 zm.2.2)
    (h_hallOf0 : ∀ (n : Nat) (S5 : Nat → Int32) (f : Nat → Option Nat) (A4 : Nat → Nat → Int32) (S2 : Nat → Int32) (A2 : Nat → Nat → Int32) (S0 : Nat → Int32) (A0 : Nat → Nat → Int32) (S3 : Nat → Int32) (A3 : Nat → Nat → Int32) (a1 : Nat → Nat) (S1 : Nat → Int32) (A1 : Nat → Nat → Int32) (HL : HLt) (S6 : Nat → Int32) (A6 : Nat → Nat → Int32) (G6 : Nat → Nat → Int64) (q1 : Int32) (q2 : Int32), n < 512 → LI n S5 f A4 S2 A2 S0 A0 S3 A3 a1 S1 A1 HL S6 A6 G6 → hNo f q1 = none → ∃ zm, F_X6_hallOf S6 A6 G6 q1 q2 = some zm ∧ (-1 : Int32) = zm ∧ LI (n + 1) S5 f A4 S2 A2 S0 A0 S3 A3 a1 S1 A1 HL S6 A6 G6)
    (h_hallOf1 : ∀ (n : Nat) (S5 : Nat → Int32) (f : Nat → Option Nat) (A4 : Nat → Nat → Int32) (S2 : Nat → Int32) (A2 : Nat → Nat → Int32) (S0 : Nat → Int32) (A0 : Nat → Nat → Int32) (S3 : Nat → Int32) (A3 : Nat → Nat → Int32) (a1 : Nat → Nat) (S1 : Nat → Int32) (A1 : Nat → Nat → Int32) (HL : HLt) (S6 : Nat → Int32) (A6 : Nat → Nat → Int32) (G6 : Nat → Nat → Int64) (q1 : Int32) (q2 : Int32) (t : Nat), n < 512 → LI n S5 f A4 S2 A2 S0 A0 S3 A3 a1 S1 A1 HL S6 A6 G6 → hNo f q1 = some t → ∃ (l1 l2 : HLt) (aH : Nat → Nat) (SH : Nat → Int32) (AH : Nat → Nat → Int32) (zx : Int32) (zm : Int32), HL = l1 ++ (aH, SH, AH) :: l2 ∧ aH 0 = t ∧ F_X1_tell SH q2 = some zx ∧ F_X6_hallOf S6 A6 G6 q1 q2 = some zm ∧ zx = zm ∧ LI (n + 1) S5 f A4 S2 A2 S0 A0 S3 A3 a1 S1 A1 (l1 ++ (aH, SH, AH) :: l2) S6 A6 G6)
    (h_room : ∀ (n : Nat) (S5 : Nat → Int32) (f : Nat → Option Nat) (A4 : Nat → Nat → Int32) (S2 : Nat → Int32) (A2 : Nat → Nat → Int32) (S0 : Nat → Int32) (A0 : Nat → Nat → Int32) (S3 : Nat → Int32) (A3 : Nat → Nat → Int32) (a1 : Nat → Nat) (S1 : Nat → Int32) (A1 : Nat → Nat → Int32) (HL : HLt) (S6 : Nat → Int32) (A6 : Nat → Nat → Int32) (G6 : Nat → Nat → Int64) (q1 : Int32), n < 512 → LI n S5 f A4 S2 A2 S0 A0 S3 A3 a1 S1 A1 HL S6 A6 G6 → ∃ zx zm, F_X5_room S3 q1 = some zx ∧ F_X6_room S6 q1 = some zm ∧ zx.1 = zm.1 ∧ LI (n + 1) S5 f A4 S2 A2 S0 A0 zx.2 A3 a1 S1 A1 HL zm.2 A6 G6)
    (h_minute : ∀ (n : Nat) (S5 : Nat → Int32) (f : Nat → Option Nat) (A4 : Nat → Nat → Int32) (S2 : Nat → Int32) (A2 : Nat → Nat → Int32) (S0 : Nat → Int32) (A0 : Nat → Nat → Int32) (S3 : Nat → Int32) (A3 : Nat → Nat → Int32) (a1 : Nat → Nat) (S1 : Nat → Int32) (A1 : Nat → Nat → Int32) (HL : HLt) (S6 : Nat → Int32) (A6 : Nat → Nat → Int32) (G6 : Nat → Nat → Int64) (q1 : Int32), n < 512 → LI n S5 f A4 S2 A2 S0 A0 S3 A3 a1 S1 A1 HL S6 A6 G6 → ∃ zx zm, F_X5_minute S3 A3 q1 = some zx ∧ F_X6_minute S6 A6 q1 = some zm ∧ zx.1 = zm.1 ∧ LI (n + 1) S5 f A4 S2 A2 S0 A0 zx.2.1 zx.2.2 a1 S1 A1 HL zm.2.1 zm.2.2 G6)
    (h_crowd : ∀ (n : Nat) (S5 : Nat → Int32) (f : Nat → Option Nat) (A4 : Nat → Nat → Int32) (S2 : Nat → Int32) (A2 : Nat → Nat → Int32) (S0 : Nat → Int32) (A0 : Nat → Nat → Int32) (S3 : Nat → Int32) (A3 : Nat → Nat → Int32) (a1 : Nat → Nat) (S1 : Nat → Int32) (A1 : Nat → Nat → Int32) (HL : HLt) (S6 : Nat → Int32) (A6 : Nat → Nat → Int32) (G6 : Nat → Nat → Int64) (q1 : Int32), n < 512 → LI n S5 f A4 S2 A2 S0 A0 S3 A3 a1 S1 A1 HL S6 A6 G6 → ∃ zx zm, F_X5_crowd S3 q1 = some zx ∧ F_X6_crowd S6 q1 = some zm ∧ zx = zm ∧ LI (n + 1) S5 f A4 S2 A2 S0 A0 S3 A3 a1 S1 A1 HL S6 A6 G6)
    (h_count : ∀ (n : Nat) (S5 : Nat → Int32) (f : Nat → Option Nat) (A4 : Nat → Nat → Int32) (S2 : Nat → Int32) (A2 : Nat → Nat → Int32) (S0 : Nat → Int32) (A0 : Nat → Nat → Int32) (S3 : Nat → Int32) (A3 : Nat → Nat → Int32) (a1 : Nat → Nat) (S1 : Nat → Int32) (A1 : Nat → Nat → Int32) (HL : HLt) (S6 : Nat → Int32) (A6 : Nat → Nat → Int32) (G6 : Nat → Nat → Int64) (q1 : Int32), n < 512 → LI n S5 f A4 S2 A2 S0 A0 S3 A3 a1 S1 A1 HL S6 A6 G6 → ∃ zx zm, F_X5_count S5 S2 A2 A4 S0 q1 = some zx ∧ F_X6_count S6 A6 q1 = some zm ∧ zx = zm.1 ∧ LI (n + 1) S5 f A4 S2 A2 S0 A0 S3 A3 a1 S1 A1 HL S6 zm.2 G6)
    (h_none : ∀ (n : Nat) (S5 : Nat → Int32) (f : Nat → Option Nat) (A4 : Nat → Nat → Int32) (S2 : Nat → Int32) (A2 : Nat → Nat → Int32) (S0 : Nat → Int32) (A0 : Nat → Nat → Int32) (S3 : Nat → Int32) (A3 : Nat → Nat → Int32) (a1 : Nat → Nat) (S1 : Nat → Int32) (A1 : Nat → Nat → Int32) (HL : HLt) (S6 : Nat → Int32) (A6 : Nat → Nat → Int32) (G6 : Nat → Nat → Int64), n < 512 → LI n S5 f A4 S2 A2 S0 A0 S3 A3 a1 S1 A1 HL S6 A6 G6 → LI (n + 1) S5 f A4 S2 A2 S0 A0 S3 A3 a1 S1 A1 HL S6 A6 G6)
    (hL : L ≤ 3584) (hx : p.tables.exec = Jvm.exec) (hb : c.code = cL_law) (hr : meth.sig.returnType = ret) (hml : c.maxLocals = 4) (hown : s.vm.findClass RL = some m.cls) (hts : ∀ w ∈ wsL_law, w.before #[Value.ref b] s = true) (hlocks : meth.locks = false) (hX : va_X b L xs s s.heap) (hbl : b < s.heap.size) (hK : va_K D vwCl (tyV C) s) (hZ : Amb K (fun q : Nat => s.heap.size ≤ q) s s.heap) {a5 a0 a2 a3 a4 a6 : Nat → Nat} {h5 : Nat} :
    ∀ (k i n : Nat) (x3 : Int32), i ≤ L + 7 → L + 7 ≤ i + k → i = 7 * n → x3 = nI i → ∀ (cells slots : Nat), cells ≤ 200 + 6 * n → slots ≤ 300000 + 144 * n → ∀ (S5 : Nat → Int32) (f : Nat → Option Nat) (A4 : Nat → Nat → Int32) (S2 : Nat → Int32) (A2 : Nat → Nat → Int32) (S0 : Nat → Int32) (A0 : Nat → Nat → Int32) (S3 : Nat → Int32) (A3 : Nat → Nat → Int32) (a1 : Nat → Nat) (S1 : Nat → Int32) (A1 : Nat → Nat → Int32) (HL : HLt) (S6 : Nat → Int32) (A6 : Nat → Nat → Int32) (G6 : Nat → Nat → Int64), LI n S5 f A4 S2 A2 S0 A0 S3 A3 a1 S1 A1 HL S6 A6 G6 → ∀ (H : Heap) (locs : List Loc), va_P D vwCl (wX5 C a5 a0 a2 a3 a4 h5 (a1 0) S5 ++ (wXH C h5 f ++ (wX4 C a4 A4 ++ (wX2 C a2 a4 S2 A2 ++ (wX0 C a0 S0 A0 ++ (wX3 C a3 S3 A3 ++ (wX1 C a1 S1 A1 ++ (hlW C HL ++ (wX6 C a6 S6 A6 G6 ++ []))))))))) H → va_D (fun q : Nat => s.heap.size ≤ q) (wX5 C a5 a0 a2 a3 a4 h5 (a1 0) S5 ++ (wXH C h5 f ++ (wX4 C a4 A4 ++ (wX2 C a2 a4 S2 A2 ++ (wX0 C a0 S0 A0 ++ (wX3 C a3 S3 A3 ++ (wX1 C a1 S1 A1 ++ (hlW C HL ++ (wX6 C a6 S6 A6 G6 ++ []))))))))) → va_S (fun q : Nat => s.heap.size ≤ q) s.heap H locs → ∀ (ls : Array Slot), lv_has ls 4 [(0, .ref b), (1, .ref (a5 0)), (2, .ref (a6 0)), (3, .int x3)] → W p l e room_1 s m #[Value.ref b] below meth c H locs cells slots (lw_Z below #[Value.ref b] s) (F0 m 18 ls []) := by
  have hA : ∀ q : Nat, s.heap.size ≤ q → (fun q : Nat => s.heap.size ≤ q) q := fun _ h => h
  have hbA : ¬ (fun q : Nat => s.heap.size ≤ q) b := Nat.not_le.mpr hbl
  have e7 : (7 : Int32) = nI 7 := rfl
  intro k
  induction k with
  | zero =>
    intro i n x3 h0 h1 h2 h3 cells slots hc1 hc2 S5 f A4 S2 A2 S0 A0 S3 A3 a1 S1 A1 HL S6 A6 G6 hLI H locs hP hD hS ls hl
    refine lv_iload_n hx hb dL_law_18 rfl (lv_at hl 3 rfl) ?_
    refine lv_aload_n hx hb dL_law_19 rfl (lv_at hl 0 rfl) ?_
    refine va_slen hx hb hX hbl hbA hS dL_law_20 ?_
    refine lv_bipush (v := 7) hx hb dL_law_21 (by decide) ?_
    refine lv_isub hx hb dL_law_23 ?_
    refine lv_icmp_gt (tgt := 816) hx hb dL_law_24 (by decide) (fun c1 => ?_) (fun c1 => ?_)
    · refine lv_iconst (v := 1) hx hb dL_law_816 (by decide) ?_
      refine va_forget (fun q hq => hS.2.2 q hq) ?_
      refine W.widen (k := 600000) (n := 7302250) (by omega) (by omega) ?_
      exact lw_ret hx hb hr hlocks dL_law_817
    · exfalso
      rw [h3] at c1
      exact c1 (Int32.lt_iff_toInt_lt.mpr (by rw [show (Int32.ofNat L : Int32) = nI L from rfl, e7, pk_sub_toInt (by omega) (by omega), nI_toInt (by omega)]; omega))
  | succ k ih =>
    intro i n x3 h0 h1 h2 h3 cells slots hc1 hc2 S5 f A4 S2 A2 S0 A0 S3 A3 a1 S1 A1 HL S6 A6 G6 hLI H locs hP hD hS ls hl
    refine lv_iload_n hx hb dL_law_18 rfl (lv_at hl 3 rfl) ?_
    refine lv_aload_n hx hb dL_law_19 rfl (lv_at hl 0 rfl) ?_
    refine va_slen hx hb hX hbl hbA hS dL_law_20 ?_
    refine lv_bipush (v := 7) hx hb dL_law_21 (by decide) ?_
    refine lv_isub hx hb dL_law_23 ?_
    refine lv_icmp_gt (tgt := 816) hx hb dL_law_24 (by decide) (fun c1 => ?_) (fun c1 => ?_)
    · refine lv_iconst (v := 1) hx hb dL_law_816 (by decide) ?_
      refine va_forget (fun q hq => hS.2.2 q hq) ?_
      refine W.widen (k := 600000) (n := 7302250) (by omega) (by omega) ?_
      exact lw_ret hx hb hr hlocks dL_law_817
    · have hi7 : i + 7 ≤ L := by
        rcases Nat.lt_or_ge L (i + 7) with q | q
        · exfalso
          rw [h3] at c1
          exact c1 (Int32.lt_iff_toInt_lt.mpr (by rw [show (Int32.ofNat L : Int32) = nI L from rfl, e7, pk_sub_toInt (by omega) (by omega), nI_toInt (by omega)]; omega))
        · exact q
      have hn : n < 512 := by omega
      have h_0 : vp_in x3 L := by rw [h3]; exact vp_in_nI (by omega) (by omega)

      have h_1 : vp_in (x3 + 1) L := by rw [h3]; exact vi_in (j := 1) (by omega) hL
      have h_2 : vp_in (x3 + 2) L := by rw [h3]; exact vi_in (j := 2) (by omega) hL
      have h_3 : vp_in (x3 + 3) L := by rw [h3]; exact vi_in (j := 3) (by omega) hL
      have h_4 : vp_in (x3 + 4) L := by rw [h3]; exact vi_in (j := 4) (by omega) hL
      have h_5 : vp_in (x3 + 5) L := by rw [h3]; exact vi_in (j := 5) (by omega) hL
      have h_6 : vp_in (x3 + 6) L := by rw [h3]; exact vi_in (j := 6) (by omega) hL
      have next : ∀ (cells slots : Nat) (S5 : Nat → Int32) (f : Nat → Option Nat) (A4 : Nat → Nat → Int32) (S2 : Nat → Int32) (A2 : Nat → Nat → Int32) (S0 : Nat → Int32) (A0 : Nat → Nat → Int32) (S3 : Nat → Int32) (A3 : Nat → Nat → Int32) (a1 : Nat → Nat) (S1 : Nat → Int32) (A1 : Nat → Nat → Int32) (HL : HLt) (S6 : Nat → Int32) (A6 : Nat → Nat → Int32) (G6 : Nat → Nat → Int64) (H : Heap) {locs : List Loc}, va_P D vwCl (wX5 C a5 a0 a2 a3 a4 h5 (a1 0) S5 ++ (wXH C h5 f ++ (wX4 C a4 A4 ++ (wX2 C a2 a4 S2 A2 ++ (wX0 C a0 S0 A0 ++ (wX3 C a3 S3 A3 ++ (wX1 C a1 S1 A1 ++ (hlW C HL ++ (wX6 C a6 S6 A6 G6 ++ []))))))))) H → va_D (fun q : Nat => s.heap.size ≤ q) (wX5 C a5 a0 a2 a3 a4 h5 (a1 0) S5 ++ (wXH C h5 f ++ (wX4 C a4 A4 ++ (wX2 C a2 a4 S2 A2 ++ (wX0 C a0 S0 A0 ++ (wX3 C a3 S3 A3 ++ (wX1 C a1 S1 A1 ++ (hlW C HL ++ (wX6 C a6 S6 A6 G6 ++ []))))))))) → va_S (fun q : Nat => s.heap.size ≤ q) s.heap H locs → ∀ (ls : Array Slot), lv_has ls 4 [(0, .ref b), (1, .ref (a5 0)), (2, .ref (a6 0)), (3, .int x3)] → (cells ≤ 200 + 6 * (n + 1) ∧ slots ≤ 300000 + 144 * (n + 1)) → LI (n + 1) S5 f A4 S2 A2 S0 A0 S3 A3 a1 S1 A1 HL S6 A6 G6 → W p l e room_1 s m #[Value.ref b] below meth c H locs cells slots (lw_Z below #[Value.ref b] s) (F0 m 810 ls []) := by
        intro cells slots S5 f A4 S2 A2 S0 A0 S3 A3 a1 S1 A1 HL S6 A6 G6 H locs hP hD hS ls hl hcs hLI
        obtain ⟨x3b, ex3b⟩ : ∃ y : Int32, y = x3 + 7 := ⟨_, rfl⟩
        refine lv_iinc (v := x3b) (lv' := [(3, .int x3b), (0, .ref b), (1, .ref (a5 0)), (2, .ref (a6 0))]) hx hb dL_law_810 hl (k := 3) rfl (by rw [ex3b]; rfl) (by decide) rfl (fun ls hl => ?_)
        refine lv_goto (tgt := 18) hx hb dL_law_813 (by decide) ?_
        exact ih (i + 7) (n + 1) x3b (by omega) (by omega) (by omega) (by rw [ex3b, h3, e7, nI_add]) cells slots hcs.1 hcs.2 S5 f A4 S2 A2 S0 A0 S3 A3 a1 S1 A1 HL S6 A6 G6 hLI H locs hP hD hS ls (lv_sub hl [1, 2, 3, 0] rfl)
      refine lv_aload_n hx hb dL_law_27 rfl (lv_at hl 0 rfl) ?_
      refine lv_iload_n hx hb dL_law_28 rfl (lv_at hl 3 rfl) ?_
      refine va_sld hx hb hX hbl hbA hS h_0 dL_law_29 ?_
      refine lv_bipush (v := 31) hx hb dL_law_30 (by decide) ?_
      refine lv_iand hx hb dL_law_32 ?_
      refine lv_topi (fun op eop => ?_)
      rcases Decidable.em (op = 0) with c_0 | c_0
      · refine lv_tableIn (tgt := 128) hx hb dL_law_33 (by rw [c_0]; decide) (by rw [c_0]; decide) (by rw [c_0]; rfl) (by decide) ?_
        exact law_mark LI h_mark hx hb hml hown hts hX hbl hK hZ hn h_1 h_2 h_3 h_4 h_5 h_6 next cells slots hc1 hc2 S5 f A4 S2 A2 S0 A0 S3 A3 a1 S1 A1 HL S6 A6 G6 hLI H locs hP hD hS ls hl
      rcases Decidable.em (op = 1) with c_1 | c_1
      · refine lv_tableIn (tgt := 181) hx hb dL_law_33 (by rw [c_1]; decide) (by rw [c_1]; decide) (by rw [c_1]; rfl) (by decide) ?_
        exact law_line LI h_line hx hb hml hown hts hX hbl hK hZ hn h_1 h_2 h_3 h_4 h_5 h_6 next cells slots hc1 hc2 S5 f A4 S2 A2 S0 A0 S3 A3 a1 S1 A1 HL S6 A6 G6 hLI H locs hP hD hS ls hl
      rcases Decidable.em (op = 2) with c_2 | c_2
      · refine lv_tableIn (tgt := 256) hx hb dL_law_33 (by rw [c_2]; decide) (by rw [c_2]; decide) (by rw [c_2]; rfl) (by decide) ?_
        exact law_stands LI h_stands hx hb hml hown hts hX hbl hK hZ hn h_1 h_2 h_3 h_4 h_5 h_6 next cells slots hc1 hc2 S5 f A4 S2 A2 S0 A0 S3 A3 a1 S1 A1 HL S6 A6 G6 hLI H locs hP hD hS ls hl
      rcases Decidable.em (op = 3) with c_3 | c_3
      · refine lv_tableIn (tgt := 309) hx hb dL_law_33 (by rw [c_3]; decide) (by rw [c_3]; decide) (by rw [c_3]; rfl) (by decide) ?_
        exact law_colour LI h_colour hx hb hml hown hts hX hbl hK hZ hn h_1 h_2 h_3 h_4 h_5 h_6 next cells slots hc1 hc2 S5 f A4 S2 A2 S0 A0 S3 A3 a1 S1 A1 HL S6 A6 G6 hLI H locs hP hD hS ls hl
      rcases Decidable.em (op = 4) with c_4 | c_4
      · refine lv_tableIn (tgt := 342) hx hb dL_law_33 (by rw [c_4]; decide) (by rw [c_4]; decide) (by rw [c_4]; rfl) (by decide) ?_
        exact law_from LI h_from hx hb hml hown hts hX hbl hK hZ hn h_1 h_2 h_3 h_4 h_5 h_6 next cells slots hc1 hc2 S5 f A4 S2 A2 S0 A0 S3 A3 a1 S1 A1 HL S6 A6 G6 hLI H locs hP hD hS ls hl
      rcases Decidable.em (op = 5) with c_5 | c_5
      · refine lv_tableIn (tgt := 375) hx hb dL_law_33 (by rw [c_5]; decide) (by rw [c_5]; decide) (by rw [c_5]; rfl) (by decide) ?_
        exact law_seam LI h_seam hx hb hml hown hts hX hbl hK hZ hn h_1 h_2 h_3 h_4 h_5 h_6 next cells slots hc1 hc2 S5 f A4 S2 A2 S0 A0 S3 A3 a1 S1 A1 HL S6 A6 G6 hLI H locs hP hD hS ls hl
      rcases Decidable.em (op = 6) with c_6 | c_6
      · refine lv_tableIn (tgt := 398) hx hb dL_law_33 (by rw [c_6]; decide) (by rw [c_6]; decide) (by rw [c_6]; rfl) (by decide) ?_
        exact law_gang LI h_gang hx hb hml hown hts hX hbl hK hZ hn h_1 h_2 h_3 h_4 h_5 h_6 next cells slots hc1 hc2 S5 f A4 S2 A2 S0 A0 S3 A3 a1 S1 A1 HL S6 A6 G6 hLI H locs hP hD hS ls hl
      rcases Decidable.em (op = 7) with c_7 | c_7
      · refine lv_tableIn (tgt := 421) hx hb dL_law_33 (by rw [c_7]; decide) (by rw [c_7]; decide) (by rw [c_7]; rfl) (by decide) ?_
        exact law_put LI h_put hx hb hml hown hts hX hbl hK hZ hn h_1 h_2 h_3 h_4 h_5 h_6 next cells slots hc1 hc2 S5 f A4 S2 A2 S0 A0 S3 A3 a1 S1 A1 HL S6 A6 G6 hLI H locs hP hD hS ls hl
      rcases Decidable.em (op = 8) with c_8 | c_8
      · refine lv_tableIn (tgt := 454) hx hb dL_law_33 (by rw [c_8]; decide) (by rw [c_8]; decide) (by rw [c_8]; rfl) (by decide) ?_
        exact law_day LI h_day hx hb hml hown hts hX hbl hK hZ hn h_1 h_2 h_3 h_4 h_5 h_6 next cells slots hc1 hc2 S5 f A4 S2 A2 S0 A0 S3 A3 a1 S1 A1 HL S6 A6 G6 hLI H locs hP hD hS ls hl
      rcases Decidable.em (op = 9) with c_9 | c_9
      · refine lv_tableIn (tgt := 467) hx hb dL_law_33 (by rw [c_9]; decide) (by rw [c_9]; decide) (by rw [c_9]; rfl) (by decide) ?_
        exact law_square LI h_square hx hb hml hown hts hX hbl hK hZ hn h_1 h_2 h_3 h_4 h_5 h_6 next cells slots hc1 hc2 S5 f A4 S2 A2 S0 A0 S3 A3 a1 S1 A1 HL S6 A6 G6 hLI H locs hP hD hS ls hl
      rcases Decidable.em (op = 10) with c_10 | c_10
      · refine lv_tableIn (tgt := 500) hx hb dL_law_33 (by rw [c_10]; decide) (by rw [c_10]; decide) (by rw [c_10]; rfl) (by decide) ?_
        exact law_least LI h_least hx hb hml hown hts hX hbl hK hZ hn h_1 h_2 h_3 h_4 h_5 h_6 next cells slots hc1 hc2 S5 f A4 S2 A2 S0 A0 S3 A3 a1 S1 A1 HL S6 A6 G6 hLI H locs hP hD hS ls hl
      rcases Decidable.em (op = 11) with c_11 | c_11
      · refine lv_tableIn (tgt := 543) hx hb dL_law_33 (by rw [c_11]; decide) (by rw [c_11]; decide) (by rw [c_11]; rfl) (by decide) ?_
        exact law_feed LI h_feed hx hb hml hown hts hX hbl hK hZ hn h_1 h_2 h_3 h_4 h_5 h_6 next cells slots hc1 hc2 S5 f A4 S2 A2 S0 A0 S3 A3 a1 S1 A1 HL S6 A6 G6 hLI H locs hP hD hS ls hl
      rcases Decidable.em (op = 12) with c_12 | c_12
      · refine lv_tableIn (tgt := 606) hx hb dL_law_33 (by rw [c_12]; decide) (by rw [c_12]; decide) (by rw [c_12]; rfl) (by decide) ?_
        exact law_hall LI h_hall hx hb hml hown hts hX hbl hK hZ hn h_1 h_2 h_3 h_4 h_5 h_6 next cells slots hc1 hc2 S5 f A4 S2 A2 S0 A0 S3 A3 a1 S1 A1 HL S6 A6 G6 hLI H locs hP hD hS ls hl
      rcases Decidable.em (op = 13) with c_13 | c_13
      · refine lv_tableIn (tgt := 629) hx hb dL_law_33 (by rw [c_13]; decide) (by rw [c_13]; decide) (by rw [c_13]; rfl) (by decide) ?_
        exact law_fault LI h_fault hx hb hml hown hts hX hbl hK hZ hn h_1 h_2 h_3 h_4 h_5 h_6 next cells slots hc1 hc2 S5 f A4 S2 A2 S0 A0 S3 A3 a1 S1 A1 HL S6 A6 G6 hLI H locs hP hD hS ls hl
      rcases Decidable.em (op = 14) with c_14 | c_14
      · refine lv_tableIn (tgt := 642) hx hb dL_law_33 (by rw [c_14]; decide) (by rw [c_14]; decide) (by rw [c_14]; rfl) (by decide) ?_
        exact law_week LI h_week0 h_week1 hx hb hml hown hts hX hbl hK hZ hn h_1 h_2 h_3 h_4 h_5 h_6 next cells slots hc1 hc2 S5 f A4 S2 A2 S0 A0 S3 A3 a1 S1 A1 HL S6 A6 G6 hLI H locs hP hD hS ls hl
      rcases Decidable.em (op = 15) with c_15 | c_15
      · refine lv_tableIn (tgt := 685) hx hb dL_law_33 (by rw [c_15]; decide) (by rw [c_15]; decide) (by rw [c_15]; rfl) (by decide) ?_
        exact law_hallOf LI h_hallOf0 h_hallOf1 hx hb hml hown hts hX hbl hK hZ hn h_1 h_2 h_3 h_4 h_5 h_6 next cells slots hc1 hc2 S5 f A4 S2 A2 S0 A0 S3 A3 a1 S1 A1 HL S6 A6 G6 hLI H locs hP hD hS ls hl
      rcases Decidable.em (op = 16) with c_16 | c_16
      · refine lv_tableIn (tgt := 718) hx hb dL_law_33 (by rw [c_16]; decide) (by rw [c_16]; decide) (by rw [c_16]; rfl) (by decide) ?_
        exact law_room LI h_room hx hb hml hown hts hX hbl hK hZ hn h_1 h_2 h_3 h_4 h_5 h_6 next cells slots hc1 hc2 S5 f A4 S2 A2 S0 A0 S3 A3 a1 S1 A1 HL S6 A6 G6 hLI H locs hP hD hS ls hl
      rcases Decidable.em (op = 17) with c_17 | c_17
      · refine lv_tableIn (tgt := 741) hx hb dL_law_33 (by rw [c_17]; decide) (by rw [c_17]; decide) (by rw [c_17]; rfl) (by decide) ?_
        exact law_minute LI h_minute hx hb hml hown hts hX hbl hK hZ hn h_1 h_2 h_3 h_4 h_5 h_6 next cells slots hc1 hc2 S5 f A4 S2 A2 S0 A0 S3 A3 a1 S1 A1 HL S6 A6 G6 hLI H locs hP hD hS ls hl
      rcases Decidable.em (op = 18) with c_18 | c_18
      · refine lv_tableIn (tgt := 764) hx hb dL_law_33 (by rw [c_18]; decide) (by rw [c_18]; decide) (by rw [c_18]; rfl) (by decide) ?_
        exact law_crowd LI h_crowd hx hb hml hown hts hX hbl hK hZ hn h_1 h_2 h_3 h_4 h_5 h_6 next cells slots hc1 hc2 S5 f A4 S2 A2 S0 A0 S3 A3 a1 S1 A1 HL S6 A6 G6 hLI H locs hP hD hS ls hl
      rcases Decidable.em (op = 19) with c_19 | c_19
      · refine lv_tableIn (tgt := 787) hx hb dL_law_33 (by rw [c_19]; decide) (by rw [c_19]; decide) (by rw [c_19]; rfl) (by decide) ?_
        exact law_count LI h_count hx hb hml hown hts hX hbl hK hZ hn h_1 h_2 h_3 h_4 h_5 h_6 next cells slots hc1 hc2 S5 f A4 S2 A2 S0 A0 S3 A3 a1 S1 A1 HL S6 A6 G6 hLI H locs hP hD hS ls hl
      have i_0 : op.toInt ≠ 0 := fun h => c_0 (Int32.toInt_inj.mp (h.trans (by decide)))
      have i_1 : op.toInt ≠ 1 := fun h => c_1 (Int32.toInt_inj.mp (h.trans (by decide)))
      have i_2 : op.toInt ≠ 2 := fun h => c_2 (Int32.toInt_inj.mp (h.trans (by decide)))
      have i_3 : op.toInt ≠ 3 := fun h => c_3 (Int32.toInt_inj.mp (h.trans (by decide)))
      have i_4 : op.toInt ≠ 4 := fun h => c_4 (Int32.toInt_inj.mp (h.trans (by decide)))
      have i_5 : op.toInt ≠ 5 := fun h => c_5 (Int32.toInt_inj.mp (h.trans (by decide)))
      have i_6 : op.toInt ≠ 6 := fun h => c_6 (Int32.toInt_inj.mp (h.trans (by decide)))
      have i_7 : op.toInt ≠ 7 := fun h => c_7 (Int32.toInt_inj.mp (h.trans (by decide)))
      have i_8 : op.toInt ≠ 8 := fun h => c_8 (Int32.toInt_inj.mp (h.trans (by decide)))
      have i_9 : op.toInt ≠ 9 := fun h => c_9 (Int32.toInt_inj.mp (h.trans (by decide)))
      have i_10 : op.toInt ≠ 10 := fun h => c_10 (Int32.toInt_inj.mp (h.trans (by decide)))
      have i_11 : op.toInt ≠ 11 := fun h => c_11 (Int32.toInt_inj.mp (h.trans (by decide)))
      have i_12 : op.toInt ≠ 12 := fun h => c_12 (Int32.toInt_inj.mp (h.trans (by decide)))
      have i_13 : op.toInt ≠ 13 := fun h => c_13 (Int32.toInt_inj.mp (h.trans (by decide)))
      have i_14 : op.toInt ≠ 14 := fun h => c_14 (Int32.toInt_inj.mp (h.trans (by decide)))
      have i_15 : op.toInt ≠ 15 := fun h => c_15 (Int32.toInt_inj.mp (h.trans (by decide)))
      have i_16 : op.toInt ≠ 16 := fun h => c_16 (Int32.toInt_inj.mp (h.trans (by decide)))
      have i_17 : op.toInt ≠ 17 := fun h => c_17 (Int32.toInt_inj.mp (h.trans (by decide)))
      have i_18 : op.toInt ≠ 18 := fun h => c_18 (Int32.toInt_inj.mp (h.trans (by decide)))
      have i_19 : op.toInt ≠ 19 := fun h => c_19 (Int32.toInt_inj.mp (h.trans (by decide)))
      refine lv_tableOut (tgt := 810) hx hb dL_law_33 (by omega) (by decide) ?_
      exact next cells slots S5 f A4 S2 A2 S0 A0 S3 A3 a1 S1 A1 HL S6 A6 G6 H hP hD hS ls hl (by omega) (h_none n S5 f A4 S2 A2 S0 A0 S3 A3 a1 S1 A1 HL S6 A6 G6 hn hLI)
