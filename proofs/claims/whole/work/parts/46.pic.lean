/-! the model's picture of a view: laid out of the marks -/
abbrev mkN (v u h : Nat) : Nat := (v * 40 + u) * 20 + h
theorem mk_nI (v u h : Nat) : ((nI v * 40) + nI u) * 20 + nI h = nI (mkN v u h) := by
  rw [show (40 : Int32) = nI 40 from rfl, show (20 : Int32) = nI 20 from rfl, pk_mul, nI_add, pk_mul, nI_add]
theorem pl_nI (v c r : Nat) : ((7200 * nI v) + (20 * nI c)) + nI r = nI (7200 * v + 20 * c + r) := by
  rw [show (7200 : Int32) = nI 7200 from rfl, show (20 : Int32) = nI 20 from rfl, pk_mul, pk_mul, nI_add, nI_add]
def zr (f : Nat → Int32) (a b : Nat) : Nat → Int32 := fun p => if a ≤ p ∧ p < b then 0 else f p
theorem zr_step (f : Nat → Int32) (a b : Nat) (h : a < b) : zr (upd f a 0) (a + 1) b = zr f a b := by
  funext p
  unfold zr
  by_cases c : a + 1 ≤ p ∧ p < b
  · rw [if_pos c, if_pos ⟨by omega, c.2⟩]
  · rw [if_neg c, upd_at]
    by_cases e : p = a
    · rw [if_pos e, if_pos ⟨by omega, by omega⟩]
    · rw [if_neg e, if_neg (fun h2 => c ⟨by omega, h2.2⟩)]
theorem zr_end (f : Nat → Int32) (b : Nat) : zr f b b = f := by
  funext p
  unfold zr
  rw [if_neg (by omega)]
theorem upA_self {α : Type} (A : Nat → α) (k : Nat) : va_up A k (A k) = A := by
  funext j
  rw [upA_at]
  by_cases e : j = k
  · rw [if_pos e, e]
  · rw [if_neg e]
theorem ci_zero {J : Int32 → Int32 → (Nat → Nat → Int32) → Option (Int32 × (Nat → Nat → Int32))} {v : Nat} (hv : v < 12) (x2 : Int32) :
    ∀ (m i n : Nat) (A6 : Nat → Nat → Int32), i + m = 7200 → m + 1 ≤ n → L_X6_colourIn_11 J n (nI v) x2 (nI i) A6 = J (nI v) x2 (va_up A6 1 (zr (A6 1) (7200 * v + i) (7200 * v + 7200))) := by
  intro m
  induction m with
  | zero =>
    intro i n A6 h1 h2
    obtain ⟨n, rfl⟩ : ∃ k, n = k + 1 := ⟨n - 1, by omega⟩
    rw [L_X6_colourIn_11.eq_2, if_pos (by rw [show (7200 : Int32) = nI 7200 from rfl, nI_leI (by decide) (by omega)]; omega), show 7200 * v + i = 7200 * v + 7200 by omega, zr_end, upA_self]
  | succ m ih =>
    intro i n A6 h1 h2
    obtain ⟨n, rfl⟩ : ∃ k, n = k + 1 := ⟨n - 1, by omega⟩
    have e : (7200 * nI v) + nI i = nI (7200 * v + i) := by rw [show (7200 : Int32) = nI 7200 from rfl, pk_mul, nI_add]
    rw [L_X6_colourIn_11.eq_2, if_neg (by rw [show (7200 : Int32) = nI 7200 from rfl, nI_leI (by decide) (by omega)]; omega), e, ix_nI (by omega) (by decide), nI_clamp (by omega), nm_eq, nm_eq, nI_1, ih (i + 1) n _ (by omega) (by omega), bx_uu]
    have e2 : va_up A6 1 (upd (A6 1) (7200 * v + i) (vp_nar .byte 0)) 1 = upd (A6 1) (7200 * v + i) 0 := by
      rw [upA_at, if_pos rfl]; rfl
    rw [e2, show 7200 * v + (i + 1) = 7200 * v + i + 1 by omega, zr_step _ _ _ (by omega)]
/-- one mark is laid -/
def stp (M : Nat → Int32) (v u h : Nat) (f : Nat → Int32) : Nat → Int32 := if M (mkN v u h) = 0 then f else upd f (7200 * v + 20 * colN v u + rowN u h) (M (mkN v u h))
def hRun (M : Nat → Int32) (v u : Nat) : Nat → Nat → (Nat → Int32) → (Nat → Int32)
  | 0, _, f => f
  | k + 1, h, f => hRun M v u k (h + 1) (stp M v u h f)
def uRun (M : Nat → Int32) (v : Nat) : Nat → Nat → (Nat → Int32) → (Nat → Int32)
  | 0, _, f => f
  | k + 1, u, f => uRun M v k (u + 1) (hRun M v u 20 0 f)
theorem ci_h {J : Int32 → Int32 → Int32 → (Nat → Nat → Int32) → Option (Int32 × (Nat → Nat → Int32))} {v u : Nat} (hv : v < 12) (hu : u < 40) (x2 : Int32) :
    ∀ (m h n : Nat) (A6 : Nat → Nat → Int32), (∀ k, vp_nar .byte (A6 0 k) = A6 0 k) → h + m = 20 → m + 1 ≤ n → L_X6_colourIn_48 J n (nI v) x2 (nI u) (nI h) A6 = J (nI v) x2 (nI u) (va_up A6 1 (hRun (A6 0) v u m h (A6 1))) := by
  intro m
  induction m with
  | zero =>
    intro h n A6 hM h1 h2
    obtain ⟨n, rfl⟩ : ∃ k, n = k + 1 := ⟨n - 1, by omega⟩
    rw [L_X6_colourIn_48.eq_2, nm_eq, if_pos (by rw [show (20 : Int32) = nI 20 from rfl, nI_leI (by decide) (by omega)]; omega)]
    unfold hRun
    rw [upA_self]
  | succ m ih =>
    intro h n A6 hM h1 h2
    obtain ⟨n, rfl⟩ : ∃ k, n = k + 1 := ⟨n - 1, by omega⟩
    have hm : mkN v u h < 9600 := by unfold mkN; omega
    obtain ⟨c1, c2, c3⟩ := col_both v hv u hu
    obtain ⟨r1, r2, r3⟩ := row_both u hu h (by omega)
    rw [L_X6_colourIn_48.eq_2, nm_eq, if_neg (by rw [show (20 : Int32) = nI 20 from rfl, nI_leI (by decide) (by omega)]; omega), mk_nI, ix_nI hm (by decide), nI_clamp (by omega), nm_eq]
    rw [hRun]
    unfold stp
    by_cases c : A6 0 (mkN v u h) = 0
    · rw [if_pos c, if_pos c]
      show L_X6_colourIn_48 J n (nI v) x2 (nI u) (nI h + 1) A6 = _
      rw [nI_1]
      exact ih (h + 1) n A6 hM (by omega) (by omega)
    · rw [if_neg c, if_neg c, c2, bd_some, r2, bd_some, pl_nI, ix_nI (by omega) (by decide), nI_clamp (by omega), nm_eq, hM]
      show L_X6_colourIn_48 J n (nI v) x2 (nI u) (nI h + 1) _ = _
      rw [nI_1, ih (h + 1) n (va_up A6 1 (upd (A6 1) (7200 * v + 20 * colN v u + rowN u h) (A6 0 (mkN v u h)))) hM (by omega) (by omega), bx_uu]
      rfl
theorem ci_u {J : Int32 → Int32 → (Nat → Nat → Int32) → Option (Int32 × (Nat → Nat → Int32))} {v : Nat} (hv : v < 12) (x2 : Int32) :
    ∀ (m u n : Nat) (A6 : Nat → Nat → Int32), (∀ k, vp_nar .byte (A6 0 k) = A6 0 k) → u + m = 40 → m + 1 ≤ n → L_X6_colourIn_39 J n (nI v) x2 (nI u) A6 = J (nI v) x2 (va_up A6 1 (uRun (A6 0) v m u (A6 1))) := by
  intro m
  induction m with
  | zero =>
    intro u n A6 hM h1 h2
    obtain ⟨n, rfl⟩ : ∃ k, n = k + 1 := ⟨n - 1, by omega⟩
    rw [L_X6_colourIn_39.eq_2, nm_eq, if_pos (by rw [show (40 : Int32) = nI 40 from rfl, nI_leI (by decide) (by omega)]; omega)]
    unfold uRun
    rw [upA_self]
  | succ m ih =>
    intro u n A6 hM h1 h2
    obtain ⟨n, rfl⟩ : ∃ k, n = k + 1 := ⟨n - 1, by omega⟩
    rw [L_X6_colourIn_39.eq_2, nm_eq, if_neg (by rw [show (40 : Int32) = nI 40 from rfl, nI_leI (by decide) (by omega)]; omega), show (0 : Int32) = nI 0 from rfl, ci_h hv (by omega) x2 20 0 FU A6 hM (by omega) (by unfold FU; omega)]
    show L_X6_colourIn_39 J n (nI v) x2 (nI u + 1) _ = _
    rw [nI_1, ih (u + 1) n (va_up A6 1 (hRun (A6 0) v u 20 0 (A6 1))) hM (by omega) (by omega), bx_uu]
    rfl
/-- what the model lays for a view -/
def layV (M : Nat → Int32) (v : Nat) (f : Nat → Int32) : Nat → Int32 := uRun M v 40 0 (zr f (7200 * v) (7200 * v + 7200))
theorem ci_new {A6 : Nat → Nat → Int32} {v p : Nat} (hv : v < 12) (hp : p < 7200) (hM : ∀ k, vp_nar .byte (A6 0 k) = A6 0 k) (h0 : A6 2 v = 0) :
    ∃ B6, F_X6_colourIn A6 (nI v) (nI p) = some (layV (A6 0) v (A6 1) (7200 * v + p), B6) ∧ B6 1 = layV (A6 0) v (A6 1) ∧ B6 2 = upd (A6 2) v 1 ∧ ∀ j, j ≠ 1 → j ≠ 2 → B6 j = A6 j := by
  unfold F_X6_colourIn
  have hcv : (nI v).toNatClampNeg = v := nI_clamp (by omega)
  have e : (7200 * nI v) + nI p = nI (7200 * v + p) := by rw [show (7200 : Int32) = nI 7200 from rfl, pk_mul, nI_add]
  rw [nm_eq, nm_eq, nm_eq, ix_nI hv (by decide), hcv, if_pos h0, show (0 : Int32) = nI 0 from rfl, ci_zero hv (nI p) 7200 0 FU A6 (by omega) (by unfold FU; omega)]
  rw [ci_u hv (nI p) 40 0 FU (va_up A6 1 (zr (A6 1) (7200 * v + 0) (7200 * v + 7200))) hM (by omega) (by unfold FU; omega), bx_uu]
  simp only [ix_nI hv (by decide), hcv, nm_eq]
  rw [e, ix_nI (by omega) (by decide), nI_clamp (by omega)]
  refine ⟨_, rfl, rfl, rfl, fun j h1 h2 => ?_⟩
  rw [upA_at, if_neg h2, upA_at, if_neg h1]
theorem ci_old {A6 : Nat → Nat → Int32} {v p : Nat} (hv : v < 12) (hp : p < 7200) (h0 : ¬ A6 2 v = 0) : F_X6_colourIn A6 (nI v) (nI p) = some (A6 1 (7200 * v + p), A6) := by
  unfold F_X6_colourIn
  have hcv : (nI v).toNatClampNeg = v := nI_clamp (by omega)
  have e : (7200 * nI v) + nI p = nI (7200 * v + p) := by rw [show (7200 : Int32) = nI 7200 from rfl, pk_mul, nI_add]
  rw [nm_eq, nm_eq, nm_eq, ix_nI hv (by decide), hcv, if_neg h0]
  show ix (7200 * nI v + nI p) 86400 (some (A6 1 (7200 * nI v + nI p).toNatClampNeg, A6)) = _
  rw [e, ix_nI (by omega) (by decide), nI_clamp (by omega)]
