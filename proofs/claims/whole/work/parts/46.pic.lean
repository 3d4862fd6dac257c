/-! the model's picture of a view: laid out of the marks -/
abbrev mkN (v u h : Nat) : Nat := (v * 40 + u) * 20 + h
theorem mk_nI (v u h : Nat) : ((nI v * 40) + nI u) * 20 + nI h = nI (mkN v u h) := by
  rw [show (40 : Int32) = nI 40 from rfl, show (20 : Int32) = nI 20 from rfl, pk_mul, nI_add, pk_mul, nI_add]
theorem pl_nI (v c r : Nat) : ((7200 * nI v) + (20 * nI c)) + nI r = nI (7200 * v + 20 * c + r) := by
  rw [show (7200 : Int32) = nI 7200 from rfl, show (20 : Int32) = nI 20 from rfl, pk_mul, pk_mul, nI_add, nI_add]
def zr (f : Nat → Int32) (a b : Nat) : Nat → Int32 := fun p => if a ≤ p ∧ p < b then 0 else f p
theorem zr_step (f : Nat → Int32) (a b : Nat) (h : a < b) : zr (upd f a 0) (a + 1) b = zr f a b := by
  funext p
  unfold zr
  by_cases c : a + 1 ≤ p ∧ p < b
  · rw [if_pos c, if_pos ⟨by omega, c.2⟩]
  · rw [if_neg c, upd_at]
    by_cases e : p = a
    · rw [if_pos e, if_pos ⟨by omega, by omega⟩]
    · rw [if_neg e, if_neg (fun h2 => c ⟨by omega, h2.2⟩)]
theorem zr_end (f : Nat → Int32) (b : Nat) : zr f b b = f := by
  funext p
  unfold zr
  rw [if_neg (by omega)]
theorem upA_self {α : Type} (A : Nat → α) (k : Nat) : va_up A k (A k) = A := by
  funext j
  rw [upA_at]
  by_cases e : j = k
  · rw [if_pos e, e]
  · rw [if_neg e]
theorem ci_zero {J : Int32 → Int32 → (Nat → Nat → Int32) → Option (Int32 × (Nat → Nat → Int32))} {v : Nat} (hv : v < 12) (x2 : Int32) :
    ∀ (m i n : Nat) (A6 : Nat → Nat → Int32), i + m = 7200 → m + 1 ≤ n → L_X6_colourIn_11 J n (nI v) x2 (nI i) A6 = J (nI v) x2 (va_up A6 1 (zr (A6 1) (7200 * v + i) (7200 * v + 7200))) := by
  intro m
  induction m with
  | zero =>
    intro i n A6 h1 h2
    obtain ⟨n, rfl⟩ : ∃ k, n = k + 1 := ⟨n - 1, by omega⟩
    rw [L_X6_colourIn_11.eq_2, if_pos (by rw [show (7200 : Int32) = nI 7200 from rfl, nI_leI (by decide) (by omega)]; omega), show 7200 * v + i = 7200 * v + 7200 by omega, zr_end, upA_self]
  | succ m ih =>
    intro i n A6 h1 h2
    obtain ⟨n, rfl⟩ : ∃ k, n = k + 1 := ⟨n - 1, by omega⟩
    have e : (7200 * nI v) + nI i = nI (7200 * v + i) := by rw [show (7200 : Int32) = nI 7200 from rfl, pk_mul, nI_add]
    rw [L_X6_colourIn_11.eq_2, if_neg (by rw [show (7200 : Int32) = nI 7200 from rfl, nI_leI (by decide) (by omega)]; omega), e, ix_nI (by omega) (by decide), nI_clamp (by omega), nm_eq, nm_eq, nI_1, ih (i + 1) n _ (by omega) (by omega), bx_uu]
    have e2 : va_up A6 1 (upd (A6 1) (7200 * v + i) (vp_nar .byte 0)) 1 = upd (A6 1) (7200 * v + i) 0 := by
      rw [upA_at, if_pos rfl]; rfl
    rw [e2, show 7200 * v + (i + 1) = 7200 * v + i + 1 by omega, zr_step _ _ _ (by omega)]
/-- one mark is laid -/
def stp (M : Nat → Int32) (v u h : Nat) (f : Nat → Int32) : Nat → Int32 := if M (mkN v u h) = 0 then f else upd f (7200 * v + 20 * colN v u + rowN u h) (M (mkN v u h))
def hRun (M : Nat → Int32) (v u : Nat) : Nat → Nat → (Nat → Int32) → (Nat → Int32)
  | 0, _, f => f
  | k + 1, h, f => hRun M v u k (h + 1) (stp M v u h f)
def uRun (M : Nat → Int32) (v : Nat) : Nat → Nat → (Nat → Int32) → (Nat → Int32)
  | 0, _, f => f
  | k + 1, u, f => uRun M v k (u + 1) (hRun M v u 20 0 f)
theorem ci_h {J : Int32 → Int32 → Int32 → (Nat → Nat → Int32) → Option (Int32 × (Nat → Nat → Int32))} {v u : Nat} (hv : v < 12) (hu : u < 40) (x2 : Int32) :
    ∀ (m h n : Nat) (A6 : Nat → Nat → Int32), (∀ k, vp_nar .byte (A6 0 k) = A6 0 k) → h + m = 20 → m + 1 ≤ n → L_X6_colourIn_48 J n (nI v) x2 (nI u) (nI h) A6 = J (nI v) x2 (nI u) (va_up A6 1 (hRun (A6 0) v u m h (A6 1))) := by
  intro m
  induction m with
  | zero =>
    intro h n A6 hM h1 h2
    obtain ⟨n, rfl⟩ : ∃ k, n = k + 1 := ⟨n - 1, by omega⟩
    rw [L_X6_colourIn_48.eq_2, nm_eq, if_pos (by rw [show (20 : Int32) = nI 20 from rfl, nI_leI (by decide) (by omega)]; omega)]
    unfold hRun
    rw [upA_self]
  | succ m ih =>
    intro h n A6 hM h1 h2
    obtain ⟨n, rfl⟩ : ∃ k, n = k + 1 := ⟨n - 1, by omega⟩
    have hm : mkN v u h < 9600 := by unfold mkN; omega
    obtain ⟨c1, c2, c3⟩ := col_both v hv u hu
    obtain ⟨r1, r2, r3⟩ := row_both u hu h (by omega)
    rw [L_X6_colourIn_48.eq_2, nm_eq, if_neg (by rw [show (20 : Int32) = nI 20 from rfl, nI_leI (by decide) (by omega)]; omega), mk_nI, ix_nI hm (by decide), nI_clamp (by omega), nm_eq]
    rw [hRun]
    unfold stp
    by_cases c : A6 0 (mkN v u h) = 0
    · rw [if_pos c, if_pos c]
      show L_X6_colourIn_48 J n (nI v) x2 (nI u) (nI h + 1) A6 = _
      rw [nI_1]
      exact ih (h + 1) n A6 hM (by omega) (by omega)
    · rw [if_neg c, if_neg c, c2, bd_some, r2, bd_some, pl_nI, ix_nI (by omega) (by decide), nI_clamp (by omega), nm_eq, hM]
      show L_X6_colourIn_48 J n (nI v) x2 (nI u) (nI h + 1) _ = _
      rw [nI_1, ih (h + 1) n (va_up A6 1 (upd (A6 1) (7200 * v + 20 * colN v u + rowN u h) (A6 0 (mkN v u h)))) hM (by omega) (by omega), bx_uu]
      rfl
theorem ci_u {J : Int32 → Int32 → (Nat → Nat → Int32) → Option (Int32 × (Nat → Nat → Int32))} {v : Nat} (hv : v < 12) (x2 : Int32) :
    ∀ (m u n : Nat) (A6 : Nat → Nat → Int32), (∀ k, vp_nar .byte (A6 0 k) = A6 0 k) → u + m = 40 → m + 1 ≤ n → L_X6_colourIn_39 J n (nI v) x2 (nI u) A6 = J (nI v) x2 (va_up A6 1 (uRun (A6 0) v m u (A6 1))) := by
  intro m
  induction m with
  | zero =>
    intro u n A6 hM h1 h2
    obtain ⟨n, rfl⟩ : ∃ k, n = k + 1 := ⟨n - 1, by omega⟩
    rw [L_X6_colourIn_39.eq_2, nm_eq, if_pos (by rw [show (40 : Int32) = nI 40 from rfl, nI_leI (by decide) (by omega)]; omega)]
    unfold uRun
    rw [upA_self]
  | succ m ih =>
    intro u n A6 hM h1 h2
    obtain ⟨n, rfl⟩ : ∃ k, n = k + 1 := ⟨n - 1, by omega⟩
    rw [L_X6_colourIn_39.eq_2, nm_eq, if_neg (by rw [show (40 : Int32) = nI 40 from rfl, nI_leI (by decide) (by omega)]; omega), show (0 : Int32) = nI 0 from rfl, ci_h hv (by omega) x2 20 0 FU A6 hM (by omega) (by unfold FU; omega)]
    show L_X6_colourIn_39 J n (nI v) x2 (nI u + 1) _ = _
    rw [nI_1, ih (u + 1) n (va_up A6 1 (hRun (A6 0) v u 20 0 (A6 1))) hM (by omega) (by omega), bx_uu]
    rfl
/-- what the model lays for a view -/
def layV (M : Nat → Int32) (v : Nat) (f : Nat → Int32) : Nat → Int32 := uRun M v 40 0 (zr f (7200 * v) (7200 * v + 7200))
theorem ci_new {A6 : Nat → Nat → Int32} {v p : Nat} (hv : v < 12) (hp : p < 7200) (hM : ∀ k, vp_nar .byte (A6 0 k) = A6 0 k) (h0 : A6 2 v = 0) :
    ∃ B6, F_X6_colourIn A6 (nI v) (nI p) = some (layV (A6 0) v (A6 1) (7200 * v + p), B6) ∧ B6 1 = layV (A6 0) v (A6 1) ∧ B6 2 = upd (A6 2) v 1 ∧ ∀ j, j ≠ 1 → j ≠ 2 → B6 j = A6 j := by
  unfold F_X6_colourIn
  have hcv : (nI v).toNatClampNeg = v := nI_clamp (by omega)
  have e : (7200 * nI v) + nI p = nI (7200 * v + p) := by rw [show (7200 : Int32) = nI 7200 from rfl, pk_mul, nI_add]
  rw [nm_eq, nm_eq, nm_eq, ix_nI hv (by decide), hcv, if_pos h0, show (0 : Int32) = nI 0 from rfl, ci_zero hv (nI p) 7200 0 FU A6 (by omega) (by unfold FU; omega)]
  rw [ci_u hv (nI p) 40 0 FU (va_up A6 1 (zr (A6 1) (7200 * v + 0) (7200 * v + 7200))) hM (by omega) (by unfold FU; omega), bx_uu]
  simp only [ix_nI hv (by decide), hcv, nm_eq]
  rw [e, ix_nI (by omega) (by decide), nI_clamp (by omega)]
  refine ⟨_, rfl, rfl, rfl, fun j h1 h2 => ?_⟩
  rw [upA_at, if_neg h2, upA_at, if_neg h1]
theorem ci_old {A6 : Nat → Nat → Int32} {v p : Nat} (hv : v < 12) (hp : p < 7200) (h0 : ¬ A6 2 v = 0) : F_X6_colourIn A6 (nI v) (nI p) = some (A6 1 (7200 * v + p), A6) := by
  unfold F_X6_colourIn
  have hcv : (nI v).toNatClampNeg = v := nI_clamp (by omega)
  have e : (7200 * nI v) + nI p = nI (7200 * v + p) := by rw [show (7200 : Int32) = nI 7200 from rfl, pk_mul, nI_add]
  rw [nm_eq, nm_eq, nm_eq, ix_nI hv (by decide), hcv, if_neg h0]
  show ix (7200 * nI v + nI p) 86400 (some (A6 1 (7200 * nI v + nI p).toNatClampNeg, A6)) = _
  rw [e, ix_nI (by omega) (by decide), nI_clamp (by omega)]
/-- the colour that a view has at a place: of its marks that stand there the last one that isn't 0 -/
def hV (M : Nat → Int32) (v u c r : Nat) : Nat → Nat → Int32 → Int32
  | 0, _, a => a
  | k + 1, h, a => hV M v u c r k (h + 1) (if colN v u = c ∧ rowN u h = r ∧ M (mkN v u h) ≠ 0 then M (mkN v u h) else a)
def uV (M : Nat → Int32) (v c r : Nat) : Nat → Nat → Int32 → Int32
  | 0, _, a => a
  | k + 1, u, a => uV M v c r k (u + 1) (hV M v u c r 20 0 a)
def pic (M : Nat → Int32) (v c r : Nat) : Int32 := uV M v c r 40 0 0
theorem stp_at (M : Nat → Int32) {v u h c r : Nat} (hv : v < 12) (hu : u < 40) (hh : h < 20) (hr : r < 20) (f : Nat → Int32) : stp M v u h f (7200 * v + 20 * c + r) = if colN v u = c ∧ rowN u h = r ∧ M (mkN v u h) ≠ 0 then M (mkN v u h) else f (7200 * v + 20 * c + r) := by
  have h3 := (row_both u hu h hh).2.2
  unfold stp
  by_cases c0 : M (mkN v u h) = 0
  · rw [if_pos c0, if_neg (fun q => q.2.2 c0)]
  · rw [if_neg c0, upd_at]
    by_cases e : colN v u = c ∧ rowN u h = r
    · rw [if_pos (by omega), if_pos ⟨e.1, e.2, c0⟩]
    · rw [if_neg (by omega), if_neg (fun q => e ⟨q.1, q.2.1⟩)]
theorem hRun_at (M : Nat → Int32) {v u c r : Nat} (hv : v < 12) (hu : u < 40) (hr : r < 20) : ∀ (k h : Nat) (f : Nat → Int32), h + k ≤ 20 → hRun M v u k h f (7200 * v + 20 * c + r) = hV M v u c r k h (f (7200 * v + 20 * c + r)) := by
  intro k
  induction k with
  | zero => intro h f _; rfl
  | succ k ih =>
    intro h f hk
    rw [hRun, hV, ih (h + 1) _ (by omega), stp_at M hv hu (by omega) hr]
theorem uRun_at (M : Nat → Int32) {v c r : Nat} (hv : v < 12) (hr : r < 20) : ∀ (k u : Nat) (f : Nat → Int32), u + k ≤ 40 → uRun M v k u f (7200 * v + 20 * c + r) = uV M v c r k u (f (7200 * v + 20 * c + r)) := by
  intro k
  induction k with
  | zero => intro u f _; rfl
  | succ k ih =>
    intro u f hk
    rw [uRun, uV, ih (u + 1) _ (by omega), hRun_at M hv (by omega) hr 20 0 f (by omega)]
theorem layV_at (M : Nat → Int32) {v c r : Nat} (hv : v < 12) (hc : c < 360) (hr : r < 20) (f : Nat → Int32) : layV M v f (7200 * v + 20 * c + r) = pic M v c r := by
  unfold layV pic
  rw [uRun_at M hv hr 40 0 _ (by omega)]
  unfold zr
  rw [if_pos ⟨by omega, by omega⟩]
theorem stp_out (M : Nat → Int32) {v u h p : Nat} (hv : v < 12) (hu : u < 40) (hh : h < 20) (hp : p < 7200 * v ∨ 7200 * v + 7200 ≤ p) (f : Nat → Int32) : stp M v u h f p = f p := by
  have h3 := (row_both u hu h hh).2.2
  have h4 := (col_both v hv u hu).2.2
  unfold stp
  by_cases c0 : M (mkN v u h) = 0
  · rw [if_pos c0]
  · rw [if_neg c0, upd_at, if_neg (by omega)]
theorem hRun_out (M : Nat → Int32) {v u p : Nat} (hv : v < 12) (hu : u < 40) (hp : p < 7200 * v ∨ 7200 * v + 7200 ≤ p) : ∀ (k h : Nat) (f : Nat → Int32), h + k ≤ 20 → hRun M v u k h f p = f p := by
  intro k
  induction k with
  | zero => intro h f _; rfl
  | succ k ih =>
    intro h f hk
    rw [hRun, ih (h + 1) _ (by omega), stp_out M hv hu (by omega) hp]
theorem uRun_out (M : Nat → Int32) {v p : Nat} (hv : v < 12) (hp : p < 7200 * v ∨ 7200 * v + 7200 ≤ p) : ∀ (k u : Nat) (f : Nat → Int32), u + k ≤ 40 → uRun M v k u f p = f p := by
  intro k
  induction k with
  | zero => intro u f _; rfl
  | succ k ih =>
    intro u f hk
    rw [uRun, ih (u + 1) _ (by omega), hRun_out M hv (by omega) hp 20 0 f (by omega)]
theorem layV_out (M : Nat → Int32) {v p : Nat} (hv : v < 12) (hp : p < 7200 * v ∨ 7200 * v + 7200 ≤ p) (f : Nat → Int32) : layV M v f p = f p := by
  unfold layV
  rw [uRun_out M hv hp 40 0 _ (by omega)]
  unfold zr
  rw [if_neg (by omega)]
/-- the model's store of pictures is right where it says so; the marks are bytes -/
def Cache (A6 : Nat → Nat → Int32) : Prop :=
  (∀ k, vp_nar .byte (A6 0 k) = A6 0 k) ∧ ∀ v, v < 12 → (A6 2 v = 0 ∨ ∀ c r, c < 360 → r < 20 → A6 1 (7200 * v + 20 * c + r) = pic (A6 0) v c r)
/-- colourIn: the picture; only the store changes -/
theorem ci_spec {A6 : Nat → Nat → Int32} (h : Cache A6) {v c r : Nat} (hv : v < 12) (hc : c < 360) (hr : r < 20) : ∃ B6, F_X6_colourIn A6 (nI v) (nI (20 * c + r)) = some (pic (A6 0) v c r, B6) ∧ Cache B6 ∧ ∀ j, j ≠ 1 → j ≠ 2 → B6 j = A6 j := by
  by_cases c0 : A6 2 v = 0
  · obtain ⟨B6, f1, f2, f3, f4⟩ := ci_new (p := 20 * c + r) hv (by omega) h.1 c0
    rw [show 7200 * v + (20 * c + r) = 7200 * v + 20 * c + r by omega, layV_at _ hv hc hr] at f1
    have e0 : B6 0 = A6 0 := f4 0 (by omega) (by omega)
    refine ⟨B6, f1, ⟨by rw [e0]; exact h.1, fun w hw => ?_⟩, f4⟩
    rw [f2, f3, e0, upd_at]
    by_cases ew : w = v
    · subst ew
      exact Or.inr fun c r hc hr => layV_at _ hw hc hr _
    · rw [if_neg ew]
      rcases h.2 w hw with g | g
      · exact Or.inl g
      · refine Or.inr fun c r hc hr => ?_
        rw [layV_out _ hv (by omega)]
        exact g c r hc hr
  · rcases h.2 v hv with g | g
    · exact absurd g c0
    · exact ⟨A6, by rw [ci_old hv (by omega) c0, show 7200 * v + (20 * c + r) = 7200 * v + 20 * c + r by omega, g c r hc hr], h, fun _ _ _ => rfl⟩
