/-! the model's viewAt -/
def awW (v c : Nat) : Int32 := if 0 ≤ ((30 * nI v) - nI c) then ((30 * nI v) - nI c) else 0 - ((30 * nI v) - nI c)
def awI (v c : Nat) : Int32 := if (360 - awW v c) < awW v c then (360 - awW v c) else awW v c
def vLoop (M : Nat → Int32) (c r : Nat) : Nat → Nat → Int32 → Int32 → Int32
  | 0, _, b, _ => b
  | k + 1, v, b, l => if pic M v c r = 0 then vLoop M c r k (v + 1) b l else if b = -1 then vLoop M c r k (v + 1) (nI v) (awI v c) else if awI v c < l then vLoop M c r k (v + 1) (nI v) (awI v c) else vLoop M c r k (v + 1) b l
def viewOf (M : Nat → Int32) (c r : Nat) : Int32 := vLoop M c r 12 0 (-1) 0
theorem mv_loop {J : Int32 → (Nat → Nat → Int32) → Option (Int32 × (Nat → Nat → Int32))} {M : Nat → Int32} {c r : Nat} (hc : c < 360) (hr : r < 20) :
    ∀ (k v n : Nat) (b l : Int32) (A6 : Nat → Nat → Int32), v + k = 12 → k + 1 ≤ n → Cache A6 → A6 0 = M → ∃ B6, L_X6_viewAt_7 J n (nI (20 * c + r)) b l (nI v) A6 = J (vLoop M c r k v b l) B6 ∧ Cache B6 ∧ ∀ j, j ≠ 1 → j ≠ 2 → B6 j = A6 j := by
  have ed : nI (20 * c + r) / 20 = nI c := by rw [show (20 : Int32) = nI 20 from rfl, pk_div (by omega) (by decide) (by decide)]; congr 1; omega
  intro k
  induction k with
  | zero =>
    intro v n b l A6 h1 h2 hC hM
    obtain ⟨n, rfl⟩ : ∃ k, n = k + 1 := ⟨n - 1, by omega⟩
    refine ⟨A6, ?_, hC, fun _ _ _ => rfl⟩
    rw [L_X6_viewAt_7.eq_2, nm_eq, nm_eq, if_pos (by rw [show (12 : Int32) = nI 12 from rfl, nI_leI (by decide) (by omega)]; omega)]
    rfl
  | succ k ih =>
    intro v n b l A6 h1 h2 hC hM
    obtain ⟨n, rfl⟩ : ∃ k, n = k + 1 := ⟨n - 1, by omega⟩
    obtain ⟨C6, f1, f2, f3⟩ := ci_spec hC (v := v) (by omega) hc hr
    have e0 : C6 0 = M := by rw [f3 0 (by omega) (by omega), hM]
    rw [L_X6_viewAt_7.eq_2, nm_eq, nm_eq, if_neg (by rw [show (12 : Int32) = nI 12 from rfl, nI_leI (by decide) (by omega)]; omega), f1, bd_some, hM]
    have go : ∀ b l, ∃ B6, L_X6_viewAt_7 J n (nI (20 * c + r)) b l (nI (v + 1)) C6 = J (vLoop M c r k (v + 1) b l) B6 ∧ Cache B6 ∧ ∀ j, j ≠ 1 → j ≠ 2 → B6 j = A6 j := by
      intro b l
      obtain ⟨B6, g1, g2, g3⟩ := ih (v + 1) n b l C6 (by omega) (by omega) f2 e0
      exact ⟨B6, g1, g2, fun j a b => by rw [g3 j a b, f3 j a b]⟩
    rw [vLoop]
    by_cases c0 : pic M v c r = 0
    · rw [if_pos c0, if_pos c0]
      show ∃ B6, L_X6_viewAt_7 J n (nI (20 * c + r)) b l (nI v + 1) C6 = _ ∧ _
      rw [nI_1]
      exact go b l
    · rw [if_neg c0, if_neg c0, ed, nm_eq, nm_eq]
      by_cases c1 : b = -1
      · rw [if_pos c1, if_pos c1]
        show ∃ B6, L_X6_viewAt_7 J n (nI (20 * c + r)) (nI v) (awI v c) (nI v + 1) C6 = _ ∧ _
        rw [nI_1]
        exact go _ _
      · rw [if_neg c1, if_neg c1]
        by_cases c2 : awI v c < l
        · rw [if_pos c2]
          have c3 : (if (360 - awW v c) < awW v c then (360 - awW v c) else awW v c) < l := c2
          unfold awW at c3
          rw [if_pos c3]
          show ∃ B6, L_X6_viewAt_7 J n (nI (20 * c + r)) (nI v) (awI v c) (nI v + 1) C6 = _ ∧ _
          rw [nI_1]
          exact go _ _
        · rw [if_neg c2]
          have c3 : ¬ (if (360 - awW v c) < awW v c then (360 - awW v c) else awW v c) < l := c2
          unfold awW at c3
          rw [if_neg c3]
          show ∃ B6, L_X6_viewAt_7 J n (nI (20 * c + r)) b l (nI v + 1) C6 = _ ∧ _
          rw [nI_1]
          exact go _ _
theorem mv_spec {A6 : Nat → Nat → Int32} (h : Cache A6) {c r : Nat} (hc : c < 360) (hr : r < 20) : ∃ B6, F_X6_viewAt A6 (nI (20 * c + r)) = some (viewOf (A6 0) c r, B6) ∧ Cache B6 ∧ ∀ j, j ≠ 1 → j ≠ 2 → B6 j = A6 j := by
  obtain ⟨B6, g1, g2, g3⟩ := mv_loop (J := fun (x2 : Int32) (A6 : Nat → Nat → Int32) => some (x2, A6)) hc hr 12 0 FU (-1) 0 A6 (by omega) (by unfold FU; omega) h rfl
  exact ⟨B6, g1, g2, g3⟩
/-- the same from the other end -/
theorem hV_last (M : Nat → Int32) (v u c r : Nat) : ∀ (k h : Nat) (a : Int32), hV M v u c r (k + 1) h a = if colN v u = c ∧ rowN u (h + k) = r ∧ M (mkN v u (h + k)) ≠ 0 then M (mkN v u (h + k)) else hV M v u c r k h a := by
  intro k
  induction k with
  | zero => intro h a; rfl
  | succ k ih =>
    intro h a
    rw [hV, ih (h + 1), show h + 1 + k = h + (k + 1) by omega]
    rfl
theorem uV_last (M : Nat → Int32) (v c r : Nat) : ∀ (k u : Nat) (a : Int32), uV M v c r (k + 1) u a = hV M v (u + k) c r 20 0 (uV M v c r k u a) := by
  intro k
  induction k with
  | zero => intro u a; rfl
  | succ k ih =>
    intro u a
    rw [uV, ih (u + 1), show u + 1 + k = u + (k + 1) by omega]
    rfl
/-- a strip that doesn't stand in the column changes nothing -/
theorem hV_other (M : Nat → Int32) {v u c r : Nat} (h : colN v u ≠ c) : ∀ (k i : Nat) (a : Int32), hV M v u c r k i a = a := by
  intro k
  induction k with
  | zero => intro i a; rfl
  | succ k ih => intro i a; rw [hV, ih, if_neg (fun q => h q.1)]
/-- what a strip has in a row, 0 if nothing -/
def strip (M : Nat → Int32) (v u r : Nat) : Nat → Int32
  | 0 => 0
  | k + 1 => if rowN u k = r ∧ M (mkN v u k) ≠ 0 then M (mkN v u k) else strip M v u r k
theorem hV_strip (M : Nat → Int32) {v u c r : Nat} (h : colN v u = c) : ∀ (k : Nat) (a : Int32), hV M v u c r k 0 a = if strip M v u r k = 0 then a else strip M v u r k := by
  intro k
  induction k with
  | zero => intro a; rfl
  | succ k ih =>
    intro a
    rw [hV_last, Nat.zero_add, strip]
    by_cases e : rowN u k = r ∧ M (mkN v u k) ≠ 0
    · rw [if_pos ⟨h, e⟩, if_pos e, if_neg e.2]
    · rw [if_neg (fun q => e q.2), if_neg e]; exact ih a
/-! the class's strip -/
def stN (u : Nat) : Nat := 1000 + (((u : Int) - 20) * ((u : Int) - 20)).toNat
def hiN (u r : Nat) : Nat := min (((r + 1) * stN u - 1) / 1000) 19
theorem st_both : ∀ u, u < 40 → F_X4_stretchOf (nI u) = some (nI (stN u)) ∧ stN u ≤ 1400 := by decide +kernel
theorem hi_both : ∀ u, u < 40 → ∀ r, r < 20 → (if 19 < ((((nI r + 1) * nI (stN u)) - 1) / 1000) then (19 : Int32) else ((((nI r + 1) * nI (stN u)) - 1) / 1000)) = nI (hiN u r) ∧ hiN u r < 20 := by decide +kernel
theorem row_above : ∀ u, u < 40 → ∀ r, r < 20 → ∀ h, h < 20 → hiN u r < h → rowN u h ≠ r := by decide +kernel
theorem row_in : ∀ u, u < 40 → ∀ r, r < 20 → ∀ h, h < 20 → h ≤ hiN u r → ¬ h * 1000 < r * stN u → rowN u h = r := by decide +kernel
theorem row_below : ∀ u, u < 40 → ∀ r, r < 20 → ∀ h, h < 20 → h * 1000 < r * stN u → rowN u h ≠ r := by decide +kernel
theorem strip_zero (M : Nat → Int32) {v u r : Nat} : ∀ m : Nat, (∀ k, k < m → rowN u k ≠ r) → strip M v u r m = 0 := by
  intro m
  induction m with
  | zero => intro _; rfl
  | succ m ih =>
    intro h
    rw [strip, if_neg (fun q => h m (by omega) q.1)]
    exact ih (fun k hk => h k (by omega))
theorem strip_top (M : Nat → Int32) {v u r : Nat} (hu : u < 40) (hr : r < 20) : ∀ d : Nat, hiN u r + 1 + d ≤ 20 → strip M v u r (hiN u r + 1 + d) = strip M v u r (hiN u r + 1) := by
  intro d
  induction d with
  | zero => intro _; rfl
  | succ d ih =>
    intro h
    rw [show hiN u r + 1 + (d + 1) = (hiN u r + 1 + d) + 1 by omega, strip, if_neg (fun q => row_above u hu r hr (hiN u r + 1 + d) (by omega) (by omega) q.1)]
    exact ih (by omega)
theorem pim_nI (v u h : Nat) : F_X4_placeInMarks (nI v) (nI u) (nI h) = some (nI (mkN v u h)) := by
  unfold F_X4_placeInMarks
  rw [mk_nI]
theorem isMark_nI {v u h : Nat} (hv : v < 12) (hu : u < 40) (hh : h < 20) : F_X4_isMark (nI v) (nI u) (nI h) = some 1 := by
  unfold F_X4_isMark
  rw [if_neg (nI_pos (by omega)), if_neg (by rw [show (12 : Int32) = nI 12 from rfl, nI_leI (by decide) (by omega)]; omega), if_neg (nI_pos (by omega)), if_neg (by rw [show (40 : Int32) = nI 40 from rfl, nI_leI (by decide) (by omega)]; omega), if_neg (nI_pos (by omega)), if_neg (by rw [show (20 : Int32) = nI 20 from rfl, nI_leI (by decide) (by omega)]; omega)]
set_option maxRecDepth 40000 in
theorem cs_loop {A4 : Nat → Nat → Int32} {v u r : Nat} (hv : v < 12) (hu : u < 40) (hr : r < 20) : ∀ (h n : Nat), h ≤ hiN u r → h + 2 ≤ n → L_X4_colourInStrip_29 A4 (some 0) n (nI v) (nI u) (nI r) (nI (stN u)) (nI h) = some (strip (A4 0) v u r (h + 1)) := by
  have hhi := (hi_both u hu r hr).2
  have hst := (st_both u hu).2
  have h10 : ¬ (1 : Int32) = 0 := by decide
  obtain ⟨B, eB⟩ : ∃ B, B = r * stN u := ⟨_, rfl⟩
  have hb : B ≤ 28000 := by rw [eB]; exact Nat.mul_le_mul (Nat.le_of_lt hr) hst
  have rb : ∀ h, h < 20 → h * 1000 < B → rowN u h ≠ r := fun h h1 h2 => row_below u hu r hr h h1 (by rw [← eB]; exact h2)
  have ri : ∀ h, h < 20 → h ≤ hiN u r → ¬ h * 1000 < B → rowN u h = r := fun h h1 h2 h3 => row_in u hu r hr h h1 h2 (by rw [← eB]; exact h3)
  intro h
  induction h with
  | zero =>
    intro n h1 h2
    obtain ⟨n, rfl⟩ : ∃ k, n = k + 1 := ⟨n - 1, by omega⟩
    obtain ⟨n, rfl⟩ : ∃ k, n = k + 1 := ⟨n - 1, by omega⟩
    rw [L_X4_colourInStrip_29.eq_2, nm_eq, if_neg (nI_pos (by omega)), show (1000 : Int32) = nI 1000 from rfl, pk_mul, pk_mul, ← eB]
    by_cases c : 0 * 1000 < B
    · rw [if_pos (nI_lt c (by omega))]
      rw [strip_zero]
      intro k hk
      have : k = 0 := by omega
      subst this
      exact rb 0 (by omega) c
    · rw [if_neg (nI_nlt (by omega) (by omega)), isMark_nI hv hu (by omega), bd_some, if_neg h10, pim_nI, bd_some, ix_nI (by unfold mkN; omega) (by decide), nI_clamp (by unfold mkN; omega)]
      rw [strip]
      by_cases c2 : A4 0 (mkN v u 0) = 0
      · rw [if_pos c2, if_neg (fun q => q.2 c2)]
        show L_X4_colourInStrip_29 A4 (some 0) (n + 1) (nI v) (nI u) (nI r) (nI (stN u)) (nI 0 + (-1)) = _
        rw [L_X4_colourInStrip_29.eq_2, nm_eq, if_pos (show nI 0 + (-1) < 0 by decide)]
        rfl
      · rw [if_neg c2, bd_some, ix_nI (by unfold mkN; omega) (by decide), nI_clamp (by unfold mkN; omega), if_pos ⟨ri 0 (by omega) h1 c, c2⟩]
  | succ h ih =>
    intro n h1 h2
    obtain ⟨n, rfl⟩ : ∃ k, n = k + 1 := ⟨n - 1, by omega⟩
    rw [L_X4_colourInStrip_29.eq_2, nm_eq, if_neg (nI_pos (by omega)), show (1000 : Int32) = nI 1000 from rfl, pk_mul, pk_mul, ← eB]
    by_cases c : (h + 1) * 1000 < B
    · rw [if_pos (nI_lt c (by omega))]
      rw [strip_zero]
      intro k hk
      exact rb k (by omega) (by omega)
    · rw [if_neg (nI_nlt (by omega) (by omega)), isMark_nI hv hu (by omega), bd_some, if_neg h10, pim_nI, bd_some, ix_nI (by unfold mkN; omega) (by decide), nI_clamp (by unfold mkN; omega)]
      rw [strip]
      by_cases c2 : A4 0 (mkN v u (h + 1)) = 0
      · rw [if_pos c2, if_neg (fun q => q.2 c2)]
        show L_X4_colourInStrip_29 A4 (some 0) n (nI v) (nI u) (nI r) (nI (stN u)) (nI (h + 1) + (-1)) = _
        rw [pk_m1]
        exact ih n (by omega) (by omega)
      · rw [if_neg c2, bd_some, ix_nI (by unfold mkN; omega) (by decide), nI_clamp (by unfold mkN; omega), if_pos ⟨ri (h + 1) (by omega) h1 c, c2⟩]
theorem cs_spec {A4 : Nat → Nat → Int32} {v u r : Nat} (hv : v < 12) (hu : u < 40) (hr : r < 20) : F_X4_colourInStrip A4 (nI v) (nI u) (nI r) = some (strip (A4 0) v u r 20) := by
  unfold F_X4_colourInStrip
  obtain ⟨e1, e2⟩ := hi_both u hu r hr
  rw [nm_eq, (st_both u hu).1, bd_some, e1, nm_eq, cs_loop hv hu hr (hiN u r) FU (by omega) (by unfold FU; omega), ← strip_top (A4 0) hu hr (19 - hiN u r) (by omega), show hiN u r + 1 + (19 - hiN u r) = 20 by omega]
theorem uV_skip (M : Nat → Int32) {v c r : Nat} : ∀ (k u : Nat) (a : Int32), (∀ i, u ≤ i → i < u + k → colN v i ≠ c) → uV M v c r k u a = a := by
  intro k
  induction k with
  | zero => intro u a _; rfl
  | succ k ih => intro u a h; rw [uV, hV_other M (h u (by omega) (by omega)), ih (u + 1) a (fun i h1 h2 => h i (by omega) (by omega))]
theorem uV_split (M : Nat → Int32) (v c r : Nat) : ∀ (k1 k2 u : Nat) (a : Int32), uV M v c r (k1 + k2) u a = uV M v c r k2 (u + k1) (uV M v c r k1 u a) := by
  intro k1
  induction k1 with
  | zero => intro k2 u a; rw [Nat.zero_add]; rfl
  | succ k1 ih => intro k2 u a; rw [show k1 + 1 + k2 = (k1 + k2) + 1 by omega, uV, ih, uV, show u + 1 + k1 = u + (k1 + 1) by omega]
def offN (v c : Nat) : Nat := (c + 540 - 30 * v) % 360
theorem off_both : ∀ v, v < 12 → ∀ c, c < 360 → F_J9_floorMod_7cf53 ((nI c - (30 * nI v)) + 180) 360 = some (nI (offN v c)) := by decide +kernel
theorem off_out : ∀ v, v < 12 → ∀ c, c < 360 → (offN v c < 161 ∨ 198 < offN v c) → ∀ u, u < 40 → colN v u ≠ c := by decide +kernel
