/-! the class's colourShown is the picture -/
def ofI (u : Nat) : Int := ((u : Int) - 20) - (((u : Int) - 20) * ((u : Int) - 20) * ((u : Int) - 20)).tdiv 6000
theorem of_b : ∀ u, u < 40 → ((F_X4_offsetOf (nI u)).map Int32.toInt = some (ofI u)) ∧ -19 ≤ ofI u ∧ ofI u ≤ 18 ∧ ofI u ≤ (u : Int) - 19 ∧ (u : Int) - 21 ≤ ofI u := by decide +kernel
theorem of_w {u : Nat} (hu : u < 40) : ∃ w : Int32, F_X4_offsetOf (nI u) = some w ∧ w.toInt = ofI u := by
  have h := (of_b u hu).1
  cases e : F_X4_offsetOf (nI u) with
  | none => rw [e] at h; cases h
  | some w => rw [e] at h; exact ⟨w, rfl, Option.some.inj h⟩
theorem col_ofI (v u : Nat) : colN v u = ((30 * (v : Int) + ofI u) % 360).toNat := by
  unfold colN ofI
  congr 2
  omega
theorem off_iff {v c u : Nat} (hv : v < 12) (hc : c < 360) (hu : u < 40) : colN v u = c ↔ ofI u = (offN v c : Int) - 180 := by
  have h := of_b u hu
  rw [col_ofI]
  unfold offN
  generalize ofI u = o at h ⊢
  obtain ⟨-, h1, h2, -⟩ := h
  omega
theorem off_lt (v c : Nat) : offN v c < 360 := by unfold offN; omega
theorem pic_out (M : Nat → Int32) {v c r : Nat} (hv : v < 12) (hc : c < 360) (h : offN v c < 161 ∨ 198 < offN v c) : pic M v c r = 0 := by
  unfold pic
  refine uV_skip M 40 0 0 (fun i h1 h2 => ?_)
  intro e
  have h3 := (off_iff hv hc (by omega)).mp e
  have h4 := of_b i (by omega)
  omega
theorem uV_one (M : Nat → Int32) {v u c r : Nat} (a : Int32) : uV M v c r 1 u a = if colN v u = c ∧ strip M v u r 20 ≠ 0 then strip M v u r 20 else a := by
  show hV M v u c r 20 0 a = _
  by_cases h : colN v u = c
  · rw [hV_strip M h]
    by_cases h2 : strip M v u r 20 = 0
    · rw [if_pos h2, if_neg (fun q => q.2 h2)]
    · rw [if_neg h2, if_pos ⟨h, h2⟩]
  · rw [hV_other M h, if_neg (fun q => h q.1)]
theorem pic_three (M : Nat → Int32) {v c r s : Nat} (hv : v < 12) (hc : c < 360) (hs : offN v c = s + 160) (h1 : 1 ≤ s) (h2 : s ≤ 38) :
    pic M v c r = uV M v c r 1 (s + 1) (uV M v c r 1 s (uV M v c r 1 (s - 1) 0)) := by
  have hne : ∀ i, i < 40 → (i + 1 < s ∨ s + 1 < i) → colN v i ≠ c := by
    intro i hi hd e
    have h3 := (off_iff hv hc hi).mp e
    have h4 := of_b i hi
    omega
  unfold pic
  obtain ⟨t, rfl⟩ : ∃ t, s = t + 1 := ⟨s - 1, by omega⟩
  rw [show 40 = t + (1 + (1 + (1 + (37 - t)))) by omega, uV_split, uV_skip M t 0 0 (fun i a b => hne i (by omega) (by omega)), uV_split, uV_split, uV_split]
  rw [uV_skip M (37 - t) _ _ (fun i a b => hne i (by omega) (by omega))]
  rw [show 0 + t = t by omega, show t + 1 - 1 = t by omega]
theorem sh_step {A4 : Nat → Nat → Int32} {J : Option Int32} {v c r u n : Nat} {D x6 : Int32} (hv : v < 12) (hc : c < 360) (hr : r < 20) (hu : u < 40) (hD : D.toInt = (offN v c : Int) - 180) (h6 : ¬ nI u < x6 - 1) :
    L_X4_colourShown_55 A4 J (n + 1) (nI v) (nI r) D x6 (nI u) = if colN v u = c ∧ strip (A4 0) v u r 20 ≠ 0 then some (strip (A4 0) v u r 20) else L_X4_colourShown_55 A4 J n (nI v) (nI r) D x6 (nI u + (-1)) := by
  obtain ⟨w, hw, hi⟩ := of_w hu
  rw [L_X4_colourShown_55.eq_2, nm_eq, if_neg h6, hw, bd_some, cs_spec hv hu hr, bd_some]
  have hiff : w = D ↔ colN v u = c := by
    rw [off_iff hv hc hu, i_eq, hi, hD]
  by_cases e : colN v u = c
  · rw [if_pos (hiff.mpr e)]
    by_cases e2 : strip (A4 0) v u r 20 = 0
    · rw [if_neg (fun q => q.2 e2)]
      show (if strip (A4 0) v u r 20 = 0 then _ else _) = _
      rw [if_pos e2, nm_eq]
    · rw [if_pos ⟨e, e2⟩]
      show (if strip (A4 0) v u r 20 = 0 then _ else _) = _
      rw [if_neg e2]
  · rw [if_neg (fun q => e (hiff.mp q)), if_neg (fun q => e q.1)]
    show (if (0 : Int32) = 0 then _ else _) = _
    rw [if_pos rfl, nm_eq]
theorem sh_spec {A4 : Nat → Nat → Int32} {v c r : Nat} (hv : v < 12) (hc : c < 360) (hr : r < 20) : F_X4_colourShown A4 (nI v) (nI c) (nI r) = some (pic (A4 0) v c r) := by
  unfold F_X4_colourShown
  have ho := off_lt v c
  rw [nm_eq, nm_eq, off_both v hv c hc, bd_some, nm_eq]
  have hD : (nI (offN v c) - 180).toInt = (offN v c : Int) - 180 := by
    rw [show (180 : Int32) = nI 180 from rfl, pk_sub_toInt (by omega) (by decide)]
    rfl
  have e19 : (-19 : Int32).toInt = -19 := rfl
  have e18 : (18 : Int32).toInt = 18 := rfl
  by_cases c1 : offN v c < 161
  · rw [if_pos (by rw [i_lt, hD, e19]; omega), pic_out (A4 0) hv hc (Or.inl c1)]
  rw [if_neg (by rw [i_lt, hD, e19]; omega)]
  by_cases c2 : 198 < offN v c
  · rw [if_neg (by rw [i_le, hD, e18]; omega), pic_out (A4 0) hv hc (Or.inr c2)]
  rw [if_pos (by rw [i_le, hD, e18]; omega), nm_eq, nm_eq]
  obtain ⟨t, ht⟩ : ∃ t, offN v c = t + 161 := ⟨offN v c - 161, by omega⟩
  have e6 : nI (offN v c) - 180 + 20 = nI (t + 1) := by
    rw [show (180 : Int32) = nI 180 from rfl, show (20 : Int32) = nI 20 from rfl, ht]
    apply i_eq.mpr
    rw [i_add, pk_sub_toInt (by omega) (by decide), nI_toInt (by decide), nI_toInt (by omega)]
    · omega
    · rw [pk_sub_toInt (by omega) (by decide), nI_toInt (by decide)]; omega
    · rw [pk_sub_toInt (by omega) (by decide), nI_toInt (by decide)]; omega
  rw [e6]
  have e7 : nI (t + 1) - 1 = nI t := nI_pred t
  have hne : ∀ k : Nat, t ≤ k → k < 40 → ¬ nI k < nI (t + 1) - 1 := by
    intro k h1 h2
    rw [e7]
    exact nI_nlt h1 (by omega)
  rw [nI_1, show FU = 99996 + 1 + 1 + 1 + 1 from rfl, sh_step hv hc hr (by omega) hD (hne _ (by omega) (by omega)), pk_m1, sh_step hv hc hr (by omega) hD (hne _ (by omega) (by omega)), pk_m1, sh_step hv hc hr (by omega) hD (hne _ (by omega) (by omega))]
  rw [pic_three (A4 0) (s := t + 1) hv hc (by omega) (by omega) (by omega), show t + 1 - 1 = t by omega, uV_one, uV_one, uV_one]
  have last : L_X4_colourShown_55 A4 (some 0) (99996 + 1) (nI v) (nI r) (nI (offN v c) - 180) (nI (t + 1)) (nI t + (-1)) = some 0 := by
    rw [L_X4_colourShown_55.eq_2, nm_eq, if_pos]
    rw [e7, i_lt, nI_toInt (by omega), i_add (by rw [nI_toInt (by omega)]; show -2147483648 ≤ (t : Int) + -1; omega) (by rw [nI_toInt (by omega)]; show (t : Int) + -1 < 2147483648; omega), nI_toInt (by omega)]
    show (t : Int) + -1 < t
    omega
  rw [last]
  by_cases k1 : colN v (t + 1 + 1) = c ∧ strip (A4 0) v (t + 1 + 1) r 20 ≠ 0
  · rw [if_pos k1, if_pos k1]
  rw [if_neg k1, if_neg k1]
  by_cases k2 : colN v (t + 1) = c ∧ strip (A4 0) v (t + 1) r 20 ≠ 0
  · rw [if_pos k2, if_pos k2]
  rw [if_neg k2, if_neg k2]
  by_cases k3 : colN v t = c ∧ strip (A4 0) v t r 20 ≠ 0
  · rw [if_pos k3, if_pos k3]
  rw [if_neg k3, if_neg k3]
