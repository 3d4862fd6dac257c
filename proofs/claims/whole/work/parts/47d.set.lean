/-! a mark is set: what of the picture changes; mark -/
theorem mk_inj {v u h w x y : Nat} (hu : u < 40) (hh : h < 20) (hx : x < 40) (hy : y < 20) (e : mkN w x y = mkN v u h) : w = v ∧ x = u ∧ y = h := by
  unfold mkN at e
  omega
theorem hV_upd (M : Nat → Int32) {v u h w x c r : Nat} (X : Int32) (hu : u < 40) (hh : h < 20) (hx : x < 40) (hne : ¬ (w = v ∧ c = colN v u ∧ r = rowN u h)) :
    ∀ (k i : Nat) (a : Int32), i + k ≤ 20 → hV (upd M (mkN v u h) X) w x c r k i a = hV M w x c r k i a := by
  intro k
  induction k with
  | zero => intro i a _; rfl
  | succ k ih =>
    intro i a hi
    rw [hV, hV, ih (i + 1) _ (by omega)]
    by_cases e : mkN w x i = mkN v u h
    · obtain ⟨e1, e2, e3⟩ := mk_inj hu hh hx (by omega) e
      subst e1 e2 e3
      have hn : ¬ (colN w x = c ∧ rowN x i = r) := fun q => hne ⟨rfl, q.1.symm, q.2.symm⟩
      rw [if_neg (fun q => hn ⟨q.1, q.2.1⟩), if_neg (fun q => hn ⟨q.1, q.2.1⟩)]
    · rw [pk_un e]
theorem uV_upd (M : Nat → Int32) {v u h w c r : Nat} (X : Int32) (hu : u < 40) (hh : h < 20) (hne : ¬ (w = v ∧ c = colN v u ∧ r = rowN u h)) :
    ∀ (k i : Nat) (a : Int32), i + k ≤ 40 → uV (upd M (mkN v u h) X) w c r k i a = uV M w c r k i a := by
  intro k
  induction k with
  | zero => intro i a _; rfl
  | succ k ih =>
    intro i a hi
    rw [uV, uV, hV_upd M X hu hh (by omega) hne 20 0 a (by omega), ih (i + 1) _ (by omega)]
theorem pic_upd (M : Nat → Int32) {v u h w c r : Nat} (X : Int32) (hu : u < 40) (hh : h < 20) (hne : ¬ (w = v ∧ c = colN v u ∧ r = rowN u h)) : pic (upd M (mkN v u h) X) w c r = pic M w c r :=
  uV_upd M X hu hh hne 40 0 0 (by omega)
theorem cl_upd (M : Nat → Int32) {v u h c r : Nat} (X : Int32) (hu : u < 40) (hh : h < 20) (hc : c < 360) (hne : ¬ (c = colN v u ∧ r = rowN u h)) : cl (upd M (mkN v u h) X) c r = cl M c r := by
  unfold cl
  rw [viewOf_eq _ hc, viewOf_eq _ hc, pic_upd M X hu hh (fun q => hne q.2), pic_upd M X hu hh (fun q => hne q.2)]
def sqN (c r : Nat) : Nat := c / 10 + (if r < 10 then 36 else 0)
theorem sq_of {c r : Nat} (hc : c < 360) (hr : r < 20) : F_X4_squareOf (nI c) (nI r) = some (nI (sqN c r)) ∧ sqN c r < 72 := by
  unfold F_X4_squareOf sqN
  rw [show (10 : Int32) = nI 10 from rfl, pk_div (by omega) (by decide) (by decide)]
  by_cases h : r < 10
  · rw [if_neg (nI_ge h (by decide)), if_pos h, show (36 : Int32) = nI 36 from rfl, nI_add]
    exact ⟨rfl, by omega⟩
  · rw [if_pos (nI_le (by omega) (by omega)), if_neg h, show (0 : Int32) = nI 0 from rfl, nI_add]
    exact ⟨rfl, by omega⟩
theorem sq_upd (M : Nat → Int32) {v u h q : Nat} (X : Int32) (hv : v < 12) (hu : u < 40) (hh : h < 20) (hq : q < 72) : sq (upd M (mkN v u h) X) q = if q = sqN (colN v u) (rowN u h) then sq M q + (cl (upd M (mkN v u h) X) (colN v u) (rowN u h) - cl M (colN v u) (rowN u h)) else sq M q := by
  have hC := (col_both v hv u hu).2.2
  have hR := (row_both u hu h hh).2.2
  generalize hc0 : colN v u = C at *
  generalize hr0 : rowN u h = R at *
  have hcl : ∀ c r, c < 360 → ¬ (c = C ∧ r = R) → cl (upd M (mkN v u h) X) c r = cl M c r := fun c r h1 h2 => cl_upd M X hu hh h1 (by rw [hc0, hr0]; exact h2)
  generalize upd M (mkN v u h) X = M' at *
  by_cases e : q = sqN C R
  · rw [if_pos e]
    unfold sq
    have hlo : loN q = (if R < 10 then 0 else 10) ∧ q % 36 = C / 10 := by
      rw [e]
      unfold sqN loN
      by_cases h1 : R < 10
      · rw [if_pos h1, if_pos h1, if_neg (by omega)]; omega
      · rw [if_neg h1, if_neg h1, if_pos (by omega)]; omega
    have hRl : loN q + R % 10 = R := by
      rw [hlo.1]
      by_cases h1 : R < 10
      · rw [if_pos h1]; omega
      · rw [if_neg h1]; omega
    refine sm_at (k := C % 10) 10 (by omega) (fun i hi hn => ?_) ?_
    · refine sm_congr 10 (fun j hj => hcl _ _ (by omega) (fun q => ?_))
      rw [hlo.2] at q
      omega
    · refine sm_at (k := R % 10) 10 (by omega) (fun i hi hn => hcl _ _ (by omega) (fun q => ?_)) ?_
      · omega
      · rw [hRl, show 10 * (q % 36) + C % 10 = C by rw [hlo.2]; omega]
        rw [Int32.sub_eq_add_neg, ← a_1, Int32.add_comm (cl M C R), a_1, Int32.add_right_neg, Int32.add_zero]
  · rw [if_neg e]
    unfold sq
    refine sm_congr 10 (fun i hi => sm_congr 10 (fun j hj => hcl _ _ (by omega) (fun z => e ?_)))
    obtain ⟨z1, z2⟩ := z
    unfold sqN
    unfold loN at z2
    by_cases h1 : q < 36
    · rw [if_pos h1] at z2; rw [if_neg (by omega)]; omega
    · rw [if_neg h1] at z2; rw [if_pos (by omega)]; omega
/-- the rounds: the marks are the same, the store is right, the squares are counted -/
def RRd (A4 A6 : Nat → Nat → Int32) : Prop := A4 0 = A6 0 ∧ Cache A6 ∧ ∀ q, q < 72 → A4 1 q = sq (A4 0) q
theorem RRd.congr {A4 A6 B6 : Nat → Nat → Int32} (h : RRd A4 A6) (hA : ∀ j, j ≤ 2 → B6 j = A6 j) : RRd A4 B6 := by
  obtain ⟨h1, h2, h3⟩ := h
  refine ⟨by rw [hA 0 (by omega)]; exact h1, ?_, h3⟩
  unfold Cache
  rw [hA 0 (by omega), hA 1 (by omega), hA 2 (by omega)]
  exact h2
theorem RRd.seen {A4 A6 B6 : Nat → Nat → Int32} (h : RRd A4 A6) (hC : Cache B6) (hA : ∀ j, j ≠ 1 → j ≠ 2 → B6 j = A6 j) : RRd A4 B6 :=
  ⟨by rw [hA 0 (by omega) (by omega)]; exact h.1, hC, h.2.2⟩
theorem vb_idem (x : Int32) : vp_nar .byte (vp_nar .byte x) = vp_nar .byte x := by
  rw [vp_nar_byte x, pk_vb]
theorem rd_set {A4 A6 : Nat → Nat → Int32} (h : RRd A4 A6) {v u y : Nat} (hv : v < 12) (hu : u < 40) (hy : y < 20) {x : Int32} (hx : F_X4_isColour x = some 1) :
    ∃ B4 B6, F_X4_setMark A4 (nI v) (nI u) (nI y) x = some (1, B4) ∧ F_X6_puts A6 (nI v) (nI u) (nI y) x = some B6 ∧ RRd B4 B6 ∧ ∀ j, 2 < j → B6 j = A6 j := by
  obtain ⟨h1, h2, h3⟩ := h
  have hC := (col_both v hv u hu)
  have hR := (row_both u hu y hy)
  obtain ⟨hS, hS2⟩ := sq_of hC.2.2 hR.2.2
  have hm : mkN v u y < 9600 := by unfold mkN; omega
  have h10 : ¬ (1 : Int32) = 0 := by decide
  obtain ⟨M', hM'⟩ : ∃ M', M' = upd (A4 0) (mkN v u y) (vp_nar .byte (x.toInt8.toInt32)) := ⟨_, rfl⟩
  have hisq : F_X5_isSquare (nI (sqN (colN v u) (rowN u y))) = some 1 := by
    unfold F_X5_isSquare
    rw [if_neg (nI_pos (by omega)), show (72 : Int32) = nI 72 from rfl, if_neg (nI_ge hS2 (by decide))]
  refine ⟨va_up (va_up A4 0 M') 1 (upd (A4 1) (sqN (colN v u) (rowN u y)) (A4 1 (sqN (colN v u) (rowN u y)) + (cl M' (colN v u) (rowN u y) - cl (A4 0) (colN v u) (rowN u y)))), va_up (va_up A6 0 M') 2 (upd (A6 2) v 0), ?_, ?_, ?_, ?_⟩
  · unfold F_X4_setMark
    rw [nm_eq, nm_eq, isMark_nI hv hu hy, bd_some, if_neg h10, hx, bd_some, if_neg h10, hC.1, bd_some, hR.1, bd_some, va_spec hC.2.2 hR.2.2, bd_some]
    simp only [pim_nI, bd_some, hS, hisq, if_neg h10, nm_eq, ix_nI hm (show 9600 < 2 ^ 31 by decide), ix_nI hS2 (show 72 < 2 ^ 31 by decide), nI_clamp (show mkN v u y < 2 ^ 31 by omega), nI_clamp (show sqN (colN v u) (rowN u y) < 2 ^ 31 by omega)]
    rw [← hM']
    have e0 : va_up A4 0 M' 0 = M' := rfl
    have e1 : va_up A4 0 M' 1 = A4 1 := rfl
    rw [va_spec hC.2.2 hR.2.2, e0, bd_some, e1]
    unfold cl
    by_cases k1 : viewOf (A4 0) (colN v u) (rowN u y) = -1
    · by_cases k2 : viewOf M' (colN v u) (rowN u y) = -1
      · simp only [if_pos k1, if_pos k2, bd_some]
      · simp only [if_pos k1, if_neg k2, bd_some]
    · by_cases k2 : viewOf M' (colN v u) (rowN u y) = -1
      · simp only [if_neg k1, if_pos k2, bd_some]
      · simp only [if_neg k1, if_neg k2, bd_some]
  · unfold F_X6_puts
    rw [mk_nI, ix_nI hm (by decide), nI_clamp (by omega), nm_eq, ix_nI hv (by decide), nI_clamp (by omega), nm_eq, ← h1, ← hM']
    rfl
  · refine ⟨rfl, ⟨?_, ?_⟩, ?_⟩
    · intro k
      show vp_nar .byte (M' k) = M' k
      rw [hM', upd_at]
      by_cases e : k = mkN v u y
      · rw [if_pos e, vb_idem]
      · rw [if_neg e, h1]; exact h2.1 k
    · intro w hw
      show upd (A6 2) v 0 w = 0 ∨ ∀ c r, c < 360 → r < 20 → A6 1 (7200 * w + 20 * c + r) = pic M' w c r
      rw [upd_at]
      by_cases e : w = v
      · rw [if_pos e]; exact Or.inl rfl
      · rw [if_neg e]
        rcases h2.2 w hw with g | g
        · exact Or.inl g
        · refine Or.inr (fun c r hc hr => ?_)
          rw [hM', pic_upd _ _ hu hy (fun q => e q.1), h1]
          exact g c r hc hr
    · intro q hq
      show upd (A4 1) _ _ q = sq M' q
      rw [hM', sq_upd _ _ hv hu hy hq, upd_at]
      by_cases e : q = sqN (colN v u) (rowN u y)
      · rw [if_pos e, if_pos e, ← e, h3 q hq]
      · rw [if_neg e, if_neg e, h3 q hq]
  · intro j hj
    rw [upA_at, if_neg (by omega), upA_at, if_neg (by omega)]
theorem isCol_both (p : Int32) : (F_X4_isColour p = some 1 ∧ F_X6_isIn p 0 7 = some 1) ∨ (F_X4_isColour p = some 0 ∧ F_X6_isIn p 0 7 = some 0) := by
  unfold F_X4_isColour F_X6_isIn
  by_cases c1 : p < 0
  · rw [if_pos c1]; exact Or.inr ⟨rfl, rfl⟩
  rw [if_neg c1]
  by_cases c2 : 7 < p
  · rw [if_pos c2]; exact Or.inr ⟨rfl, rfl⟩
  rw [if_neg c2]; exact Or.inl ⟨rfl, rfl⟩
theorem rd_mark {A4 A6 : Nat → Nat → Int32} (h : RRd A4 A6) (p1 p2 p3 p4 : Int32) :
    ∃ r B4 B6, F_X5_mark A4 p1 p2 p3 p4 = some (r, B4) ∧ F_X6_mark A6 p1 p2 p3 p4 = some (r, B6) ∧ RRd B4 B6 ∧ ∀ j, 2 < j → B6 j = A6 j := by
  have h10 : ¬ (1 : Int32) = 0 := by decide
  unfold F_X5_mark F_X6_mark
  rcases isMark_both p1 p2 p3 with ⟨v, u, y, hv, hu, hy, rfl, rfl, rfl, f1, f2⟩ | ⟨f1, f2⟩
  · rw [f2, bd_some, if_neg h10]
    rcases isCol_both p4 with ⟨g1, g2⟩ | ⟨g1, g2⟩
    · obtain ⟨B4, B6, k1, k2, k3, k4⟩ := rd_set h hv hu hy g1
      rw [k1, g2, bd_some, bd_some, if_neg h10, k2, bd_some]
      exact ⟨1, B4, B6, rfl, rfl, k3, k4⟩
    · unfold F_X4_setMark
      rw [nm_eq, nm_eq, f1, g2, bd_some, if_neg h10, g1, bd_some, if_pos rfl, bd_some, bd_some, if_pos rfl]
      exact ⟨0, A4, A6, rfl, rfl, h, fun _ _ => rfl⟩
  · unfold F_X4_setMark
    rw [nm_eq, nm_eq, f1, f2, bd_some, if_pos rfl, bd_some, bd_some, if_pos rfl]
    exact ⟨0, A4, A6, rfl, rfl, h, fun _ _ => rfl⟩
