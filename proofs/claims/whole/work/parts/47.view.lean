/-! the model's viewAt -/
def awW (v c : Nat) : Int32 := if 0 ≤ ((30 * nI v) - nI c) then ((30 * nI v) - nI c) else 0 - ((30 * nI v) - nI c)
def awI (v c : Nat) : Int32 := if (360 - awW v c) < awW v c then (360 - awW v c) else awW v c
def vLoop (M : Nat → Int32) (c r : Nat) : Nat → Nat → Int32 → Int32 → Int32
  | 0, _, b, _ => b
  | k + 1, v, b, l => if pic M v c r = 0 then vLoop M c r k (v + 1) b l else if b = -1 then vLoop M c r k (v + 1) (nI v) (awI v c) else if awI v c < l then vLoop M c r k (v + 1) (nI v) (awI v c) else vLoop M c r k (v + 1) b l
def viewOf (M : Nat → Int32) (c r : Nat) : Int32 := vLoop M c r 12 0 (-1) 0
theorem mv_loop {J : Int32 → (Nat → Nat → Int32) → Option (Int32 × (Nat → Nat → Int32))} {M : Nat → Int32} {c r : Nat} (hc : c < 360) (hr : r < 20) :
    ∀ (k v n : Nat) (b l : Int32) (A6 : Nat → Nat → Int32), v + k = 12 → k + 1 ≤ n → Cache A6 → A6 0 = M → ∃ B6, L_X6_viewAt_7 J n (nI (20 * c + r)) b l (nI v) A6 = J (vLoop M c r k v b l) B6 ∧ Cache B6 ∧ ∀ j, j ≠ 1 → j ≠ 2 → B6 j = A6 j := by
  have ed : nI (20 * c + r) / 20 = nI c := by rw [show (20 : Int32) = nI 20 from rfl, pk_div (by omega) (by decide) (by decide)]; congr 1; omega
  intro k
  induction k with
  | zero =>
    intro v n b l A6 h1 h2 hC hM
    obtain ⟨n, rfl⟩ : ∃ k, n = k + 1 := ⟨n - 1, by omega⟩
    refine ⟨A6, ?_, hC, fun _ _ _ => rfl⟩
    rw [L_X6_viewAt_7.eq_2, nm_eq, nm_eq, if_pos (by rw [show (12 : Int32) = nI 12 from rfl, nI_leI (by decide) (by omega)]; omega)]
    rfl
  | succ k ih =>
    intro v n b l A6 h1 h2 hC hM
    obtain ⟨n, rfl⟩ : ∃ k, n = k + 1 := ⟨n - 1, by omega⟩
    obtain ⟨C6, f1, f2, f3⟩ := ci_spec hC (v := v) (by omega) hc hr
    have e0 : C6 0 = M := by rw [f3 0 (by omega) (by omega), hM]
    rw [L_X6_viewAt_7.eq_2, nm_eq, nm_eq, if_neg (by rw [show (12 : Int32) = nI 12 from rfl, nI_leI (by decide) (by omega)]; omega), f1, bd_some, hM]
    have go : ∀ b l, ∃ B6, L_X6_viewAt_7 J n (nI (20 * c + r)) b l (nI (v + 1)) C6 = J (vLoop M c r k (v + 1) b l) B6 ∧ Cache B6 ∧ ∀ j, j ≠ 1 → j ≠ 2 → B6 j = A6 j := by
      intro b l
      obtain ⟨B6, g1, g2, g3⟩ := ih (v + 1) n b l C6 (by omega) (by omega) f2 e0
      exact ⟨B6, g1, g2, fun j a b => by rw [g3 j a b, f3 j a b]⟩
    rw [vLoop]
    by_cases c0 : pic M v c r = 0
    · rw [if_pos c0, if_pos c0]
      show ∃ B6, L_X6_viewAt_7 J n (nI (20 * c + r)) b l (nI v + 1) C6 = _ ∧ _
      rw [nI_1]
      exact go b l
    · rw [if_neg c0, if_neg c0, ed, nm_eq, nm_eq]
      by_cases c1 : b = -1
      · rw [if_pos c1, if_pos c1]
        show ∃ B6, L_X6_viewAt_7 J n (nI (20 * c + r)) (nI v) (awI v c) (nI v + 1) C6 = _ ∧ _
        rw [nI_1]
        exact go _ _
      · rw [if_neg c1, if_neg c1]
        by_cases c2 : awI v c < l
        · rw [if_pos c2]
          have c3 : (if (360 - awW v c) < awW v c then (360 - awW v c) else awW v c) < l := c2
          unfold awW at c3
          rw [if_pos c3]
          show ∃ B6, L_X6_viewAt_7 J n (nI (20 * c + r)) (nI v) (awI v c) (nI v + 1) C6 = _ ∧ _
          rw [nI_1]
          exact go _ _
        · rw [if_neg c2]
          have c3 : ¬ (if (360 - awW v c) < awW v c then (360 - awW v c) else awW v c) < l := c2
          unfold awW at c3
          rw [if_neg c3]
          show ∃ B6, L_X6_viewAt_7 J n (nI (20 * c + r)) b l (nI v + 1) C6 = _ ∧ _
          rw [nI_1]
          exact go _ _
theorem mv_spec {A6 : Nat → Nat → Int32} (h : Cache A6) {c r : Nat} (hc : c < 360) (hr : r < 20) : ∃ B6, F_X6_viewAt A6 (nI (20 * c + r)) = some (viewOf (A6 0) c r, B6) ∧ Cache B6 ∧ ∀ j, j ≠ 1 → j ≠ 2 → B6 j = A6 j := by
  obtain ⟨B6, g1, g2, g3⟩ := mv_loop (J := fun (x2 : Int32) (A6 : Nat → Nat → Int32) => some (x2, A6)) hc hr 12 0 FU (-1) 0 A6 (by omega) (by unfold FU; omega) h rfl
  exact ⟨B6, g1, g2, g3⟩
/-- the same from the other end -/
theorem hV_last (M : Nat → Int32) (v u c r : Nat) : ∀ (k h : Nat) (a : Int32), hV M v u c r (k + 1) h a = if colN v u = c ∧ rowN u (h + k) = r ∧ M (mkN v u (h + k)) ≠ 0 then M (mkN v u (h + k)) else hV M v u c r k h a := by
  intro k
  induction k with
  | zero => intro h a; rfl
  | succ k ih =>
    intro h a
    rw [hV, ih (h + 1), show h + 1 + k = h + (k + 1) by omega]
    rfl
theorem uV_last (M : Nat → Int32) (v c r : Nat) : ∀ (k u : Nat) (a : Int32), uV M v c r (k + 1) u a = hV M v (u + k) c r 20 0 (uV M v c r k u a) := by
  intro k
  induction k with
  | zero => intro u a; rfl
  | succ k ih =>
    intro u a
    rw [uV, ih (u + 1), show u + 1 + k = u + (k + 1) by omega]
    rfl
/-- a strip that doesn't stand in the column changes nothing -/
theorem hV_other (M : Nat → Int32) {v u c r : Nat} (h : colN v u ≠ c) : ∀ (k i : Nat) (a : Int32), hV M v u c r k i a = a := by
  intro k
  induction k with
  | zero => intro i a; rfl
  | succ k ih => intro i a; rw [hV, ih, if_neg (fun q => h q.1)]
/-- what a strip has in a row, 0 if nothing -/
def strip (M : Nat → Int32) (v u r : Nat) : Nat → Int32
  | 0 => 0
  | k + 1 => if rowN u k = r ∧ M (mkN v u k) ≠ 0 then M (mkN v u k) else strip M v u r k
theorem hV_strip (M : Nat → Int32) {v u c r : Nat} (h : colN v u = c) : ∀ (k : Nat) (a : Int32), hV M v u c r k 0 a = if strip M v u r k = 0 then a else strip M v u r k := by
  intro k
  induction k with
  | zero => intro a; rfl
  | succ k ih =>
    intro a
    rw [hV_last, Nat.zero_add, strip]
    by_cases e : rowN u k = r ∧ M (mkN v u k) ≠ 0
    · rw [if_pos ⟨h, e⟩, if_pos e, if_neg e.2]
    · rw [if_neg (fun q => e q.2), if_neg e]; exact ih a
