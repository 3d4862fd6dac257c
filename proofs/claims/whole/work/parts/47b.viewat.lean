/-! the class's viewAt is the model's -/
def vB (P : Nat → Bool) (c : Nat) : Nat → Nat → Int32 → Int32 → Int32
  | 0, _, b, _ => b
  | k + 1, v, b, l => if P v = false then vB P c k (v + 1) b l else if b = -1 then vB P c k (v + 1) (nI v) (awI v c) else if awI v c < l then vB P c k (v + 1) (nI v) (awI v c) else vB P c k (v + 1) b l
theorem vB_eq (M : Nat → Int32) (P : Nat → Bool) {c r : Nat} : ∀ (k v : Nat) (b l : Int32), (∀ i, v ≤ i → i < v + k → (pic M i c r = 0 ↔ P i = false)) → vLoop M c r k v b l = vB P c k v b l := by
  intro k
  induction k with
  | zero => intro v b l _; rfl
  | succ k ih =>
    intro v b l h
    have h0 := h v (by omega) (by omega)
    have hr : ∀ b l, vLoop M c r k (v + 1) b l = vB P c k (v + 1) b l := fun b l => ih (v + 1) b l (fun i h1 h2 => h i (by omega) (by omega))
    rw [vLoop, vB]
    simp only [hr]
    by_cases e : P v = false
    · rw [if_pos (h0.mpr e), if_pos e]
    · rw [if_neg (fun q => e (h0.mp q)), if_neg e]
def leN (c : Nat) : Nat := c / 30
def riN (c : Nat) : Nat := (c / 30 + 1) % 12
def fiB (c : Nat) : Bool := decide (c % 30 < 15) || (decide (c % 30 = 15) && decide (leN c < riN c))
def neN (c : Nat) : Nat := if fiB c then leN c else riN c
def otN (c : Nat) : Nat := if fiB c then riN c else leN c
def vbP (c : Nat) (x y : Bool) : Nat → Bool := fun i => (i == neN c && x) || (i == otN c && y)
theorem vB_dec : ∀ c, c < 360 → ∀ x y : Bool, vB (vbP c x y) c 12 0 (-1) 0 = if x then nI (neN c) else if y then nI (otN c) else -1 := by decide +kernel
theorem ne_lt {c : Nat} (hc : c < 360) : neN c < 12 ∧ otN c < 12 := by
  unfold neN otN leN riN
  cases fiB c
  · simp only [Bool.false_eq_true, if_false]; omega
  · simp only [if_true]; omega
theorem pic_else (M : Nat → Int32) {c r i : Nat} (hc : c < 360) (hi : i < 12) (h1 : i ≠ neN c) (h2 : i ≠ otN c) : pic M i c r = 0 := by
  refine pic_out M hi hc ?_
  have h3 : i ≠ leN c ∧ i ≠ riN c := by
    unfold neN at h1
    unfold otN at h2
    cases hf : fiB c with
    | false => rw [hf] at h1 h2; exact ⟨h2, h1⟩
    | true => rw [hf] at h1 h2; exact ⟨h1, h2⟩
  unfold leN riN at h3
  unfold offN
  omega
theorem ne_ot {c : Nat} (hc : c < 360) : neN c ≠ otN c := by
  unfold neN otN leN riN
  cases fiB c
  · simp only [Bool.false_eq_true, if_false]; omega
  · simp only [if_true]; omega
/-- the place's view, told by the two beside it -/
theorem viewOf_eq (M : Nat → Int32) {c r : Nat} (hc : c < 360) : viewOf M c r = if pic M (neN c) c r ≠ 0 then nI (neN c) else if pic M (otN c) c r ≠ 0 then nI (otN c) else -1 := by
  unfold viewOf
  rw [vB_eq M (vbP c (decide (pic M (neN c) c r ≠ 0)) (decide (pic M (otN c) c r ≠ 0))) 12 0 (-1) 0, vB_dec c hc]
  · simp only [decide_eq_true_eq]
  · intro i _ hi
    have h3 := ne_ot hc
    unfold vbP
    by_cases e1 : i = neN c
    · subst e1
      by_cases e2 : pic M (neN c) c r = 0
      · simp [e2, h3]
      · simp [e2]
    · by_cases e3 : i = otN c
      · subst e3
        by_cases e2 : pic M (otN c) c r = 0
        · simp [e2, e1]
        · simp [e2]
      · rw [pic_else M hc (by omega) e1 e3]
        simp [e1, e3]
theorem va_spec {A4 : Nat → Nat → Int32} {c r : Nat} (hc : c < 360) (hr : r < 20) : F_X4_viewAt A4 (nI c) (nI r) = some (viewOf (A4 0) c r) := by
  obtain ⟨hn, ho⟩ := ne_lt hc
  rw [viewOf_eq _ hc]
  unfold F_X4_viewAt
  have e1 : nI c / 30 = nI (leN c) := by rw [show (30 : Int32) = nI 30 from rfl, pk_div (by omega) (by decide) (by decide)]; rfl
  have e2 : (nI (leN c) + 1) - (nI (leN c) + 1) / 12 * 12 = nI (riN c) := by
    rw [nI_1, show (12 : Int32) = nI 12 from rfl, pk_rem (by unfold leN; omega) (by decide) (by decide)]; rfl
  have e3 : nI c - nI (leN c) * 30 = nI (c % 30) := by
    rw [← e1, show (30 : Int32) = nI 30 from rfl, pk_rem (by omega) (by decide) (by decide)]
  have e4 : 30 - nI (c % 30) = nI (30 - c % 30) := by rw [show (30 : Int32) = nI 30 from rfl, pk_sub (by omega)]
  simp only [nm_eq, e1, e2, e3, e4]
  have fin : ∀ a b : Nat, a < 12 → b < 12 → (bd (F_X4_colourShown A4 (nI a) (nI c) (nI r)) fun z_1 => if z_1 = 0 then (bd (F_X4_colourShown A4 (nI b) (nI c) (nI r)) fun z_3 => if z_3 = 0 then some (-1) else some (nI b)) else some (nI a)) = some (if pic (A4 0) a c r ≠ 0 then nI a else if pic (A4 0) b c r ≠ 0 then nI b else -1) := by
    intro a b ha hb
    rw [sh_spec ha hc hr, bd_some, sh_spec hb hc hr, bd_some]
    by_cases k1 : pic (A4 0) a c r = 0
    · by_cases k2 : pic (A4 0) b c r = 0
      · simp [k1, k2]
      · simp [k1, k2]
    · simp [k1]
  have h10 : ¬ (1 : Int32) = 0 := by decide
  have h00 : (0 : Int32) = 0 := rfl
  by_cases k : fiB c = true
  · have en : neN c = leN c := by unfold neN; rw [if_pos k]
    have eo : otN c = riN c := by unfold otN; rw [if_pos k]
    rw [en] at hn ⊢
    rw [eo] at ho ⊢
    simp only [if_neg h10]
    by_cases k1 : c % 30 < 15
    · rw [if_pos (nI_lt (by omega) (by omega))]
      exact fin _ _ hn ho
    · have k2 : c % 30 = 15 ∧ leN c < riN c := by
        unfold fiB at k
        simp at k
        omega
      rw [if_neg (nI_nlt (by omega) (by omega)), if_pos (by congr 1; omega), if_neg (nI_ge k2.2 (by omega))]
      exact fin _ _ hn ho
  · have k : fiB c = false := by cases h : fiB c <;> simp_all
    have en : neN c = riN c := by unfold neN; rw [k]; rfl
    have eo : otN c = leN c := by unfold otN; rw [k]; rfl
    rw [en] at hn ⊢
    rw [eo] at ho ⊢
    have k1 : ¬ c % 30 < 15 ∧ ¬ (c % 30 = 15 ∧ leN c < riN c) := by
      unfold fiB at k
      simp at k
      omega
    rw [if_neg (nI_nlt (by omega) (by omega))]
    by_cases k3 : c % 30 = 15
    · rw [if_pos (by congr 1; omega), if_pos (nI_le (by omega) (by omega))]
      exact fin _ _ hn ho
    · rw [if_neg (by rw [nI_eq (by omega) (by omega)]; omega)]
      exact fin _ _ hn ho
theorem viewOf_cases (M : Nat → Int32) {c r : Nat} (hc : c < 360) : viewOf M c r = -1 ∨ ∃ w, w < 12 ∧ viewOf M c r = nI w := by
  rw [viewOf_eq M hc]
  by_cases k1 : pic M (neN c) c r ≠ 0
  · rw [if_pos k1]; exact Or.inr ⟨_, (ne_lt hc).1, rfl⟩
  rw [if_neg k1]
  by_cases k2 : pic M (otN c) c r ≠ 0
  · rw [if_pos k2]; exact Or.inr ⟨_, (ne_lt hc).2, rfl⟩
  rw [if_neg k2]; exact Or.inl rfl
