/-! contracts: a list of statements, as the class and as the model hold it -/
theorem app_get {α : Type} {l : List α} {a x : α} {i : Nat} (h : (l ++ [a])[i]? = some x) : (i < l.length ∧ l[i]? = some x) ∨ (i = l.length ∧ x = a) := by
  by_cases c : i < l.length
  · rw [List.getElem?_append_left c] at h; exact Or.inl ⟨c, h⟩
  · rw [List.getElem?_append_right (by omega)] at h
    by_cases e : i = l.length
    · subst e
      rw [Nat.sub_self] at h
      exact Or.inr ⟨rfl, (Option.some.inj h).symm⟩
    · rw [List.getElem?_eq_none (by simp; omega)] at h; cases h
theorem get_lt {α : Type} {l : List α} {x : α} {i : Nat} (h : l[i]? = some x) : i < l.length := by
  by_cases c : i < l.length
  · exact c
  · rw [List.getElem?_eq_none (by omega)] at h; cases h
abbrev TsT : Type := List (Int32 × Int32 × Int32)
abbrev StT : Type := Nat × Int32 × List (Int32 × Int32 × Int32)
def RepT (N S V : Nat → Int32) (b : Nat) (ts : TsT) : Prop := ∀ j t, ts[j]? = some t → N (b + j) = t.1 ∧ S (b + j) = t.2.1 ∧ V (b + j) = t.2.2
def RepM (A6 : Nat → Nat → Int32) (base : Nat) (sts : List StT) : Prop := ∀ i st, sts[i]? = some st → A6 23 (base + i) = nI st.1 ∧ A6 24 (base + i) = st.2.1 ∧ A6 25 (base + i) = nI st.2.2.length ∧ st.2.2.length ≤ 3 ∧ st.1 ≤ 2 ∧ RepT (A6 26) (A6 27) (A6 28) (3 * (base + i)) st.2.2
def isPt (st : StT) : Bool := st.1 == 2
def lastK (k : Nat) (d : Int32) (sts : List StT) : Int32 := sts.foldl (fun v st => if st.1 = k then st.2.1 else v) d
def RepC (S1 : Nat → Int32) (A1 : Nat → Nat → Int32) (sts : List StT) : Prop := S1 5 = nI (sts.filter isPt).length ∧ S1 6 = lastK 0 1 sts ∧ S1 7 = lastK 1 0 sts ∧ ∀ i st, (sts.filter isPt)[i]? = some st → A1 0 i = st.2.1 ∧ A1 1 i = nI st.2.2.length ∧ st.2.2.length ≤ 3 ∧ RepT (A1 2) (A1 3) (A1 4) (3 * i) st.2.2
theorem last_app (k : Nat) (d : Int32) (sts : List StT) (st : StT) : lastK k d (sts ++ [st]) = if st.1 = k then st.2.1 else lastK k d sts := by
  unfold lastK
  rw [List.foldl_append]
  rfl
theorem filt_app (sts : List StT) (st : StT) : (sts ++ [st]).filter isPt = if st.1 = 2 then sts.filter isPt ++ [st] else sts.filter isPt := by
  rw [List.filter_append]
  by_cases c : st.1 = 2
  · rw [if_pos c]
    have : isPt st = true := by unfold isPt; rw [c]; rfl
    rw [List.filter_cons_of_pos this]
    rfl
  · rw [if_neg c]
    have : ¬ isPt st = true := by unfold isPt; simp [c]
    rw [List.filter_cons_of_neg this]
    exact List.append_nil _
theorem filt_len (sts : List StT) : (sts.filter isPt).length ≤ sts.length := List.length_filter_le _ _
theorem repC_weeks {S1 : Nat → Int32} {A1 : Nat → Nat → Int32} {sts : List StT} (h : RepC S1 A1 sts) (v : Int32) : RepC (upd S1 6 v) A1 (sts ++ [(0, v, [])]) := by
  obtain ⟨h1, h2, h3, h4⟩ := h
  unfold RepC
  rw [filt_app, last_app, last_app]
  exact ⟨h1, rfl, h3, h4⟩
theorem repC_rent {S1 : Nat → Int32} {A1 : Nat → Nat → Int32} {sts : List StT} (h : RepC S1 A1 sts) (v : Int32) : RepC (upd S1 7 v) A1 (sts ++ [(1, v, [])]) := by
  obtain ⟨h1, h2, h3, h4⟩ := h
  unfold RepC
  rw [filt_app, last_app, last_app]
  exact ⟨h1, h2, rfl, h4⟩
theorem repC_part {S1 : Nat → Int32} {A1 : Nat → Nat → Int32} {sts : List StT} (h : RepC S1 A1 sts) (hl : sts.length < 12) (v : Int32) : ∃ S1' A1', F_X1_addPart S1 A1 v = some (S1', A1') ∧ RepC S1' A1' (sts ++ [(2, v, [])]) ∧ ∀ j, j ≠ 5 → S1' j = S1 j := by
  obtain ⟨h1, h2, h3, h4⟩ := h
  have hf := filt_len sts
  generalize hm : (sts.filter isPt).length = m at h1 hf
  unfold F_X1_addPart
  rw [h1, if_neg (nI_pos (by omega)), show (12 : Int32) = nI 12 from rfl, if_neg (nI_ge (by omega) (by decide)), ix_nI (by omega) (by decide), nI_clamp (by omega)]
  simp only [nm_p]
  rw [ix_nI (by omega) (by decide)]
  refine ⟨_, _, rfl, ?_, fun j hj => by rw [upd_at, if_neg hj]⟩
  unfold RepC
  rw [filt_app, last_app, last_app, if_pos rfl]
  refine ⟨?_, h2, h3, fun i st hg => ?_⟩
  · rw [upd_at, if_pos rfl, List.length_append, hm, nI_1]
    rfl
  · show upd (A1 0) m v i = st.2.1 ∧ upd (A1 1) m 0 i = nI st.2.2.length ∧ st.2.2.length ≤ 3 ∧ RepT (A1 2) (A1 3) (A1 4) (3 * i) st.2.2
    rcases app_get hg with ⟨a, b⟩ | ⟨a, b⟩
    · rw [upd_at, if_neg (by omega), upd_at, if_neg (by omega)]
      exact h4 i st b
    · subst b
      rw [hm] at a
      rw [upd_at, if_pos a, upd_at, if_pos a]
      exact ⟨rfl, rfl, Nat.zero_le 3, fun j t z => by simp at z⟩
theorem repC_test {S1 : Nat → Int32} {A1 : Nat → Nat → Int32} {sts : List StT} {v : Int32} {ts : TsT} (h : RepC S1 A1 (sts ++ [(2, v, ts)])) (hl : sts.length < 12) (ht : ts.length < 3) (a b c : Int32) : ∃ A1', F_X1_addTest S1 A1 a b c = some A1' ∧ RepC S1 A1' (sts ++ [(2, v, ts ++ [(a, b, c)])]) := by
  obtain ⟨h1, h2, h3, h4⟩ := h
  rw [filt_app, if_pos rfl] at h1 h4
  rw [last_app, if_neg (show ¬ (2 : Nat) = 0 by decide)] at h2
  rw [last_app, if_neg (show ¬ (2 : Nat) = 1 by decide)] at h3
  have hf := filt_len sts
  generalize hm : (sts.filter isPt).length = m at hf
  rw [List.length_append, hm] at h1
  have hlast := h4 m (2, v, ts) (by rw [List.getElem?_append_right (by omega), hm, Nat.sub_self]; rfl)
  have e1 : S1 5 - 1 = nI m := by rw [h1]; exact nI_pred m
  have hi : nI m * 3 + nI ts.length = nI (m * 3 + ts.length) := by rw [show (3 : Int32) = nI 3 from rfl, pk_mul, nI_add]
  unfold F_X1_addTest
  simp only [nm_p, e1]
  rw [if_neg (nI_pos (by omega)), show (12 : Int32) = nI 12 from rfl, if_pos (nI_lt (by omega) (by decide)), ix_nI (by omega) (by decide), nI_clamp (by omega), hlast.2.1]
  simp only [hi]
  rw [if_neg (nI_pos (by omega)), if_pos (by rw [show (3 : Int32) = nI 3 from rfl]; exact nI_lt ht (by decide))]
  simp only [ix_nI (show m * 3 + ts.length < 36 by omega) (show 36 < 2 ^ 31 by decide), ix_nI (show m < 12 by omega) (show 12 < 2 ^ 31 by decide), nI_clamp (show m * 3 + ts.length < 2 ^ 31 by omega)]
  refine ⟨_, rfl, ?_⟩
  unfold RepC
  rw [filt_app, if_pos rfl, last_app, if_neg (show ¬ (2 : Nat) = 0 by decide), last_app, if_neg (show ¬ (2 : Nat) = 1 by decide)]
  refine ⟨by rw [List.length_append, hm]; exact h1, h2, h3, fun i st hg => ?_⟩
  show A1 0 i = st.2.1 ∧ upd (A1 1) m (A1 1 m + 1) i = nI st.2.2.length ∧ st.2.2.length ≤ 3 ∧ RepT (upd (A1 2) (m * 3 + ts.length) a) (upd (A1 3) (m * 3 + ts.length) b) (upd (A1 4) (m * 3 + ts.length) c) (3 * i) st.2.2
  rcases app_get hg with ⟨x, y⟩ | ⟨x, y⟩
  · have h5 := h4 i st (by rw [List.getElem?_append_left x]; exact y)
    rw [upd_at, if_neg (by omega)]
    refine ⟨h5.1, h5.2.1, h5.2.2.1, fun j t z => ?_⟩
    have hj := get_lt z
    have h6 := h5.2.2.1
    rw [upd_at, if_neg (by omega), upd_at, if_neg (by omega), upd_at, if_neg (by omega)]
    exact h5.2.2.2 j t z
  · subst y
    rw [hm] at x
    subst x
    rw [upd_at, if_pos rfl, hlast.2.1, nI_1]
    refine ⟨hlast.1, by rw [List.length_append]; rfl, by rw [List.length_append]; show ts.length + 1 ≤ 3; omega, fun j t z => ?_⟩
    rcases app_get z with ⟨x, y⟩ | ⟨x, y⟩
    · rw [upd_at, if_neg (by omega), upd_at, if_neg (by omega), upd_at, if_neg (by omega)]
      exact hlast.2.2.2 j t y
    · subst y
      rw [upd_at, if_pos (by omega), upd_at, if_pos (by omega), upd_at, if_pos (by omega)]
      exact ⟨rfl, rfl, rfl⟩
/-- a statement's begin in the model -/
theorem repM_new {A6 B6 : Nat → Nat → Int32} {base : Nat} {sts : List StT} {k : Nat} {v : Int32} (h : RepM A6 base sts) (hk : k ≤ 2) (h23 : B6 23 = upd (A6 23) (base + sts.length) (nI k)) (h24 : B6 24 = upd (A6 24) (base + sts.length) v) (h25 : B6 25 = upd (A6 25) (base + sts.length) 0) (hB : ∀ j, 26 ≤ j → j ≤ 28 → B6 j = A6 j) : RepM B6 base (sts ++ [(k, v, [])]) := by
  intro i st hg
  rw [h23, h24, h25, hB 26 (by omega) (by omega), hB 27 (by omega) (by omega), hB 28 (by omega) (by omega)]
  rcases app_get hg with ⟨a, b⟩ | ⟨a, b⟩
  · rw [upd_at, if_neg (by omega), upd_at, if_neg (by omega), upd_at, if_neg (by omega)]
    exact h i st b
  · subst b
    rw [upd_at, if_pos (by omega), upd_at, if_pos (by omega), upd_at, if_pos (by omega)]
    exact ⟨rfl, rfl, rfl, Nat.zero_le 3, hk, fun j t z => by simp at z⟩
theorem repM_test {A6 B6 : Nat → Nat → Int32} {base : Nat} {sts : List StT} {v : Int32} {ts : TsT} {t : Int32 × Int32 × Int32} (h : RepM A6 base (sts ++ [(2, v, ts)])) (ht : ts.length < 3) (h23 : B6 23 = A6 23) (h24 : B6 24 = A6 24) (h25 : B6 25 = upd (A6 25) (base + sts.length) (nI (ts.length + 1))) (h26 : B6 26 = upd (A6 26) (3 * (base + sts.length) + ts.length) t.1) (h27 : B6 27 = upd (A6 27) (3 * (base + sts.length) + ts.length) t.2.1) (h28 : B6 28 = upd (A6 28) (3 * (base + sts.length) + ts.length) t.2.2) : RepM B6 base (sts ++ [(2, v, ts ++ [t])]) := by
  intro i st hg
  rw [h23, h24, h25, h26, h27, h28]
  rcases app_get hg with ⟨a, b⟩ | ⟨a, b⟩
  · have h5 := h i st (by rw [List.getElem?_append_left a]; exact b)
    rw [upd_at, if_neg (by omega)]
    refine ⟨h5.1, h5.2.1, h5.2.2.1, h5.2.2.2.1, h5.2.2.2.2.1, fun j u z => ?_⟩
    have hj := get_lt z
    have h6 := h5.2.2.2.1
    rw [upd_at, if_neg (by omega), upd_at, if_neg (by omega), upd_at, if_neg (by omega)]
    exact h5.2.2.2.2.2 j u z
  · have h5 := h sts.length (2, v, ts) (by rw [List.getElem?_append_right (by omega), Nat.sub_self]; rfl)
    subst b a
    rw [upd_at, if_pos rfl]
    refine ⟨h5.1, h5.2.1, by rw [List.length_append]; rfl, by rw [List.length_append]; show ts.length + 1 ≤ 3; omega, h5.2.2.2.2.1, fun j u z => ?_⟩
    rcases app_get z with ⟨x, y⟩ | ⟨x, y⟩
    · rw [upd_at, if_neg (by omega), upd_at, if_neg (by omega), upd_at, if_neg (by omega)]
      exact h5.2.2.2.2.2 j u y
    · subst y
      rw [upd_at, if_pos (by omega), upd_at, if_pos (by omega), upd_at, if_pos (by omega)]
      exact ⟨rfl, rfl, rfl⟩
/-- what a statement's reading for hall h leaves as it was -/
def FrM (h : Nat) (A6 B6 : Nat → Nat → Int32) : Prop := (∀ j, (j < 23 ∨ 28 < j) → B6 j = A6 j) ∧ (∀ j, 23 ≤ j → j ≤ 25 → ∀ i, i < 12 * h → B6 j i = A6 j i) ∧ ∀ j, 26 ≤ j → j ≤ 28 → ∀ i, i < 36 * h → B6 j i = A6 j i
theorem FrM.rf (h : Nat) (A6 : Nat → Nat → Int32) : FrM h A6 A6 := ⟨fun _ _ => rfl, fun _ _ _ _ _ => rfl, fun _ _ _ _ _ => rfl⟩
theorem FrM.tr {h : Nat} {A6 B6 C6 : Nat → Nat → Int32} (a : FrM h A6 B6) (b : FrM h B6 C6) : FrM h A6 C6 :=
  ⟨fun j hj => by rw [b.1 j hj, a.1 j hj], fun j h1 h2 i hi => by rw [b.2.1 j h1 h2 i hi, a.2.1 j h1 h2 i hi], fun j h1 h2 i hi => by rw [b.2.2 j h1 h2 i hi, a.2.2 j h1 h2 i hi]⟩
theorem FrM.up1 {h : Nat} {A6 : Nat → Nat → Int32} {k x : Nat} {y : Int32} (h1 : 23 ≤ k) (h2 : k ≤ 25) (hx : 12 * h ≤ x) : FrM h A6 (va_up A6 k (upd (A6 k) x y)) := by
  refine ⟨fun j hj => by rw [upA_at, if_neg (by omega)], fun j a b i hi => ?_, fun j a b i hi => by rw [upA_at, if_neg (by omega)]⟩
  rw [upA_at]
  by_cases e : j = k
  · rw [if_pos e, upd_at, if_neg (by omega), e]
  · rw [if_neg e]
/-- the same for a whole contract: the hall's number of statements may change too -/
def FrH (h : Nat) (A6 B6 : Nat → Nat → Int32) : Prop := (∀ j, (j < 22 ∨ 28 < j) → B6 j = A6 j) ∧ (∀ g, g < h → B6 22 g = A6 22 g) ∧ (∀ j, 23 ≤ j → j ≤ 25 → ∀ i, i < 12 * h → B6 j i = A6 j i) ∧ ∀ j, 26 ≤ j → j ≤ 28 → ∀ i, i < 36 * h → B6 j i = A6 j i
theorem FrM.toH {h : Nat} {A6 B6 : Nat → Nat → Int32} (a : FrM h A6 B6) : FrH h A6 B6 := ⟨fun j hj => a.1 j (by omega), fun g _ => by rw [a.1 22 (by omega)], a.2.1, a.2.2⟩
theorem FrH.tr {h : Nat} {A6 B6 C6 : Nat → Nat → Int32} (a : FrH h A6 B6) (b : FrH h B6 C6) : FrH h A6 C6 :=
  ⟨fun j hj => by rw [b.1 j hj, a.1 j hj], fun g hg => by rw [b.2.1 g hg, a.2.1 g hg], fun j h1 h2 i hi => by rw [b.2.2.1 j h1 h2 i hi, a.2.2.1 j h1 h2 i hi], fun j h1 h2 i hi => by rw [b.2.2.2 j h1 h2 i hi, a.2.2.2 j h1 h2 i hi]⟩
theorem FrH.up0 {h : Nat} {A6 : Nat → Nat → Int32} {x : Nat} {y : Int32} (hx : h ≤ x) : FrH h A6 (va_up A6 22 (upd (A6 22) x y)) := by
  refine ⟨fun j hj => by rw [upA_at, if_neg (by omega)], fun g hg => by rw [upA_at, if_pos rfl, upd_at, if_neg (by omega)], fun j a b i hi => by rw [upA_at, if_neg (by omega)], fun j a b i hi => by rw [upA_at, if_neg (by omega)]⟩
theorem FrH.tm {h n : Nat} {A6 B6 : Nat → Nat → Int32} {T : Nat → Nat} (a : FrH h A6 B6) (t : TM A6 T n) : TM B6 T n := ⟨t.1, fun j hj => by rw [a.1 16 (by omega)]; exact t.2 j hj⟩
theorem FrM.tm {h n : Nat} {A6 B6 : Nat → Nat → Int32} {T : Nat → Nat} (a : FrM h A6 B6) (t : TM A6 T n) : TM B6 T n := ⟨t.1, fun j hj => by rw [a.1 16 (by omega)]; exact t.2 j hj⟩
def FrS (S6 T6 : Nat → Int32) : Prop := ∀ j, j ≠ 19 → j ≠ 33 → j ≠ 34 → T6 j = S6 j
theorem FrS.tr {S6 T6 U6 : Nat → Int32} (a : FrS S6 T6) (b : FrS T6 U6) : FrS S6 U6 := fun j h1 h2 h3 => by rw [b j h1 h2 h3, a j h1 h2 h3]
def Fr0 (S0 T0 : Nat → Int32) : Prop := ∀ j, (j < 3 ∨ 5 < j) → T0 j = S0 j
theorem Fr0.tr {S0 T0 U0 : Nat → Int32} (a : Fr0 S0 T0) (b : Fr0 T0 U0) : Fr0 S0 U0 := fun j h => by rw [b j h, a j h]
