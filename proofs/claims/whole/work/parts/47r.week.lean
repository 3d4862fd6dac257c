/-! week, hallOf -/
def holdI (wk pe co : Int32) (t : Int32 × Int32 × Int32) : Int32 :=
  if t.2.1 = 60 then (if t.2.2 ≤ (if t.1 = 0 then wk else if t.1 = 1 then pe else co) then 0 else 1) else if t.2.1 = 62 then (if (if t.1 = 0 then wk else if t.1 = 1 then pe else co) ≤ t.2.2 then 0 else 1) else (if (if t.1 = 0 then wk else if t.1 = 1 then pe else co) = t.2.2 then 1 else 0)
theorem hold_01 (wk pe co : Int32) (t : Int32 × Int32 × Int32) : holdI wk pe co t = 0 ∨ holdI wk pe co t = 1 := by
  unfold holdI
  generalize (if t.1 = 0 then wk else if t.1 = 1 then pe else co) = v
  by_cases c1 : t.2.1 = 60
  · rw [if_pos c1]
    by_cases c : t.2.2 ≤ v
    · rw [if_pos c]; exact Or.inl rfl
    · rw [if_neg c]; exact Or.inr rfl
  · rw [if_neg c1]
    by_cases c2 : t.2.1 = 62
    · rw [if_pos c2]
      by_cases c : v ≤ t.2.2
      · rw [if_pos c]; exact Or.inl rfl
      · rw [if_neg c]; exact Or.inr rfl
    · rw [if_neg c2]
      by_cases c : v = t.2.2
      · rw [if_pos c]; exact Or.inr rfl
      · rw [if_neg c]; exact Or.inl rfl
def allT (wk pe co : Int32) : TsT → Int32
  | [] => 1
  | t :: r => if holdI wk pe co t = 0 then 0 else allT wk pe co r
theorem all_01 (wk pe co : Int32) : ∀ ts : TsT, allT wk pe co ts = 0 ∨ allT wk pe co ts = 1 := by
  intro ts
  induction ts with
  | nil => exact Or.inr rfl
  | cons t r ih =>
    rw [allT]
    by_cases c : holdI wk pe co t = 0
    · rw [if_pos c]; exact Or.inl rfl
    · rw [if_neg c]; exact ih
def shr (wk pe co : Int32) : List StT → Int32
  | [] => 50
  | st :: r => if st.1 = 2 ∧ allT wk pe co st.2.2 ≠ 0 then st.2.1 else shr wk pe co r
theorem shr_filt (wk pe co : Int32) : ∀ sts : List StT, shr wk pe co (sts.filter isPt) = shr wk pe co sts := by
  intro sts
  induction sts with
  | nil => rfl
  | cons st r ih =>
    by_cases c : st.1 = 2
    · have : isPt st = true := by unfold isPt; rw [c]; rfl
      rw [List.filter_cons_of_pos this, shr, shr, ih]
    · have : ¬ isPt st = true := by unfold isPt; simp [c]
      rw [List.filter_cons_of_neg this, ih, shr, if_neg (fun z => c z.1)]
/-! the class -/
theorem x_holds {S1 : Nat → Int32} {A1 : Nat → Nat → Int32} {k : Nat} {t : Int32 × Int32 × Int32} (hk : k < 36) (h2 : A1 2 k = t.1) (h3 : A1 3 k = t.2.1) (h4 : A1 4 k = t.2.2) (pe co : Int32) : F_X1_holds S1 A1 (nI k) pe co = some (holdI (S1 8) pe co t) := by
  unfold F_X1_holds F_X1_valueOf
  rw [if_neg (nI_pos (by omega)), show (36 : Int32) = nI 36 from rfl, if_pos (nI_lt hk (by decide))]
  simp only [ix_nI hk (show 36 < 2 ^ 31 by decide), nI_clamp (show k < 2 ^ 31 by omega), h2, h3, h4]
  have e : (if t.1 = 0 then some (S1 8) else if t.1 = 1 then some pe else some co) = some (if t.1 = 0 then S1 8 else if t.1 = 1 then pe else co) := by
    by_cases c0 : t.1 = 0
    · rw [if_pos c0, if_pos c0]
    · rw [if_neg c0, if_neg c0]
      by_cases c1 : t.1 = 1
      · rw [if_pos c1, if_pos c1]
      · rw [if_neg c1, if_neg c1]
  rw [e, bd_some]
  unfold holdI
  generalize (if t.1 = 0 then S1 8 else if t.1 = 1 then pe else co) = v
  by_cases c1 : t.2.1 = 60
  · rw [if_pos c1, if_pos c1]
    by_cases c : t.2.2 ≤ v
    · rw [if_pos c, if_pos c]
    · rw [if_neg c, if_neg c]
  · rw [if_neg c1, if_neg c1]
    by_cases c2 : t.2.1 = 62
    · rw [if_pos c2, if_pos c2]
      by_cases c : v ≤ t.2.2
      · rw [if_pos c, if_pos c]
      · rw [if_neg c, if_neg c]
    · rw [if_neg c2, if_neg c2]
      by_cases c : v = t.2.2
      · rw [if_pos c, if_pos c]
      · rw [if_neg c, if_neg c]
theorem x_all {S1 : Nat → Int32} {A1 : Nat → Nat → Int32} {m : Nat} (hm : m < 12) (pe co : Int32) {ts : TsT} (hl : ts.length ≤ 3) (h1 : A1 1 m = nI ts.length) (hT : RepT (A1 2) (A1 3) (A1 4) (3 * m) ts) :
    ∀ (suf pre : TsT) (n' : Nat), ts = pre ++ suf → suf.length + 1 ≤ n' → L_X1_allHold_15 S1 A1 (some 1) n' (nI m) pe co (nI pre.length) = some (allT (S1 8) pe co suf) := by
  intro suf
  induction suf with
  | nil =>
    intro pre n' e1 e2
    obtain ⟨n', rfl⟩ : ∃ k, n' = k + 1 := ⟨n' - 1, by simp at e2; omega⟩
    rw [List.append_nil] at e1
    subst e1
    rw [L_X1_allHold_15.eq_2, ix_nI hm (by decide), nI_clamp (by omega), h1, if_pos (nI_le (Nat.le_refl _) (by omega))]
    rfl
  | cons t r ih =>
    intro pre n' e1 e2
    obtain ⟨n', rfl⟩ : ∃ k, n' = k + 1 := ⟨n' - 1, by simp at e2; omega⟩
    have el : ts.length = pre.length + (r.length + 1) := by rw [e1, List.length_append]; rfl
    have hg : ts[pre.length]? = some t := by rw [e1, List.getElem?_append_right (Nat.le_refl _), Nat.sub_self]; rfl
    obtain ⟨g1, g2, g3⟩ := hT pre.length t hg
    have ek : nI m * 3 + nI pre.length = nI (3 * m + pre.length) := by rw [show (3 : Int32) = nI 3 from rfl, pk_mul, nI_add, Nat.mul_comm]
    rw [L_X1_allHold_15.eq_2, ix_nI hm (by decide), nI_clamp (by omega), h1, if_neg (nI_ge (by omega) (by omega)), show (3 : Int32) = nI 3 from rfl, if_neg (nI_ge (by omega) (by decide))]
    rw [show (nI 3 : Int32) = 3 from rfl, ek, x_holds (t := t) (by omega) g1 g2 g3, bd_some, allT]
    by_cases c : holdI (S1 8) pe co t = 0
    · rw [if_pos c, if_pos c]
    · rw [if_neg c, if_neg c, nm_eq, nI_1]
      have := ih (pre ++ [t]) n' (by rw [List.append_assoc]; exact e1) (by simp at e2; omega)
      rw [List.length_append] at this
      exact this
theorem x_share {S1 : Nat → Int32} {A1 : Nat → Nat → Int32} {ps : List StT} (hps : ps.length ≤ 12) (h5 : S1 5 = nI ps.length) (hp : ∀ st, st ∈ ps → st.1 = 2) (hA : ∀ i st, ps[i]? = some st → A1 0 i = st.2.1 ∧ A1 1 i = nI st.2.2.length ∧ st.2.2.length ≤ 3 ∧ RepT (A1 2) (A1 3) (A1 4) (3 * i) st.2.2) (pe co : Int32) :
    ∀ (suf pre : List StT) (n' : Nat), ps = pre ++ suf → suf.length + 1 ≤ n' → L_X1_shareFor_2 S1 A1 (some 50) n' pe co (nI pre.length) = some (shr (S1 8) pe co suf) := by
  intro suf
  induction suf with
  | nil =>
    intro pre n' e1 e2
    obtain ⟨n', rfl⟩ : ∃ k, n' = k + 1 := ⟨n' - 1, by simp at e2; omega⟩
    rw [List.append_nil] at e1
    subst e1
    rw [L_X1_shareFor_2.eq_2, h5, if_pos (nI_le (Nat.le_refl _) (by omega))]
    rfl
  | cons st r ih =>
    intro pre n' e1 e2
    obtain ⟨n', rfl⟩ : ∃ k, n' = k + 1 := ⟨n' - 1, by simp at e2; omega⟩
    have el : ps.length = pre.length + (r.length + 1) := by rw [e1, List.length_append]; rfl
    have hg : ps[pre.length]? = some st := by rw [e1, List.getElem?_append_right (Nat.le_refl _), Nat.sub_self]; rfl
    obtain ⟨g1, g2, g3, g4⟩ := hA pre.length st hg
    have hk2 : st.1 = 2 := hp st (by rw [e1]; simp)
    have hall : F_X1_allHold S1 A1 (nI pre.length) pe co = some (allT (S1 8) pe co st.2.2) := by
      unfold F_X1_allHold
      rw [nm_eq, if_neg (nI_pos (by omega)), show (12 : Int32) = nI 12 from rfl, if_pos (nI_lt (by omega) (by decide))]
      exact x_all (by omega) pe co g3 g2 g4 st.2.2 [] FU rfl (by unfold FU; omega)
    rw [L_X1_shareFor_2.eq_2, h5, if_neg (nI_ge (by omega) (by omega)), show (12 : Int32) = nI 12 from rfl, if_neg (nI_ge (by omega) (by decide)), hall, bd_some, shr]
    by_cases c : allT (S1 8) pe co st.2.2 = 0
    · rw [if_pos c, if_neg (fun z => z.2 c), nm_eq, nI_1]
      have := ih (pre ++ [st]) n' (by rw [List.append_assoc]; exact e1) (by simp at e2; omega)
      rw [List.length_append] at this
      exact this
    · rw [if_neg c, if_pos ⟨hk2, c⟩, ix_nI (by omega) (by decide), nI_clamp (by omega), g1]
/-! the model -/
theorem m_last {A6 : Nat → Nat → Int32} {g : Nat} {sts : List StT} (hg : g < 12) (hl : sts.length ≤ 12) (h22 : A6 22 g = nI sts.length) (hM : RepM A6 (12 * g) sts) {k : Nat} (hk : k ≤ 2) :
    ∀ (suf pre : List StT) (n' : Nat) (v : Int32), sts = pre ++ suf → suf.length + 1 ≤ n' → L_X6_lastOf_9 A6 (fun x4 => some x4) n' (nI g) (nI k) v (nI (12 * g + pre.length)) = some (suf.foldl (fun v st => if st.1 = k then st.2.1 else v) v) := by
  have hcg : (nI g).toNatClampNeg = g := nI_clamp (by omega)
  have e12 : 12 * nI g + nI sts.length = nI (12 * g + sts.length) := by rw [show (12 : Int32) = nI 12 from rfl, pk_mul, nI_add]
  intro suf
  induction suf with
  | nil =>
    intro pre n' v e1 e2
    obtain ⟨n', rfl⟩ : ∃ k, n' = k + 1 := ⟨n' - 1, by simp at e2; omega⟩
    rw [List.append_nil] at e1
    subst e1
    rw [L_X6_lastOf_9.eq_2, nm_eq, ix_nI (by omega) (by decide), hcg, h22, e12, if_pos (nI_le (Nat.le_refl _) (by omega))]
    rfl
  | cons st r ih =>
    intro pre n' v e1 e2
    obtain ⟨n', rfl⟩ : ∃ k, n' = k + 1 := ⟨n' - 1, by simp at e2; omega⟩
    have el : sts.length = pre.length + (r.length + 1) := by rw [e1, List.length_append]; rfl
    obtain ⟨g1, g2, -, -, g5, -⟩ := hM pre.length st (by rw [e1, List.getElem?_append_right (Nat.le_refl _), Nat.sub_self]; rfl)
    have go : ∀ v, L_X6_lastOf_9 A6 (fun x4 => some x4) n' (nI g) (nI k) v (nI (12 * g + pre.length + 1)) = some (r.foldl (fun v st => if st.1 = k then st.2.1 else v) v) := by
      intro v
      have := ih (pre ++ [st]) n' v (by rw [List.append_assoc]; exact e1) (by simp at e2; omega)
      rw [List.length_append] at this
      exact this
    rw [L_X6_lastOf_9.eq_2]
    simp only [nm_p, ix_nI (show g < 13 by omega) (show 13 < 2 ^ 31 by decide), hcg, h22, e12, ix_nI (show 12 * g + pre.length < 156 by omega) (show 156 < 2 ^ 31 by decide), nI_clamp (show 12 * g + pre.length < 2 ^ 31 by omega), g1, g2, nI_1]
    rw [if_neg (nI_ge (by omega) (by omega)), List.foldl_cons]
    by_cases c : st.1 = k
    · rw [if_pos (by rw [c]), if_pos c]; exact go _
    · rw [if_neg (by rw [nI_eq (by omega) (by omega)]; exact c), if_neg c]; exact go _
theorem m_lastOf {A6 : Nat → Nat → Int32} {g : Nat} {sts : List StT} (hg : g < 12) (hl : sts.length ≤ 12) (h22 : A6 22 g = nI sts.length) (hM : RepM A6 (12 * g) sts) {k : Nat} (hk : k ≤ 2) (d : Int32) : F_X6_lastOf A6 (nI g) (nI k) d = some (lastK k d sts) := by
  unfold F_X6_lastOf
  have e : 12 * nI g = nI (12 * g) := by rw [show (12 : Int32) = nI 12 from rfl, pk_mul]
  rw [nm_eq, nm_eq, e]
  exact m_last hg hl h22 hM hk sts [] FU d rfl (by unfold FU; omega)
theorem m_tests {A6 : Nat → Nat → Int32} {J : Int32 → Int32 → Int32 → Int32 → Int32 → Int32 → Option Int32} {s : Nat} (hs : s < 156) (x1 wk pe co : Int32) {ts : TsT} (hl : ts.length ≤ 3) (h25 : A6 25 s = nI ts.length) (hT : RepT (A6 26) (A6 27) (A6 28) (3 * s) ts) :
    ∀ (suf pre : TsT) (n' : Nat) (x6 : Int32), ts = pre ++ suf → suf.length + 1 ≤ n' → (x6 = 0 ∨ x6 = 1) → L_X6_partOf_46 A6 J n' x1 wk pe co (nI s) x6 (nI (3 * s + pre.length)) = J x1 wk pe co (nI s) (if x6 = 0 then 0 else allT wk pe co suf) := by
  have hcs : (nI s).toNatClampNeg = s := nI_clamp (by omega)
  have e3 : 3 * nI s + nI ts.length = nI (3 * s + ts.length) := by rw [show (3 : Int32) = nI 3 from rfl, pk_mul, nI_add]
  have h10 : ¬ (1 : Int32) = 0 := by decide
  intro suf
  induction suf with
  | nil =>
    intro pre n' x6 e1 e2 h6
    obtain ⟨n', rfl⟩ : ∃ k, n' = k + 1 := ⟨n' - 1, by simp at e2; omega⟩
    rw [List.append_nil] at e1
    subst e1
    rw [L_X6_partOf_46.eq_2]
    simp only [nm_p]
    rw [ix_nI hs (by decide), hcs, h25, e3, if_pos (nI_le (Nat.le_refl _) (by omega))]
    congr 1
    rcases h6 with z | z
    · rw [z, if_pos rfl]
    · rw [z, if_neg h10]; rfl
  | cons t r ih =>
    intro pre n' x6 e1 e2 h6
    obtain ⟨n', rfl⟩ : ∃ k, n' = k + 1 := ⟨n' - 1, by simp at e2; omega⟩
    have el : ts.length = pre.length + (r.length + 1) := by rw [e1, List.length_append]; rfl
    obtain ⟨g1, g2, g3⟩ := hT pre.length t (by rw [e1, List.getElem?_append_right (Nat.le_refl _), Nat.sub_self]; rfl)
    have go : ∀ x6, (x6 = 0 ∨ x6 = 1) → L_X6_partOf_46 A6 J n' x1 wk pe co (nI s) x6 (nI (3 * s + pre.length + 1)) = J x1 wk pe co (nI s) (if x6 = 0 then 0 else allT wk pe co r) := by
      intro x6 z
      have := ih (pre ++ [t]) n' x6 (by rw [List.append_assoc]; exact e1) (by simp at e2; omega) z
      rw [List.length_append] at this
      exact this
    rw [L_X6_partOf_46.eq_2]
    simp only [nm_p, ix_nI hs (show 156 < 2 ^ 31 by decide), hcs, h25, e3, ix_nI (show 3 * s + pre.length < 468 by omega) (show 468 < 2 ^ 31 by decide), nI_clamp (show 3 * s + pre.length < 2 ^ 31 by omega), g1, g2, g3, nI_1, go 0 (Or.inl rfl), go 1 (Or.inr rfl)]
    rw [if_neg (nI_ge (by omega) (by omega)), allT]
    have fin : ∀ v : Int32, v = (if t.1 = 0 then wk else if t.1 = 1 then pe else co) → (if x6 = 0 then J x1 wk pe co (nI s) (if (0 : Int32) = 0 then 0 else allT wk pe co r) else if t.2.1 = 60 then (if t.2.2 ≤ v then J x1 wk pe co (nI s) (if (0 : Int32) = 0 then 0 else allT wk pe co r) else J x1 wk pe co (nI s) (if (1 : Int32) = 0 then 0 else allT wk pe co r)) else if t.2.1 = 62 then (if v ≤ t.2.2 then J x1 wk pe co (nI s) (if (0 : Int32) = 0 then 0 else allT wk pe co r) else J x1 wk pe co (nI s) (if (1 : Int32) = 0 then 0 else allT wk pe co r)) else (if v = t.2.2 then J x1 wk pe co (nI s) (if (1 : Int32) = 0 then 0 else allT wk pe co r) else J x1 wk pe co (nI s) (if (0 : Int32) = 0 then 0 else allT wk pe co r))) = J x1 wk pe co (nI s) (if x6 = 0 then 0 else if holdI wk pe co t = 0 then 0 else allT wk pe co r) := by
      intro v hv
      unfold holdI
      rw [← hv, if_neg h10, if_pos (rfl : (0 : Int32) = 0)]
      by_cases c0 : x6 = 0
      · rw [if_pos c0, if_pos c0]
      rw [if_neg c0, if_neg c0]
      by_cases c1 : t.2.1 = 60
      · rw [if_pos c1, if_pos c1]
        by_cases c : t.2.2 ≤ v
        · rw [if_pos c, if_pos c, if_pos rfl]
        · rw [if_neg c, if_neg c, if_neg h10]
      rw [if_neg c1, if_neg c1]
      by_cases c2 : t.2.1 = 62
      · rw [if_pos c2, if_pos c2]
        by_cases c : v ≤ t.2.2
        · rw [if_pos c, if_pos c, if_pos rfl]
        · rw [if_neg c, if_neg c, if_neg h10]
      rw [if_neg c2, if_neg c2]
      by_cases c : v = t.2.2
      · rw [if_pos c, if_pos c, if_neg h10]
      · rw [if_neg c, if_neg c, if_pos rfl]
    by_cases c0 : t.1 = 0
    · rw [if_pos c0]; exact fin wk (by rw [if_pos c0])
    · rw [if_neg c0]
      by_cases c1 : t.1 = 1
      · rw [if_pos c1]; exact fin pe (by rw [if_neg c0, if_pos c1])
      · rw [if_neg c1]; exact fin co (by rw [if_neg c0, if_neg c1])
theorem m_part {A6 : Nat → Nat → Int32} {g : Nat} {sts : List StT} (hg : g < 12) (hl : sts.length ≤ 12) (h22 : A6 22 g = nI sts.length) (hM : RepM A6 (12 * g) sts) (wk pe co : Int32) :
    ∀ (suf pre : List StT) (n' : Nat), sts = pre ++ suf → suf.length + 1 ≤ n' → L_X6_partOf_6 A6 (some 50) n' (nI g) wk pe co (nI (12 * g + pre.length)) = some (shr wk pe co suf) := by
  have hcg : (nI g).toNatClampNeg = g := nI_clamp (by omega)
  have e12 : 12 * nI g + nI sts.length = nI (12 * g + sts.length) := by rw [show (12 : Int32) = nI 12 from rfl, pk_mul, nI_add]
  have h10 : ¬ (1 : Int32) = 0 := by decide
  intro suf
  induction suf with
  | nil =>
    intro pre n' e1 e2
    obtain ⟨n', rfl⟩ : ∃ k, n' = k + 1 := ⟨n' - 1, by simp at e2; omega⟩
    rw [List.append_nil] at e1
    subst e1
    rw [L_X6_partOf_6.eq_2]
    simp only [nm_p]
    rw [ix_nI (by omega) (by decide), hcg, h22, e12, if_pos (nI_le (Nat.le_refl _) (by omega))]
    rfl
  | cons st r ih =>
    intro pre n' e1 e2
    obtain ⟨n', rfl⟩ : ∃ k, n' = k + 1 := ⟨n' - 1, by simp at e2; omega⟩
    have el : sts.length = pre.length + (r.length + 1) := by rw [e1, List.length_append]; rfl
    obtain ⟨g1, g2, g3, g4, g5, g6⟩ := hM pre.length st (by rw [e1, List.getElem?_append_right (Nat.le_refl _), Nat.sub_self]; rfl)
    have go : L_X6_partOf_6 A6 (some 50) n' (nI g) wk pe co (nI (12 * g + pre.length + 1)) = some (shr wk pe co r) := by
      have := ih (pre ++ [st]) n' (by rw [List.append_assoc]; exact e1) (by simp at e2; omega)
      rw [List.length_append] at this
      exact this
    have hs : 12 * g + pre.length < 156 := by omega
    have e3 : 3 * nI (12 * g + pre.length) = nI (3 * (12 * g + pre.length)) := by rw [show (3 : Int32) = nI 3 from rfl, pk_mul]
    have mt : ∀ x6 : Int32, (x6 = 0 ∨ x6 = 1) → L_X6_partOf_46 A6 (fun (x1 : Int32) (x2 : Int32) (x3 : Int32) (x4 : Int32) (x5 : Int32) (x6 : Int32) => if x6 = 0 then L_X6_partOf_6 A6 (some 50) n' x1 x2 x3 x4 (x5 + 1) else ix x5 156 (some (A6 24 (x5).toNatClampNeg))) FU (nI g) wk pe co (nI (12 * g + pre.length)) x6 (nI (3 * (12 * g + pre.length))) = (if (if x6 = 0 then 0 else allT wk pe co st.2.2) = 0 then some (shr wk pe co r) else some st.2.1) := by
      intro x6 z
      have q := m_tests (J := fun (x1 : Int32) (x2 : Int32) (x3 : Int32) (x4 : Int32) (x5 : Int32) (x6 : Int32) => if x6 = 0 then L_X6_partOf_6 A6 (some 50) n' x1 x2 x3 x4 (x5 + 1) else ix x5 156 (some (A6 24 (x5).toNatClampNeg))) hs (nI g) wk pe co g4 g3 g6 st.2.2 [] FU x6 rfl (by unfold FU; omega) z
      have q' : L_X6_partOf_46 A6 (fun (x1 : Int32) (x2 : Int32) (x3 : Int32) (x4 : Int32) (x5 : Int32) (x6 : Int32) => if x6 = 0 then L_X6_partOf_6 A6 (some 50) n' x1 x2 x3 x4 (x5 + 1) else ix x5 156 (some (A6 24 (x5).toNatClampNeg))) FU (nI g) wk pe co (nI (12 * g + pre.length)) x6 (nI (3 * (12 * g + pre.length))) = (if (if x6 = 0 then 0 else allT wk pe co st.2.2) = 0 then L_X6_partOf_6 A6 (some 50) n' (nI g) wk pe co (nI (12 * g + pre.length) + 1) else ix (nI (12 * g + pre.length)) 156 (some (A6 24 (nI (12 * g + pre.length)).toNatClampNeg))) := q
      rw [q', nI_1, go, ix_nI hs (by decide), nI_clamp (by omega), g2]
    rw [L_X6_partOf_6.eq_2]
    simp only [nm_p]
    rw [ix_nI (by omega) (by decide), hcg, h22, e12, if_neg (nI_ge (by omega) (by omega)), ix_nI hs (by decide), nI_clamp (by omega), g1, e3, mt 1 (Or.inr rfl), mt 0 (Or.inl rfl), shr]
    by_cases c : st.1 = 2
    · rw [if_pos (by rw [c]; rfl), if_neg h10]
      by_cases c2 : allT wk pe co st.2.2 = 0
      · rw [if_pos c2, if_neg (fun z => z.2 c2)]
      · rw [if_neg c2, if_pos ⟨c, c2⟩]
    · rw [if_neg (by rw [show (2 : Int32) = nI 2 from rfl, nI_eq (by omega) (by decide)]; exact c), if_pos rfl, if_pos rfl, if_neg (fun z => c z.1)]
/-! the two together -/
theorem hNo_cases {S5 : Nat → Int32} {f : Nat → Option Nat} {HL : HLp} {S1 S6 : Nat → Int32} {A6 : Nat → Nat → Int32} {G6 : Nat → Nat → Int64} (hH : RHs S5 f HL S1 S6 A6 G6) (q1 : Int32) : (hNo f q1 = none ∧ F_X6_isIn q1 0 (S6 21 - 1) = some 0) ∨ ∃ g x, g < HL.length ∧ HL[g]? = some x ∧ hNo f q1 = some (x.1 0) ∧ q1 = nI g ∧ F_X6_isIn q1 0 (S6 21 - 1) = some 1 := by
  obtain ⟨h1, h2, h3, h4, h5, h6, h7, h8⟩ := hH
  have e1 : (nI HL.length - 1).toInt = (HL.length : Int) - 1 := by rw [show (1 : Int32) = nI 1 from rfl, pk_sub_toInt (by omega) (by decide)]; rfl
  unfold hNo F_X6_isIn
  rw [h3]
  by_cases c1 : q1 < 0
  · rw [if_pos c1, if_pos c1]; exact Or.inl ⟨rfl, rfl⟩
  obtain ⟨g, hg, rfl⟩ := nI_of c1
  rw [if_neg c1, if_neg c1]
  by_cases c2 : g < HL.length
  · rw [if_neg (show ¬ (12 : Int32) ≤ nI g by rw [show (12 : Int32) = nI 12 from rfl]; exact nI_ge (by omega) (by decide)), nI_clamp hg, h5 g (by omega), if_neg (by rw [i_lt, e1, nI_toInt hg]; omega)]
    have hx : HL[g]? = some HL[g] := List.getElem?_eq_getElem c2
    exact Or.inr ⟨g, HL[g], c2, hx, by rw [hx]; rfl, rfl, rfl⟩
  · refine Or.inl ⟨?_, by rw [if_pos (by rw [i_lt, e1, nI_toInt hg]; omega)]⟩
    by_cases c3 : (12 : Int32) ≤ nI g
    · rw [if_pos c3]
    · rw [if_neg c3, nI_clamp hg, h5 g (by rw [show (12 : Int32) = nI 12 from rfl, nI_leI (by decide) hg] at c3; omega), List.getElem?_eq_none (by omega)]
      rfl
theorem split_at {α : Type} {l : List α} {g : Nat} {x : α} (h : l[g]? = some x) : ∃ l1 l2, l = l1 ++ x :: l2 ∧ l1.length = g := by
  have hl := get_lt h
  refine ⟨l.take g, l.drop (g + 1), ?_, by rw [List.length_take]; omega⟩
  have e : l[g] = x := by rw [List.getElem?_eq_getElem hl] at h; exact Option.some.inj h
  rw [← e, ← List.drop_eq_getElem_cons hl, List.take_append_drop]
theorem told_both (p : Int32) : (F_X5_isTold p = some 1 ∧ F_X6_isIn p 0 99999 = some 1) ∨ (F_X5_isTold p = some 0 ∧ F_X6_isIn p 0 99999 = some 0) := by
  unfold F_X5_isTold F_X6_isIn
  by_cases c1 : p < 0
  · rw [if_pos c1]; exact Or.inr ⟨rfl, rfl⟩
  rw [if_neg c1]
  by_cases c2 : 99999 < p
  · rw [if_pos c2]; exact Or.inr ⟨rfl, rfl⟩
  rw [if_neg c2]; exact Or.inl ⟨rfl, rfl⟩
theorem min_both (a b : Int32) : (if a < b then a else b) = (if b < a then b else a) := by
  by_cases c : a < b
  · rw [if_pos c, if_neg (by rw [i_lt] at c ⊢; omega)]
  · rw [if_neg c]
    by_cases c2 : b < a
    · rw [if_pos c2]
    · rw [if_neg c2, i_eq]
      rw [i_lt] at c c2
      omega
theorem le_nlt {a b : Int32} : a ≤ b ↔ ¬ b < a := by rw [i_le, i_lt]; omega
/-- a week of one hall -/
theorem wk_both {S6 : Nat → Int32} {A6 AH : Nat → Nat → Int32} {SH : Nat → Int32} {G6 : Nat → Nat → Int64} {g : Nat} (hg : g < 12) (h : RHall g SH AH A6 G6) (hin : F_X6_isIn (nI g) 0 (S6 21 - 1) = some 1) (p2 p3 : Int32) :
    ∃ r SH' A6' G6', F_X5_week SH AH p2 p3 = some (r, SH') ∧ F_X6_week S6 A6 G6 (nI g) p2 p3 = some (r, A6', G6') ∧ RHall g SH' AH A6' G6' ∧ (∀ j, j ≠ 29 → j ≠ 30 → A6' j = A6 j) ∧ (∀ i, i ≠ g → A6' 29 i = A6 29 i ∧ A6' 30 i = A6 30 i ∧ G6' 31 i = G6 31 i ∧ G6' 32 i = G6 32 i) := by
  have h10 : ¬ (1 : Int32) = 0 := by decide
  obtain ⟨sts, a1, a2, a3, a4, a5, a6, a7, a8⟩ := id h
  obtain ⟨c5, c6, c7, c8⟩ := id a4
  have hcg : (nI g).toNatClampNeg = g := nI_clamp (by omega)
  have same : ∃ r SH' A6' G6', some ((-1 : Int32), SH) = some (r, SH') ∧ some ((-1 : Int32), A6, G6) = some (r, A6', G6') ∧ RHall g SH' AH A6' G6' ∧ (∀ j, j ≠ 29 → j ≠ 30 → A6' j = A6 j) ∧ (∀ i, i ≠ g → A6' 29 i = A6 29 i ∧ A6' 30 i = A6 30 i ∧ G6' 31 i = G6 31 i ∧ G6' 32 i = G6 32 i) := ⟨-1, SH, A6, G6, rfl, rfl, h, fun _ _ _ => rfl, fun _ _ => ⟨rfl, rfl, rfl, rfl⟩⟩
  unfold F_X5_week F_X6_week
  rw [hin, bd_some, if_neg h10, ix_nI hg (by decide), show (0 : Int32) = nI 0 from rfl, m_lastOf hg a1 a2 a3 (k := 0) (by decide), bd_some, hcg, show (nI 0 : Int32) = 0 from rfl, ← a5, ← c6]
  rcases told_both p2 with ⟨t1, t2⟩ | ⟨t1, t2⟩
  rotate_left
  · rw [t1, bd_some, if_pos rfl, t2, bd_some, if_pos rfl]
    by_cases c : SH 6 ≤ SH 8
    · rw [if_pos c]; exact same
    · rw [if_neg c]; exact same
  rw [t1, bd_some, if_neg h10, t2, bd_some, if_neg h10]
  rcases told_both p3 with ⟨t3, t4⟩ | ⟨t3, t4⟩
  rotate_left
  · rw [t3, bd_some, if_pos rfl, t4, bd_some, if_pos rfl]
    by_cases c : SH 6 ≤ SH 8
    · rw [if_pos c]; exact same
    · rw [if_neg c]; exact same
  rw [t3, bd_some, if_neg h10, t4, bd_some, if_neg h10]
  unfold F_X1_passWeek
  by_cases c : SH 8 < SH 6
  rotate_left
  · rw [if_neg c, if_pos (le_nlt.mpr c)]; exact same
  rw [if_pos c, if_neg (fun z => (le_nlt.mp z) c)]
  simp only [ix_nI hg (show 12 < 2 ^ 31 by decide), hcg, nm_eq, ← a5]
  obtain ⟨B6, hB⟩ : ∃ B6, B6 = va_up A6 29 (upd (A6 29) g (SH 8 + 1)) := ⟨_, rfl⟩
  rw [← hB]
  have b22 : B6 22 g = nI sts.length := by rw [hB]; exact a2
  have bM : RepM B6 (12 * g) sts := by
    intro i st hi
    rw [hB, upA_at, if_neg (by decide), upA_at, if_neg (by decide), upA_at, if_neg (by decide), upA_at, if_neg (by decide), upA_at, if_neg (by decide), upA_at, if_neg (by decide)]
    exact a3 i st hi
  have b29 : B6 29 g = SH 8 + 1 := by rw [hB, upA_at, if_pos rfl, upd_at, if_pos rfl]
  have ml := m_lastOf hg a1 b22 bM (k := 1) (by decide) 0
  have ml' : F_X6_lastOf B6 (nI g) 1 0 = some (lastK 1 0 sts) := ml
  have e12 : 12 * nI g = nI (12 * g) := by rw [show (12 : Int32) = nI 12 from rfl, pk_mul]
  have mp : F_X6_partOf B6 (nI g) (SH 8 + 1) p2 p3 = some (shr (SH 8 + 1) p2 p3 sts) := by
    unfold F_X6_partOf
    rw [nm_eq, nm_eq, e12]
    exact m_part hg a1 b22 bM (SH 8 + 1) p2 p3 sts [] FU rfl (by unfold FU; omega)
  have u8 : upd SH 8 (SH 8 + 1) 8 = SH 8 + 1 := rfl
  have xs : F_X1_shareFor (upd SH 8 (SH 8 + 1)) AH p2 p3 = some (shr (SH 8 + 1) p2 p3 sts) := by
    unfold F_X1_shareFor
    have hf := filt_len sts
    have q := x_share (S1 := upd SH 8 (SH 8 + 1)) (A1 := AH) (ps := sts.filter isPt) (by omega) c5 (fun st hst => by
      have := (List.mem_filter.mp hst).2
      unfold isPt at this
      simpa using this) c8 p2 p3 (sts.filter isPt) [] FU rfl (by unfold FU; omega)
    rw [shr_filt] at q
    rw [nm_eq]
    exact q
  rw [ml', bd_some, b29, mp, bd_some, xs, bd_some, ← c7, min_both (SH 7) p3]
  have u7 : upd SH 8 (SH 8 + 1) 7 = SH 7 := rfl
  rw [u7]
  generalize ((p3 - if p3 < SH 7 then p3 else SH 7) * shr (SH 8 + 1) p2 p3 sts / 100) = w
  refine ⟨w, _, _, _, rfl, rfl, ?_, ?_, ?_⟩
  · refine ⟨sts, a1, ?_, ?_, ⟨c5, c6, c7, c8⟩, ?_, ?_, ?_, ?_⟩
    · rw [upA_at, if_neg (by decide)]; exact b22
    · intro i st hi
      rw [upA_at, if_neg (by decide), upA_at, if_neg (by decide), upA_at, if_neg (by decide), upA_at, if_neg (by decide), upA_at, if_neg (by decide), upA_at, if_neg (by decide)]
      exact bM i st hi
    · rw [upA_at, if_neg (by decide), b29]
      rfl
    · rw [upA_at, if_neg (by decide), upA_at, if_pos rfl, updL_at, if_pos rfl, lg_l2i_add, lg_l2i_i2l, ← a6]
      rfl
    · rw [upA_at, if_pos rfl, updL_at, if_pos rfl, upA_at, if_neg (by decide), lg_l2i_add, lg_l2i_i2l, ← a7]
      rfl
    · show SH 11 + p2 = va_up B6 30 (upd (B6 30) g (B6 30 g + p2)) 30 g
      rw [upA_at, if_pos rfl, upd_at, if_pos rfl, hB, upA_at, if_neg (by decide), ← a8]
  · intro j x y
    rw [upA_at, if_neg y, hB, upA_at, if_neg x]
  · intro i hi
    refine ⟨?_, ?_, ?_, ?_⟩
    · rw [upA_at, if_neg (by decide), hB, upA_at, if_pos rfl, upd_at, if_neg hi]
    · rw [upA_at, if_pos rfl, upd_at, if_neg hi, hB, upA_at, if_neg (by decide)]
    · rw [upA_at, if_neg (by decide), upA_at, if_pos rfl, updL_at, if_neg hi]
    · rw [upA_at, if_pos rfl, updL_at, if_neg hi, upA_at, if_neg (by decide)]
theorem hl_week1 {S5 : Nat → Int32} {f : Nat → Option Nat} {HL : HLp} {S1 S6 : Nat → Int32} {A6 : Nat → Nat → Int32} {G6 : Nat → Nat → Int64} (hH : RHs S5 f HL S1 S6 A6 G6) {q1 : Int32} {t : Nat} (ht : hNo f q1 = some t) (p2 p3 : Int32) :
    ∃ (l1 l2 : HLp) (aH : Nat → Nat) (SH : Nat → Int32) (AH : Nat → Nat → Int32) (r : Int32) (SH' : Nat → Int32) (A6' : Nat → Nat → Int32) (G6' : Nat → Nat → Int64), HL = l1 ++ (aH, SH, AH) :: l2 ∧ aH 0 = t ∧ F_X5_week SH AH p2 p3 = some (r, SH') ∧ F_X6_week S6 A6 G6 q1 p2 p3 = some (r, A6', G6') ∧ RHs S5 f (l1 ++ (aH, SH', AH) :: l2) S1 S6 A6' G6' ∧ ∀ j, j ≠ 29 → j ≠ 30 → A6' j = A6 j := by
  rcases hNo_cases hH q1 with ⟨z1, -⟩ | ⟨g, x, g1, g2, g3, rfl, g5⟩
  · rw [z1] at ht; cases ht
  rw [g3] at ht
  obtain ⟨l1, l2, e1, e2⟩ := split_at g2
  obtain ⟨aH, SH, AH⟩ := x
  obtain ⟨h1, h2, h3, h4, h5, h6, h7, h8⟩ := hH
  obtain ⟨r, SH', A6', G6', w1, w2, w3, w4, w5⟩ := wk_both (S6 := S6) (by omega) (h6 g _ g2) g5 p2 p3
  refine ⟨l1, l2, aH, SH, AH, r, SH', A6', G6', e1, Option.some.inj ht, w1, w2, ?_, w4⟩
  have el : (l1 ++ (aH, SH', AH) :: l2).length = HL.length := by rw [e1, List.length_append, List.length_append]; rfl
  have eg : ∀ j, j ≠ g → (l1 ++ (aH, SH', AH) :: l2)[j]? = HL[j]? := by
    intro j hj
    rw [e1]
    by_cases c : j < l1.length
    · rw [List.getElem?_append_left c, List.getElem?_append_left c]
    · rw [List.getElem?_append_right (by omega), List.getElem?_append_right (by omega)]
      obtain ⟨i, hi⟩ : ∃ i, j - l1.length = i + 1 := ⟨j - l1.length - 1, by omega⟩
      rw [hi]
      rfl
  have eg2 : (l1 ++ (aH, SH', AH) :: l2)[g]? = some (aH, SH', AH) := by rw [List.getElem?_append_right (by omega), e2, Nat.sub_self]; rfl
  refine ⟨by rw [el]; exact h1, by rw [el]; exact h2, by rw [el]; exact h3, h4, fun j hj => ?_, fun j y hy => ?_, h7, fun j j1 j2 => ?_⟩
  · by_cases e : j = g
    · rw [e, eg2, h5 g (by omega), g2]; rfl
    · rw [eg j e]; exact h5 j hj
  · by_cases e : j = g
    · rw [e, eg2] at hy
      rw [e, ← Option.some.inj hy]
      exact w3
    · rw [eg j e] at hy
      obtain ⟨sts, b1, b2, b3, b4, b5, b6, b7, b8⟩ := h6 j y hy
      obtain ⟨k1, k2, k3, k4⟩ := w5 j e
      refine ⟨sts, b1, by rw [w4 22 (by decide) (by decide)]; exact b2, ?_, b4, by rw [k1]; exact b5, by rw [k3]; exact b6, by rw [k4]; exact b7, by rw [k2]; exact b8⟩
      intro i st hi
      rw [w4 23 (by decide) (by decide), w4 24 (by decide) (by decide), w4 25 (by decide) (by decide), w4 26 (by decide) (by decide), w4 27 (by decide) (by decide), w4 28 (by decide) (by decide)]
      exact b3 i st hi
  · rw [el] at j1
    obtain ⟨k1, k2, k3, k4⟩ := w5 j (by omega)
    rw [k1, k2, k3, k4]
    exact h8 j j1 j2
theorem hl_week0 {S5 : Nat → Int32} {f : Nat → Option Nat} {HL : HLp} {S1 S6 : Nat → Int32} {A6 : Nat → Nat → Int32} {G6 : Nat → Nat → Int64} (hH : RHs S5 f HL S1 S6 A6 G6) {q1 : Int32} (ht : hNo f q1 = none) (p2 p3 : Int32) : F_X6_week S6 A6 G6 q1 p2 p3 = some (-1, A6, G6) := by
  rcases hNo_cases hH q1 with ⟨-, z2⟩ | ⟨g, x, g1, g2, g3, -⟩
  · unfold F_X6_week
    rw [z2, bd_some, if_pos rfl]
  · rw [g3] at ht; cases ht
theorem hl_of0 {S5 : Nat → Int32} {f : Nat → Option Nat} {HL : HLp} {S1 S6 : Nat → Int32} {A6 : Nat → Nat → Int32} {G6 : Nat → Nat → Int64} (hH : RHs S5 f HL S1 S6 A6 G6) {q1 : Int32} (ht : hNo f q1 = none) (p2 : Int32) : F_X6_hallOf S6 A6 G6 q1 p2 = some (-1) := by
  rcases hNo_cases hH q1 with ⟨-, z2⟩ | ⟨g, x, g1, g2, g3, -⟩
  · unfold F_X6_hallOf
    rw [z2, bd_some, if_pos rfl]
  · rw [g3] at ht; cases ht
theorem hl_of1 {S5 : Nat → Int32} {f : Nat → Option Nat} {HL : HLp} {S1 S6 : Nat → Int32} {A6 : Nat → Nat → Int32} {G6 : Nat → Nat → Int64} (hH : RHs S5 f HL S1 S6 A6 G6) {q1 : Int32} {t : Nat} (ht : hNo f q1 = some t) (p2 : Int32) :
    ∃ (l1 l2 : HLp) (aH : Nat → Nat) (SH : Nat → Int32) (AH : Nat → Nat → Int32) (r : Int32), HL = l1 ++ (aH, SH, AH) :: l2 ∧ aH 0 = t ∧ F_X1_tell SH p2 = some r ∧ F_X6_hallOf S6 A6 G6 q1 p2 = some r := by
  have h10 : ¬ (1 : Int32) = 0 := by decide
  rcases hNo_cases hH q1 with ⟨z1, -⟩ | ⟨g, x, g1, g2, g3, rfl, g5⟩
  · rw [z1] at ht; cases ht
  rw [g3] at ht
  obtain ⟨l1, l2, e1, e2⟩ := split_at g2
  obtain ⟨aH, SH, AH⟩ := x
  obtain ⟨h1, -, -, -, -, h6, -, -⟩ := hH
  obtain ⟨sts, a1, a2, a3, ⟨c5, c6, c7, c8⟩, a5, a6, a7, a8⟩ := h6 g _ g2
  have hg : g < 12 := by omega
  have c6 : SH 6 = lastK 0 1 sts := c6
  have c7 : SH 7 = lastK 1 0 sts := c7
  have m0 : F_X6_lastOf A6 (nI g) 0 1 = some (SH 6) := by rw [c6]; exact m_lastOf hg a1 a2 a3 (k := 0) (by decide) 1
  have m1 : F_X6_lastOf A6 (nI g) 1 0 = some (SH 7) := by rw [c7]; exact m_lastOf hg a1 a2 a3 (k := 1) (by decide) 0
  have a5 : SH 8 = A6 29 g := a5
  have a6 : SH 9 = (G6 31 g).toInt32 := a6
  have a7 : SH 10 = (G6 32 g).toInt32 := a7
  have a8 : SH 11 = A6 30 g := a8
  suffices hs : ∃ r, F_X1_tell SH p2 = some r ∧ F_X6_hallOf S6 A6 G6 (nI g) p2 = some r by
    obtain ⟨r, r1, r2⟩ := hs
    exact ⟨l1, l2, aH, SH, AH, r, e1, Option.some.inj ht, r1, r2⟩
  unfold F_X1_tell F_X6_hallOf
  rw [g5, bd_some, if_neg h10]
  simp only [ix_nI hg (show 12 < 2 ^ 31 by decide), nI_clamp (show g < 2 ^ 31 by omega), ← a5, ← a6, ← a7, ← a8, m0, m1, bd_some]
  by_cases k0 : p2 = 0
  · rw [if_pos k0]; exact ⟨_, rfl, rfl⟩
  rw [if_neg k0]
  by_cases k1 : p2 = 1
  · rw [if_pos k1]; exact ⟨_, rfl, rfl⟩
  rw [if_neg k1]
  by_cases k2 : p2 = 2
  · rw [if_pos k2]; exact ⟨_, rfl, rfl⟩
  rw [if_neg k2]
  by_cases k3 : p2 = 3
  · rw [if_pos k3]; exact ⟨_, rfl, rfl⟩
  rw [if_neg k3]
  by_cases k4 : p2 = 4
  · rw [if_pos k4]; exact ⟨_, rfl, rfl⟩
  rw [if_neg k4]
  by_cases k5 : p2 = 5
  · rw [if_pos k5]; exact ⟨_, rfl, rfl⟩
  rw [if_neg k5]
  exact ⟨_, rfl, rfl⟩
