/-! tokens: the class's and the model's words, numbers, signs -/
def valF (f : Nat → Nat) : Nat → Nat
  | 0 => 0
  | m + 1 => valF f m * 256 + f m
def nvF (f : Nat → Nat) : Nat → Nat
  | 0 => 0
  | m + 1 => nvF f m * 10 + (f m - 48)
theorem val_inj {f g : Nat → Nat} : ∀ (m l : Nat), (∀ i, i < m → 0 < f i ∧ f i < 256) → (∀ i, i < l → 0 < g i ∧ g i < 256) → valF f m = valF g l → m = l ∧ ∀ i, i < m → f i = g i := by
  intro m
  induction m with
  | zero =>
    intro l _ hg h
    cases l with
    | zero => exact ⟨rfl, fun i hi => by omega⟩
    | succ l =>
      have := hg l (by omega)
      rw [valF, valF] at h
      omega
  | succ m ih =>
    intro l hf hg h
    have h1 := hf m (by omega)
    cases l with
    | zero => rw [valF, valF] at h; omega
    | succ l =>
      have h2 := hg l (by omega)
      rw [valF, valF] at h
      obtain ⟨e1, e2⟩ := ih l (fun i hi => hf i (by omega)) (fun i hi => hg i (by omega)) (by omega)
      subst e1
      refine ⟨rfl, fun i hi => ?_⟩
      by_cases e : i = m
      · subst e; omega
      · exact e2 i (by omega)
theorem val_congr {f g : Nat → Nat} : ∀ m, (∀ i, i < m → f i = g i) → valF f m = valF g m := by
  intro m
  induction m with
  | zero => intro _; rfl
  | succ m ih => intro h; rw [valF, valF, ih (fun i hi => h i (by omega)), h m (by omega)]
theorem val_lt {f : Nat → Nat} : ∀ m, (∀ i, i < m → f i < 256) → valF f m < 256 ^ m := by
  intro m
  induction m with
  | zero => intro _; exact Nat.zero_lt_one
  | succ m ih =>
    intro h
    have h1 := ih (fun i hi => h i (by omega))
    have h2 := h m (by omega)
    rw [valF, Nat.pow_succ]
    omega
theorem nv_lt {f : Nat → Nat} : ∀ m, (∀ i, i < m → f i ≤ 57) → nvF f m < 10 ^ m := by
  intro m
  induction m with
  | zero => intro _; exact Nat.zero_lt_one
  | succ m ih =>
    intro h
    have h1 := ih (fun i hi => h i (by omega))
    have h2 := h m (by omega)
    rw [nvF, Nat.pow_succ]
    omega
/-- the eight words -/
def wlN : List (List Nat) := [[119, 101, 101, 107, 115], [112, 97, 114, 116], [114, 101, 110, 116], [105, 102], [119, 101, 101, 107], [112, 101, 111, 112, 108, 101], [99, 111, 105, 110, 115], [97, 110, 100]]
def wlen (k : Nat) : Nat := (wlN.getD k []).length
def wch (k i : Nat) : Nat := (wlN.getD k []).getD i 0
theorem wl_len : ∀ k, k < 8 → sLen.getD k 0 = wlen k ∧ 2 ≤ wlen k ∧ wlen k ≤ 6 := by decide +kernel
theorem wl_byt : ∀ k, k < 8 → ∀ i, i < wlen k → (sByt.getD k []).getD i 0 = nI (wch k i) ∧ 97 ≤ wch k i ∧ wch k i ≤ 122 := by
  intro k hk i hi
  have h6 := (wl_len k hk).2.2
  exact (by decide +kernel : ∀ k, k < 8 → ∀ i, i < 6 → i < wlen k → (sByt.getD k []).getD i 0 = nI (wch k i) ∧ 97 ≤ wch k i ∧ wch k i ≤ 122) k hk i (by omega) hi
def wcst : Nat → Int64 := fun k => ([512802253683, 1885434484, 1919250036, 26982, 2003133803, 123580963646565, 427070942835, 6385252] : List Int64).getD k 0
theorem wl_cst : ∀ k, k < 8 → wcst k = lN (valF (wch k) (wlen k)) ∧ valF (wch k) (wlen k) < 2 ^ 56 := by decide +kernel
/-- the letters from q on are the k-th word, and no letter follows -/
def wm (T : Nat → Nat) (n q k : Nat) : Prop := ruN isLe T n q = q + wlen k ∧ ∀ i, i < wlen k → T (q + i) = wch k i
theorem kd_1 {T : Nat → Nat} {n q : Nat} (hT : q < n → T q < 256) : kdN T n q = 1 ↔ (q < n ∧ isLe (T q) = true) := by
  unfold kdN
  by_cases c : q < n
  · rw [if_pos c, (kb_iff _ (hT c)).2.1]; exact ⟨fun h => ⟨c, h⟩, fun h => h.2⟩
  · rw [if_neg c]; exact ⟨fun h => absurd h (by decide), fun h => absurd h.1 c⟩
theorem kd_2 {T : Nat → Nat} {n q : Nat} (hT : q < n → T q < 256) : kdN T n q = 2 ↔ (q < n ∧ isDi (T q) = true) := by
  unfold kdN
  by_cases c : q < n
  · rw [if_pos c, (kb_iff _ (hT c)).2.2.1]; exact ⟨fun h => ⟨c, h⟩, fun h => h.2⟩
  · rw [if_neg c]; exact ⟨fun h => absurd h (by decide), fun h => absurd h.1 c⟩
theorem kd_3 {T : Nat → Nat} {n q : Nat} (hT : q < n → T q < 256) : kdN T n q = 3 ↔ (q < n ∧ 59 ≤ T q ∧ T q ≤ 62) := by
  unfold kdN
  by_cases c : q < n
  · rw [if_pos c, (kb_iff _ (hT c)).2.2.2.1]; exact ⟨fun h => ⟨c, h⟩, fun h => h.2⟩
  · rw [if_neg c]; exact ⟨fun h => absurd h (by decide), fun h => absurd h.1 c⟩
theorem kd_0 {T : Nat → Nat} {n q : Nat} (hT : q < n → T q < 256) : kdN T n q = 0 ↔ n ≤ q := by
  unfold kdN
  by_cases c : q < n
  · rw [if_pos c]; exact ⟨fun h => absurd h (kb_iff _ (hT c)).2.2.2.2.1, fun h => by omega⟩
  · rw [if_neg c]; exact ⟨fun _ => by omega, fun _ => rfl⟩
theorem wm_letter {T : Nat → Nat} {n q k : Nat} (hk : k < 8) (hq : q ≤ n) (h : wm T n q k) : q < n ∧ isLe (T q) = true := by
  have h2 := (wl_len k hk).2.1
  have h3 := ru_le isLe T hq
  rw [h.1] at h3
  exact ⟨by omega, ru_in hq q (by omega) (by rw [h.1]; omega)⟩
theorem te_word {T : Nat → Nat} {n q k : Nat} (hk : k < 8) (hq : q ≤ n) (h : wm T n q k) : teN T n q = ruN isLe T n q := by
  obtain ⟨h1, h2⟩ := wm_letter hk hq h
  unfold teN
  rw [if_pos h1, if_pos h2]
theorem iw_loop {A0 : Nat → Nat → Int32} {T : Nat → Nat} {n q k : Nat} {S0 : Nat → Int32} (h : TX A0 T n) (hk : k < 8) (h2 : S0 2 = nI n) (h4 : S0 4 = nI q) (hq : q + wlen k ≤ n) :
    ∀ (m i n' : Nat), i + m = wlen k → m + 1 ≤ n' → (L_X0_isWord_28 S0 A0 k (some 1) n' (nI i) = some 1 ∧ ∀ j, i ≤ j → j < wlen k → T (q + j) = wch k j) ∨ (L_X0_isWord_28 S0 A0 k (some 1) n' (nI i) = some 0 ∧ ¬ ∀ j, i ≤ j → j < wlen k → T (q + j) = wch k j) := by
  have hn := h.1
  obtain ⟨l1, l2, l3⟩ := wl_len k hk
  intro m
  induction m with
  | zero =>
    intro i n' e1 e2
    obtain ⟨n', rfl⟩ : ∃ k, n' = k + 1 := ⟨n' - 1, by omega⟩
    rw [L_X0_isWord_28.eq_2, l1, if_pos (nI_le (by omega) (by omega))]
    exact Or.inl ⟨rfl, fun j a b => by omega⟩
  | succ m ih =>
    intro i n' e1 e2
    obtain ⟨n', rfl⟩ : ∃ k, n' = k + 1 := ⟨n' - 1, by omega⟩
    obtain ⟨b1, b2, b3⟩ := wl_byt k hk i (by omega)
    have hT := (h.2 (q + i) (by omega)).1
    rw [L_X0_isWord_28.eq_2, l1, if_neg (nI_ge (by omega) (by omega)), h4, nI_add, byte_at h h2 (by omega), if_pos (by omega), bd_some, ix_nI (by omega) (by omega), nI_clamp (by omega), b1]
    by_cases c : T (q + i) = wch k i
    · rw [if_pos (by rw [c]), nm_eq, nI_1]
      rcases ih (i + 1) n' (by omega) (by omega) with ⟨g1, g2⟩ | ⟨g1, g2⟩
      · refine Or.inl ⟨g1, fun j a b => ?_⟩
        by_cases e : j = i
        · rw [e]; exact c
        · exact g2 j (by omega) b
      · exact Or.inr ⟨g1, fun z => g2 (fun j a b => z j (by omega) b)⟩
    · rw [if_neg (by rw [nI_eq (by omega) (by omega)]; exact c)]
      exact Or.inr ⟨rfl, fun z => c (z i (by omega) (by omega))⟩
theorem isW {A0 : Nat → Nat → Int32} {T : Nat → Nat} {n q k : Nat} {S0 : Nat → Int32} (h : TX A0 T n) (hC : CA T n q S0) (hk : k < 8) : (F_X0_isWord S0 A0 k = some 1 ∧ wm T n q k) ∨ (F_X0_isWord S0 A0 k = some 0 ∧ ¬ wm T n q k) := by
  obtain ⟨hq, hi, h2, h3, h4, h5⟩ := hC
  have hn := h.1
  obtain ⟨l1, l2, l3⟩ := wl_len k hk
  have hT : q < n → T q < 256 := fun c => (h.2 q c).1
  have ht := te_b T hq
  unfold F_X0_isWord gk
  rw [if_pos hk, nm_eq, h3, h4, h5, pk_sub ht.1, l1]
  by_cases c : kdN T n q = 1
  · rw [if_pos c]
    obtain ⟨c1, c2⟩ := (kd_1 hT).mp c
    have et : teN T n q = ruN isLe T n q := by unfold teN; rw [if_pos c1, if_pos c2]
    by_cases c3 : teN T n q - q = wlen k
    · rw [if_pos (by rw [c3])]
      have hr : ruN isLe T n q = q + wlen k := by rw [← et]; omega
      rcases iw_loop h hk h2 h4 (by omega) (wlen k) 0 FU (by omega) (by unfold FU; omega) with ⟨g1, g2⟩ | ⟨g1, g2⟩
      · exact Or.inl ⟨g1, hr, fun i hi => g2 i (by omega) hi⟩
      · exact Or.inr ⟨g1, fun z => g2 (fun j _ b => z.2 j b)⟩
    · rw [if_neg (by rw [nI_eq (by omega) (by omega)]; exact c3)]
      exact Or.inr ⟨rfl, fun z => c3 (by rw [et, z.1]; omega)⟩
  · rw [if_neg c]
    exact Or.inr ⟨rfl, fun z => c ((kd_1 hT).mpr (wm_letter hk hq z))⟩
/-- the number that stands at q, if there is one and it isn't above the most -/
def isNu (T : Nat → Nat) (n q most v : Nat) : Prop := q + 1 ≤ ruN isDi T n q ∧ ruN isDi T n q ≤ q + 5 ∧ v = nvF (fun i => T (q + i)) (ruN isDi T n q - q) ∧ v ≤ most
theorem di_b {b : Nat} (h : isDi b = true) : 48 ≤ b ∧ b ≤ 57 := by
  unfold isDi at h
  simp at h
  exact h
theorem le_b {b : Nat} (h : isLe b = true) : 97 ≤ b ∧ b ≤ 122 := by
  unfold isLe at h
  simp at h
  exact h
theorem pow5 {m : Nat} (h : m ≤ 5) : 10 ^ m ≤ 100000 := Nat.pow_le_pow_right (by decide) h
theorem nu_b {T : Nat → Nat} {n q most v : Nat} (hq : q ≤ n) (h : isNu T n q most v) : v < 100000 := by
  rw [h.2.2.1]
  refine Nat.lt_of_lt_of_le (nv_lt _ (fun i hi => (di_b (ru_in hq (q + i) (by omega) (by omega))).2)) (pow5 (by have := h.2.1; omega))
theorem nh_loop {A0 : Nat → Nat → Int32} {T : Nat → Nat} {n q E : Nat} {S0 : Nat → Int32} {J : Int32 → Int32 → Option Int32} (h : TX A0 T n) (h2 : S0 2 = nI n) (h5 : S0 5 = nI E) (hE : E ≤ n) (hE5 : E ≤ q + 5) (hD : ∀ j, q ≤ j → j < E → 48 ≤ T j ∧ T j ≤ 57) (x1 : Int32) :
    ∀ (m i n' : Nat), i + m = E - q → q ≤ E → m + 1 ≤ n' → L_X0_numberHere_30 S0 A0 J n' x1 (nI (nvF (fun i => T (q + i)) i)) (nI (q + i)) = J x1 (nI (nvF (fun i => T (q + i)) (E - q))) := by
  have hn := h.1
  intro m
  induction m with
  | zero =>
    intro i n' e1 e2 e3
    obtain ⟨n', rfl⟩ : ∃ k, n' = k + 1 := ⟨n' - 1, by omega⟩
    rw [L_X0_numberHere_30.eq_2, h5, if_pos (nI_le (by omega) (by omega)), show i = E - q by omega]
  | succ m ih =>
    intro i n' e1 e2 e3
    obtain ⟨n', rfl⟩ : ∃ k, n' = k + 1 := ⟨n' - 1, by omega⟩
    have hd := hD (q + i) (by omega) (by omega)
    rw [L_X0_numberHere_30.eq_2, h5, if_neg (nI_ge (by omega) (by omega)), byte_at h h2 (by omega), if_pos (by omega), bd_some, nm_eq, nm_eq, nI_1]
    have e : ((nI (nvF (fun i => T (q + i)) i) * 10) + nI (T (q + i))) - 48 = nI (nvF (fun i => T (q + i)) (i + 1)) := by
      rw [show (10 : Int32) = nI 10 from rfl, pk_mul, nI_add, show (48 : Int32) = nI 48 from rfl, pk_sub (by omega), nvF]
      congr 1
      omega
    rw [e, show q + i + 1 = q + (i + 1) by omega]
    exact ih (i + 1) n' (by omega) e2 (by omega)
theorem numH {A0 : Nat → Nat → Int32} {T : Nat → Nat} {n q : Nat} {S0 : Nat → Int32} (h : TX A0 T n) (hC : CA T n q S0) {most : Nat} (hm : most < 100000) : (∃ v, F_X0_numberHere S0 A0 (nI most) = some (nI v) ∧ isNu T n q most v ∧ teN T n q = ruN isDi T n q) ∨ (F_X0_numberHere S0 A0 (nI most) = some (-1) ∧ ∀ v, ¬ isNu T n q most v) := by
  obtain ⟨hq, hi, h2, h3, h4, h5⟩ := hC
  have hn := h.1
  have hT : q < n → T q < 256 := fun c => (h.2 q c).1
  have ht := te_b T hq
  unfold F_X0_numberHere
  rw [nm_eq, h3, h4, h5, pk_sub ht.1]
  by_cases c : kdN T n q = 2
  · rw [if_pos c]
    obtain ⟨c1, c2⟩ := (kd_2 hT).mp c
    have cL := (kb_iff _ (hT c1)).2.2.2.2.2.2.1 c2
    have et : teN T n q = ruN isDi T n q := by unfold teN; rw [if_pos c1, cL, if_neg (by decide), if_pos c2]
    have hge : q + 1 ≤ ruN isDi T n q := by
      rw [ru_yes c1 c2]
      exact ru_ge isDi T (by omega)
    by_cases c3 : teN T n q - q ≤ 5
    · rw [if_pos (by rw [show (5 : Int32) = nI 5 from rfl]; exact nI_le c3 (by decide)), nm_eq]
      have hl := nh_loop (J := fun x1 x2 => if x2 ≤ x1 then some x2 else some (-1)) h h2 h5 ht.2 (q := q) (by omega) (fun j a b => di_b (ru_in hq j a (by rw [← et]; exact b))) (nI most) (teN T n q - q) 0 FU (by omega) (by omega) (by unfold FU; omega)
      have hl' : L_X0_numberHere_30 S0 A0 (fun x1 x2 => if x2 ≤ x1 then some x2 else some (-1)) FU (nI most) 0 (nI q) = (if nI (nvF (fun i => T (q + i)) (teN T n q - q)) ≤ nI most then some (nI (nvF (fun i => T (q + i)) (teN T n q - q))) else some (-1)) := hl
      rw [hl']
      have hv : nvF (fun i => T (q + i)) (teN T n q - q) < 100000 := Nat.lt_of_lt_of_le (nv_lt _ (fun i hi => (di_b (ru_in hq (q + i) (by omega) (by rw [← et]; omega))).2)) (pow5 c3)
      by_cases c4 : nvF (fun i => T (q + i)) (teN T n q - q) ≤ most
      · rw [if_pos (nI_le c4 (by omega))]
        exact Or.inl ⟨_, rfl, ⟨hge, by omega, by rw [et], c4⟩, et⟩
      · rw [if_neg (nI_ge (by omega) (by omega))]
        refine Or.inr ⟨rfl, fun v z => ?_⟩
        obtain ⟨-, -, z1, z2⟩ := z
        rw [z1, ← et] at z2
        omega
    · rw [if_neg (by rw [show (5 : Int32) = nI 5 from rfl]; exact nI_ge (by omega) (by omega))]
      exact Or.inr ⟨rfl, fun v z => by have := z.2.1; omega⟩
  · rw [if_neg c]
    refine Or.inr ⟨rfl, fun v z => c ((kd_2 hT).mpr ?_)⟩
    have hle := ru_le isDi T hq
    have h1 := z.1
    exact ⟨by omega, ru_in hq q (by omega) (by omega)⟩
theorem sigH {A0 : Nat → Nat → Int32} {T : Nat → Nat} {n q : Nat} {S0 : Nat → Int32} (h : TX A0 T n) (hC : CA T n q S0) : (q < n ∧ 59 ≤ T q ∧ T q ≤ 62 ∧ F_X0_signHere S0 A0 = some (nI (T q)) ∧ teN T n q = q + 1) ∨ (F_X0_signHere S0 A0 = some (-1) ∧ ¬ (q < n ∧ 59 ≤ T q ∧ T q ≤ 62)) := by
  obtain ⟨hq, hi, h2, h3, h4, h5⟩ := hC
  have hn := h.1
  have hT : q < n → T q < 256 := fun c => (h.2 q c).1
  unfold F_X0_signHere
  rw [h3, h4]
  by_cases c : kdN T n q = 3
  · obtain ⟨c1, c2⟩ := (kd_3 hT).mp c
    rw [if_pos c, byte_at h h2 (by omega), bd_some, if_pos c1]
    refine Or.inl ⟨c1, c2.1, c2.2, rfl, ?_⟩
    obtain ⟨d1, d2⟩ := (kb_iff _ (hT c1)).2.2.2.2.2.2.2 c2
    unfold teN
    rw [if_pos c1, d1, d2]
    rfl
  · rw [if_neg c]
    exact Or.inr ⟨rfl, fun z => c ((kd_3 hT).mpr z)⟩
/-! the model's tokens -/
theorem mb_loop {A6 : Nat → Nat → Int32} {T : Nat → Nat} {n : Nat} {J : (Nat → Int32) → Option (Nat → Int32)} {S : Nat → Int32} (h : TM A6 T n) (h18 : S 18 = nI n) :
    ∀ (m p n' : Nat), p + m = n → m + 1 ≤ n' → L_X6_blanks_0 A6 J n' (upd S 19 (nI p)) = J (upd S 19 (nI (ruN isBl T n p))) := by
  have hn := h.1
  intro m
  induction m with
  | zero =>
    intro p n' e1 e2
    obtain ⟨n', rfl⟩ : ∃ k, n' = k + 1 := ⟨n' - 1, by omega⟩
    rw [L_X6_blanks_0.eq_2, nm_eq, show upd S 19 (nI p) 19 = nI p from rfl, show upd S 19 (nI p) 18 = S 18 from rfl, h18, if_pos (nI_le (by omega) (by omega)), ru_end _ _ (by omega)]
  | succ m ih =>
    intro p n' e1 e2
    obtain ⟨n', rfl⟩ : ∃ k, n' = k + 1 := ⟨n' - 1, by omega⟩
    obtain ⟨hT, hA⟩ := h.2 p (by omega)
    have hs := sg_iff _ hT
    rw [L_X6_blanks_0.eq_2]
    simp only [nm_p, show upd S 19 (nI p) 19 = nI p from rfl, show upd S 19 (nI p) 18 = S 18 from rfl, h18, ix_nI (show p < 600 by omega) (show 600 < 2 ^ 31 by decide), nI_clamp (show p < 2 ^ 31 by omega), hA, upd2, nI_1]
    rw [if_neg (nI_ge (by omega) (by omega)), ih (p + 1) n' (by omega) (by omega)]
    cases c : isBl (T p) with
    | true =>
      rw [ru_yes (by omega) c]
      unfold isBl at c
      simp at c
      by_cases c1 : T p = 32
      · rw [if_pos (hs.1.mpr c1)]
      · rw [if_neg (fun z => c1 (hs.1.mp z)), if_pos (hs.2.1.mpr (by omega))]
    | false =>
      rw [ru_no c]
      unfold isBl at c
      simp at c
      rw [if_neg (fun z => c.1 (hs.1.mp z)), if_neg (fun z => c.2 (hs.2.1.mp z))]
def MP (n p : Nat) (S6 : Nat → Int32) : Prop := p ≤ n ∧ S6 18 = nI n ∧ S6 19 = nI p
theorem mBl {A6 : Nat → Nat → Int32} {T : Nat → Nat} {n p : Nat} {S6 : Nat → Int32} (h : TM A6 T n) (hM : MP n p S6) : F_X6_blanks S6 A6 = some (upd S6 19 (nI (ruN isBl T n p))) := by
  obtain ⟨h1, h2, h3⟩ := hM
  have hn := h.1
  unfold F_X6_blanks
  have e := mb_loop (J := fun S6 => some S6) h h2 (n - p) p FU (by omega) (by unfold FU; omega)
  rw [upd_self S6 h3] at e
  rw [nm_eq]
  exact e
def wvN (T : Nat → Nat) (q m : Nat) : Int64 := if m ≤ 7 then lN (valF (fun i => T (q + i)) m) else 0
theorem sg_le {b : Nat} (h : b < 128) : sgB b = nI b := by unfold sgB; rw [if_pos h]
theorem mw_loop {A6 : Nat → Nat → Int32} {T : Nat → Nat} {n q : Nat} {J : Int64 → (Nat → Int32) → Option (Int64 × (Nat → Int32))} {S : Nat → Int32} (h : TM A6 T n) (h18 : S 18 = nI n) (h19 : S 19 = nI q) :
    ∀ (m e n' : Nat), e + m = n → m + 1 ≤ n' → q ≤ e → (∀ j, q ≤ j → j < e → isLe (T j) = true) → L_X6_word_14 A6 J n' (wvN T q (e - q)) (upd S 33 (nI e)) = J (wvN T q (ruN isLe T n e - q)) (upd S 33 (nI (ruN isLe T n e))) := by
  have hn := h.1
  intro m
  induction m with
  | zero =>
    intro e n' e1 e2 hq hL
    obtain ⟨n', rfl⟩ : ∃ k, n' = k + 1 := ⟨n' - 1, by omega⟩
    rw [L_X6_word_14.eq_2, nm_eq, show upd S 33 (nI e) 33 = nI e from rfl, show upd S 33 (nI e) 18 = S 18 from rfl, h18, if_pos (nI_le (by omega) (by omega)), ru_end _ _ (by omega)]
  | succ m ih =>
    intro e n' e1 e2 hq hL
    obtain ⟨n', rfl⟩ : ∃ k, n' = k + 1 := ⟨n' - 1, by omega⟩
    obtain ⟨hT, hA⟩ := h.2 e (by omega)
    have hs := (sg_iff _ hT).2.2.1
    rw [L_X6_word_14.eq_2]
    simp only [nm_p, show upd S 33 (nI e) 33 = nI e from rfl, show upd S 33 (nI e) 18 = S 18 from rfl, show upd S 33 (nI e) 19 = S 19 from rfl, h18, h19, ix_nI (show e < 600 by omega) (show 600 < 2 ^ 31 by decide), nI_clamp (show e < 2 ^ 31 by omega), hA, upd2, nI_1, pk_sub hq]
    rw [if_neg (nI_ge (by omega) (by omega))]
    cases c : isLe (T e) with
    | true =>
      obtain ⟨s1, s2⟩ := hs.mpr c
      obtain ⟨t1, t2⟩ := le_b c
      have hL' : ∀ j, q ≤ j → j < e + 1 → isLe (T j) = true := fun j a b => by
        by_cases z : j = e
        · rw [z]; exact c
        · exact hL j a (by omega)
      rw [if_neg s1, if_neg s2, ru_yes (by omega) c, ← ih (e + 1) n' (by omega) (by omega) (by omega) hL']
      by_cases c7 : 7 ≤ e - q
      · rw [if_pos (by rw [show (7 : Int32) = nI 7 from rfl]; exact nI_le c7 (by omega))]
        congr 1
        unfold wvN
        rw [if_neg (by omega)]
      · rw [if_neg (by rw [show (7 : Int32) = nI 7 from rfl]; exact nI_ge (by omega) (by omega))]
        congr 1
        unfold wvN
        have hv : valF (fun i => T (q + i)) (e - q) < 256 ^ (e - q) := val_lt _ (fun i hi => by
          have := le_b (hL (q + i) (by omega) (by omega))
          show T (q + i) < 256
          omega)
        have hv2 : 256 ^ (e - q) ≤ 256 ^ 6 := Nat.pow_le_pow_right (by decide) (by omega)
        rw [if_pos (by omega), if_pos (by omega), show e + 1 - q = (e - q) + 1 by omega, valF, sg_le (by omega), nI_l (by omega), wb_cat (by omega) (by omega), show q + (e - q) = e by omega]
    | false =>
      rw [ru_no c]
      by_cases s1 : sgB (T e) < 97
      · rw [if_pos s1]
      · rw [if_neg s1]
        by_cases s2 : 122 < sgB (T e)
        · rw [if_pos s2]
        · rw [hs.mp ⟨s1, s2⟩] at c; cases c
theorem mWd {A6 : Nat → Nat → Int32} {T : Nat → Nat} {n p q : Nat} {S6 : Nat → Int32} (h : TM A6 T n) (hM : MP n p S6) (hq : ruN isBl T n p = q) : F_X6_word S6 A6 = some (wvN T q (ruN isLe T n q - q), upd (upd S6 19 (nI q)) 33 (nI (ruN isLe T n q))) := by
  have hn := h.1
  have hqn : q ≤ n := by rw [← hq]; exact ru_le _ _ hM.1
  have hE := ru_le isLe T hqn
  have hG := ru_ge isLe T hqn
  unfold F_X6_word
  rw [nm_eq, mBl h hM, bd_some, hq, nm_eq]
  have e := mw_loop (J := fun x1 S6 => if (S6 33 - S6 19) ≤ 7 then some (x1, S6) else some (0, S6)) (q := q) (S := upd S6 19 (nI q)) h hM.2.1 rfl (n - q) q FU (by omega) (by unfold FU; omega) (by omega) (fun j a b => by omega)
  have e0 : wvN T q (q - q) = 0 := by rw [Nat.sub_self]; rfl
  rw [e0] at e
  have e' : L_X6_word_14 A6 (fun x1 S6 => if (S6 33 - S6 19) ≤ 7 then some (x1, S6) else some (0, S6)) FU 0 (upd (upd S6 19 (nI q)) 33 (upd S6 19 (nI q) 19)) = (if (nI (ruN isLe T n q) - nI q) ≤ 7 then some (wvN T q (ruN isLe T n q - q), upd (upd S6 19 (nI q)) 33 (nI (ruN isLe T n q))) else some (0, upd (upd S6 19 (nI q)) 33 (nI (ruN isLe T n q)))) := e
  rw [e', pk_sub hG, show (7 : Int32) = nI 7 from rfl]
  by_cases c : ruN isLe T n q - q ≤ 7
  · rw [if_pos (nI_le c (by decide))]
  · rw [if_neg (nI_ge (by omega) (by omega))]
    unfold wvN
    rw [if_neg c]
theorem wv_wm {T : Nat → Nat} {n q k : Nat} (hk : k < 8) (hq : q ≤ n) : wvN T q (ruN isLe T n q - q) = wcst k ↔ wm T n q k := by
  obtain ⟨l1, l2, l3⟩ := wl_len k hk
  obtain ⟨c1, c2⟩ := wl_cst k hk
  have hG := ru_ge isLe T hq
  have hL : ∀ i, i < ruN isLe T n q - q → 97 ≤ T (q + i) ∧ T (q + i) ≤ 122 := fun i hi => le_b (ru_in hq (q + i) (by omega) (by omega))
  have hW : ∀ i, i < wlen k → 0 < wch k i ∧ wch k i < 256 := fun i hi => by have := (wl_byt k hk i hi).2; omega
  unfold wvN
  constructor
  · intro e
    by_cases c : ruN isLe T n q - q ≤ 7
    · rw [if_pos c, c1] at e
      have hv : valF (fun i => T (q + i)) (ruN isLe T n q - q) < 256 ^ (ruN isLe T n q - q) := val_lt _ (fun i hi => by have := hL i hi; show T (q + i) < 256; omega)
      have hv2 : 256 ^ (ruN isLe T n q - q) ≤ 256 ^ 7 := Nat.pow_le_pow_right (by decide) c
      obtain ⟨z1, z2⟩ := val_inj _ _ (fun i hi => by have := hL i hi; show 0 < T (q + i) ∧ T (q + i) < 256; omega) hW ((pk_lEQ (by omega) (by omega)).mp e)
      exact ⟨by omega, fun i hi => z2 i (by omega)⟩
    · rw [if_neg c, c1, show (0 : Int64) = lN 0 from rfl] at e
      have e2 := (pk_lEQ (by decide) (by omega)).mp e
      have h0 : valF (wch k) (wlen k) ≠ 0 := by
        obtain ⟨t, ht⟩ : ∃ t, wlen k = t + 1 := ⟨wlen k - 1, by omega⟩
        rw [ht, valF]
        have := hW t (by omega)
        omega
      omega
  · intro z
    have e : ruN isLe T n q - q = wlen k := by rw [z.1]; omega
    rw [e, if_pos (by omega), c1, val_congr _ (fun i hi => z.2 i hi)]
/-- takes -/
theorem mTk {A6 : Nat → Nat → Int32} {T : Nat → Nat} {n p q k : Nat} {S6 : Nat → Int32} (h : TM A6 T n) (hM : MP n p S6) (hq : ruN isBl T n p = q) (hk : k < 8) :
    (wm T n q k ∧ ∃ S6', F_X6_takes S6 A6 (wcst k) = some (1, S6') ∧ MP n (teN T n q) S6' ∧ ∀ j, j ≠ 19 → j ≠ 33 → S6' j = S6 j) ∨ (¬ wm T n q k ∧ ∃ S6', F_X6_takes S6 A6 (wcst k) = some (0, S6') ∧ MP n q S6' ∧ ∀ j, j ≠ 19 → j ≠ 33 → S6' j = S6 j) := by
  have hqn : q ≤ n := by rw [← hq]; exact ru_le _ _ hM.1
  unfold F_X6_takes
  rw [mWd h hM hq, bd_some]
  by_cases c : wm T n q k
  · refine Or.inl ⟨c, ?_⟩
    rw [if_pos ((lg_cmp_eq _ _).mpr ((wv_wm hk hqn).mpr c)), nm_eq]
    refine ⟨_, rfl, ⟨(te_b T hqn).2, hM.2.1, ?_⟩, fun j a b => by dsimp only; rw [upd_at, if_neg a, upd_at, if_neg b, upd_at, if_neg a]⟩
    rw [te_word hk hqn c]
    rfl
  · refine Or.inr ⟨c, ?_⟩
    rw [if_neg (fun z => c ((wv_wm hk hqn).mp ((lg_cmp_eq _ _).mp z)))]
    exact ⟨_, rfl, ⟨hqn, hM.2.1, rfl⟩, fun j a b => by dsimp only; rw [upd_at, if_neg b, upd_at, if_neg a]⟩
theorem mn_loop {A6 : Nat → Nat → Int32} {T : Nat → Nat} {n q : Nat} {J : Int32 → Int32 → (Nat → Int32) → Option (Int32 × (Nat → Int32))} {S : Nat → Int32} (h : TM A6 T n) (h18 : S 18 = nI n) (h19 : S 19 = nI q) (x1 : Int32) :
    ∀ (m z n' : Nat), z + m = n → m + 1 ≤ n' → q ≤ z → (∀ j, q ≤ j → j < z → isDi (T j) = true) → L_X6_takesNumber_14 A6 J n' x1 (nI z) (upd S 34 (nI (nvF (fun i => T (q + i)) (min (z - q) 5)))) = J x1 (nI (ruN isDi T n z)) (upd S 34 (nI (nvF (fun i => T (q + i)) (min (ruN isDi T n z - q) 5)))) := by
  have hn := h.1
  intro m
  induction m with
  | zero =>
    intro z n' e1 e2 hq hL
    obtain ⟨n', rfl⟩ : ∃ k, n' = k + 1 := ⟨n' - 1, by omega⟩
    rw [L_X6_takesNumber_14.eq_2, nm_eq, show ∀ x, upd S 34 x 18 = S 18 from fun _ => rfl, h18, if_pos (nI_le (by omega) (by omega)), ru_end _ _ (by omega)]
  | succ m ih =>
    intro z n' e1 e2 hq hL
    obtain ⟨n', rfl⟩ : ∃ k, n' = k + 1 := ⟨n' - 1, by omega⟩
    obtain ⟨hT, hA⟩ := h.2 z (by omega)
    have hs := (sg_iff _ hT).2.2.2.1
    rw [L_X6_takesNumber_14.eq_2]
    simp only [nm_p, show ∀ x, upd S 34 x 18 = S 18 from fun _ => rfl, show ∀ x, upd S 34 x 19 = S 19 from fun _ => rfl, show ∀ x, upd S 34 x 34 = x from fun _ => rfl, h18, h19, ix_nI (show z < 600 by omega) (show 600 < 2 ^ 31 by decide), nI_clamp (show z < 2 ^ 31 by omega), hA, upd2, nI_1, pk_sub hq]
    rw [if_neg (nI_ge (by omega) (by omega))]
    cases c : isDi (T z) with
    | true =>
      obtain ⟨s1, s2⟩ := hs.mpr c
      obtain ⟨t1, t2⟩ := di_b c
      have hL' : ∀ j, q ≤ j → j < z + 1 → isDi (T j) = true := fun j a b => by
        by_cases y : j = z
        · rw [y]; exact c
        · exact hL j a (by omega)
      rw [if_neg s1, if_neg s2, ru_yes (by omega) c, ← ih (z + 1) n' (by omega) (by omega) (by omega) hL']
      by_cases c5 : 5 ≤ z - q
      · rw [if_pos (by rw [show (5 : Int32) = nI 5 from rfl]; exact nI_le c5 (by omega)), Nat.min_eq_right (by omega), Nat.min_eq_right (by omega)]
      · rw [if_neg (by rw [show (5 : Int32) = nI 5 from rfl]; exact nI_ge (by omega) (by omega)), Nat.min_eq_left (by omega), Nat.min_eq_left (by omega), sg_le (by omega)]
        have e : ((10 * nI (nvF (fun i => T (q + i)) (z - q))) + nI (T z)) - 48 = nI (nvF (fun i => T (q + i)) (z + 1 - q)) := by
          rw [show z + 1 - q = (z - q) + 1 by omega, nvF, show (10 : Int32) = nI 10 from rfl, pk_mul, nI_add, show (48 : Int32) = nI 48 from rfl, pk_sub (by omega), show q + (z - q) = z by omega]
          congr 1
          omega
        rw [e]
    | false =>
      rw [ru_no c]
      by_cases s1 : sgB (T z) < 48
      · rw [if_pos s1]
      · rw [if_neg s1]
        by_cases s2 : 57 < sgB (T z)
        · rw [if_pos s2]
        · rw [hs.mp ⟨s1, s2⟩] at c; cases c
/-- takesNumber -/
theorem mTn {A6 : Nat → Nat → Int32} {T : Nat → Nat} {n p q : Nat} {S6 : Nat → Int32} (h : TM A6 T n) (hM : MP n p S6) (hq : ruN isBl T n p = q) {most : Nat} (hm : most < 100000) :
    (∃ v S6', isNu T n q most v ∧ F_X6_takesNumber S6 A6 (nI most) = some (1, S6') ∧ MP n (ruN isDi T n q) S6' ∧ S6' 34 = nI v ∧ ∀ j, j ≠ 19 → j ≠ 34 → S6' j = S6 j) ∨ ((∀ v, ¬ isNu T n q most v) ∧ ∃ S6', F_X6_takesNumber S6 A6 (nI most) = some (0, S6') ∧ MP n q S6' ∧ ∀ j, j ≠ 19 → j ≠ 34 → S6' j = S6 j) := by
  have hn := h.1
  have hqn : q ≤ n := by rw [← hq]; exact ru_le _ _ hM.1
  have hE := ru_le isDi T hqn
  have hG := ru_ge isDi T hqn
  unfold F_X6_takesNumber
  simp only [nm_p]
  rw [mBl h hM, bd_some, hq]
  have e := mn_loop (J := fun x1 x2 S6 => if x2 = S6 19 then some (0, S6) else if 5 < (x2 - S6 19) then some (0, S6) else if S6 34 ≤ x1 then some (1, upd S6 19 x2) else some (0, S6)) (q := q) (S := upd S6 19 (nI q)) h hM.2.1 rfl (nI most) (n - q) q FU (by omega) (by unfold FU; omega) (by omega) (fun j a b => by omega)
  rw [Nat.sub_self] at e
  have e' : L_X6_takesNumber_14 A6 (fun x1 x2 S6 => if x2 = S6 19 then some (0, S6) else if 5 < (x2 - S6 19) then some (0, S6) else if S6 34 ≤ x1 then some (1, upd S6 19 x2) else some (0, S6)) FU (nI most) (upd S6 19 (nI q) 19) (upd (upd S6 19 (nI q)) 34 0) = _ := e
  rw [e']
  simp only [show ∀ x, upd (upd S6 19 (nI q)) 34 x 19 = nI q from fun _ => rfl, show ∀ x, upd (upd S6 19 (nI q)) 34 x 34 = x from fun _ => rfl, pk_sub hG]
  have fr : ∀ x j, j ≠ 19 → j ≠ 34 → upd (upd S6 19 (nI q)) 34 x j = S6 j := fun x j a b => by rw [upd_at, if_neg b, upd_at, if_neg a]
  by_cases c1 : ruN isDi T n q = q
  · rw [if_pos (by rw [c1])]
    refine Or.inr ⟨fun v z => by have := z.1; omega, _, rfl, ⟨hqn, hM.2.1, rfl⟩, fr _⟩
  rw [if_neg (by rw [nI_eq (by omega) (by omega)]; exact c1)]
  by_cases c2 : 5 < ruN isDi T n q - q
  · rw [if_pos (by rw [show (5 : Int32) = nI 5 from rfl]; exact nI_lt c2 (by omega))]
    refine Or.inr ⟨fun v z => by have := z.2.1; omega, _, rfl, ⟨hqn, hM.2.1, rfl⟩, fr _⟩
  rw [if_neg (by rw [show (5 : Int32) = nI 5 from rfl]; exact nI_nlt (by omega) (by decide)), Nat.min_eq_left (by omega)]
  have hv : nvF (fun i => T (q + i)) (ruN isDi T n q - q) < 100000 := Nat.lt_of_lt_of_le (nv_lt _ (fun i hi => (di_b (ru_in hqn (q + i) (by omega) (by omega))).2)) (pow5 (by omega))
  by_cases c3 : nvF (fun i => T (q + i)) (ruN isDi T n q - q) ≤ most
  · rw [if_pos (nI_le c3 (by omega))]
    exact Or.inl ⟨_, _, ⟨by omega, by omega, rfl, c3⟩, rfl, ⟨hE, hM.2.1, rfl⟩, rfl, fun j a b => by rw [upd_at, if_neg a]; exact fr _ j a b⟩
  · rw [if_neg (nI_ge (by omega) (by omega))]
    refine Or.inr ⟨fun v z => by have := z.2.2; omega, _, rfl, ⟨hqn, hM.2.1, rfl⟩, fr _⟩
