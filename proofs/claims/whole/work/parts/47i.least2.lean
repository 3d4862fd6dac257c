/-! the model's least days; least -/
def ReM (k : Nat) (sk L : Nat → Nat) (A6 : Nat → Nat → Int32) : Prop := (∀ g, g < k → A6 5 g = nI (sk g)) ∧ ∀ g, g < k → A6 14 g = nI (L g)
theorem m46 {S6 : Nat → Int32} {J : Int32 → Int32 → Int32 → (Nat → Nat → Int32) → Option (Int32 × (Nat → Nat → Int32))} {M : Nat → Int32} {first n k : Nat} {w : Nat → Nat} (hk : k ≤ 3) (hn : n ≤ 6) (hf : first + n ≤ 72) (hW : ∀ i, i < n → 3 + sq M (first + i) = nI (w i)) :
    ∀ (m i n' : Nat) (A6 : Nat → Nat → Int32), i + m = n → m + 1 ≤ n' → Cache A6 → A6 0 = M → (∀ j, j < i → A6 13 j = nI (w j)) → ∃ B6, L_X6_least_46 S6 J n' (nI first) (nI n) (nI k) (nI (k ^ i)) (nI i) A6 = J (nI n) (nI k) (nI (k ^ n)) B6 ∧ Cache B6 ∧ (∀ j, j < n → B6 13 j = nI (w j)) ∧ ∀ j, j ≠ 1 → j ≠ 2 → j ≠ 13 → B6 j = A6 j := by
  intro m
  induction m with
  | zero =>
    intro i n' A6 h1 h2 hC hM hw
    obtain ⟨n', rfl⟩ : ∃ k, n' = k + 1 := ⟨n' - 1, by omega⟩
    have : i = n := by omega
    subst this
    refine ⟨A6, ?_, hC, hw, fun _ _ _ _ => rfl⟩
    rw [L_X6_least_46.eq_2, if_pos (nI_le (by omega) (by omega))]
  | succ m ih =>
    intro i n' A6 h1 h2 hC hM hw
    obtain ⟨n', rfl⟩ : ∃ k, n' = k + 1 := ⟨n' - 1, by omega⟩
    obtain ⟨C6, c1, c2, c3⟩ := wk_spec hC (q := first + i) (by omega)
    rw [hM, hW i (by omega)] at c1
    rw [L_X6_least_46.eq_2, if_neg (nI_ge (by omega) (by omega)), nI_add, c1, bd_some, ix_nI (by omega) (by decide), nI_clamp (by omega), nm_eq, nm_eq, nm_eq, pk_mul, nI_1, ← Nat.pow_succ]
    obtain ⟨B6, g1, g2, g3, g4⟩ := ih (i + 1) n' (va_up C6 13 (upd (C6 13) i (nI (w i)))) (by omega) (by omega) (by
        refine ⟨c2.1, c2.2⟩) (by show C6 0 = M; rw [c3 0 (by omega) (by omega), hM]) (fun j hj => by
        show upd (C6 13) i (nI (w i)) j = nI (w j)
        rw [upd_at]
        by_cases e : j = i
        · rw [if_pos e, e]
        · rw [if_neg e, c3 13 (by omega) (by omega)]; exact hw j (by omega))
    exact ⟨B6, g1, g2, g3, fun j a b c => by rw [g4 j a b c, upA_at, if_neg c, c3 j a b]⟩
theorem m95 {S6 : Nat → Int32} {J : Int32 → Int32 → Int32 → Int32 → Int32 → (Nat → Nat → Int32) → Option (Int32 × (Nat → Nat → Int32))} {k : Nat} (hk : k ≤ 3) (x2 x4 x5 x6 : Int32) :
    ∀ (m g n' : Nat) (A6 : Nat → Nat → Int32), g + m = k → m + 1 ≤ n' → (∀ j, j < g → A6 14 j = nI 0) → ∃ B6, L_X6_least_95 S6 J n' x2 (nI k) x4 x5 x6 (nI g) A6 = J x2 (nI k) x4 x5 x6 B6 ∧ (∀ j, j < k → B6 14 j = nI 0) ∧ ∀ j, j ≠ 14 → B6 j = A6 j := by
  intro m
  induction m with
  | zero =>
    intro g n' A6 h1 h2 h3
    obtain ⟨n', rfl⟩ : ∃ k, n' = k + 1 := ⟨n' - 1, by omega⟩
    have : g = k := by omega
    subst this
    exact ⟨A6, by rw [L_X6_least_95.eq_2, if_pos (nI_le (by omega) (by omega))], h3, fun _ _ => rfl⟩
  | succ m ih =>
    intro g n' A6 h1 h2 h3
    obtain ⟨n', rfl⟩ : ∃ k, n' = k + 1 := ⟨n' - 1, by omega⟩
    rw [L_X6_least_95.eq_2, if_neg (nI_ge (by omega) (by omega)), ix_nI (by omega) (by decide), nI_clamp (by omega), nm_eq, nm_eq, nI_1]
    obtain ⟨B6, g1, g2, g3⟩ := ih (g + 1) n' (va_up A6 14 (upd (A6 14) g 0)) (by omega) (by omega) (fun j hj => by
        show upd (A6 14) g 0 j = nI 0
        rw [upd_at]
        by_cases e : j = g
        · rw [if_pos e]; rfl
        · rw [if_neg e]; exact h3 j (by omega))
    exact ⟨B6, g1, g2, fun j hj => by rw [g3 j hj, upA_at, if_neg hj]⟩
theorem ReM.add {k : Nat} {sk L : Nat → Nat} {A6 : Nat → Nat → Int32} (h : ReM k sk L A6) (g a : Nat) : ReM k sk (adL L g a) (va_up A6 14 (upd (A6 14) g (nI (L g + a)))) := by
  refine ⟨h.1, fun j hj => ?_⟩
  show upd (A6 14) g (nI (L g + a)) j = nI (adL L g a j)
  unfold adL
  rw [upd_at]
  by_cases e : j = g
  · rw [if_pos e, if_pos e, e]
  · rw [if_neg e, if_neg e]; exact h.2 j hj
theorem m122 {S6 : Nat → Int32} {J : Int32 → Int32 → Int32 → Int32 → Int32 → (Nat → Nat → Int32) → Option (Int32 × (Nat → Nat → Int32))} {n k : Nat} {sk w : Nat → Nat} (hk1 : 1 ≤ k) (hk : k ≤ 3) (hn : n ≤ 6) (x4 x5 x6 : Int32) :
    ∀ (m i x n' : Nat) (L : Nat → Nat) (A6 : Nat → Nat → Int32), i + m = n → m + 1 ≤ n' → x < 1000 → ReM k sk L A6 → (∀ j, j < n → A6 13 j = nI (w j)) → ∃ B6, L_X6_least_122 S6 J n' (nI n) (nI k) x4 x5 x6 (nI x) (nI i) A6 = J (nI n) (nI k) x4 x5 x6 B6 ∧ ReM k sk (ldR k w m i x L) B6 ∧ ∀ j, j ≠ 14 → B6 j = A6 j := by
  intro m
  induction m with
  | zero =>
    intro i x n' L A6 h1 h2 h3 hR hw
    obtain ⟨n', rfl⟩ : ∃ k, n' = k + 1 := ⟨n' - 1, by omega⟩
    exact ⟨A6, by rw [L_X6_least_122.eq_2, if_pos (nI_le (by omega) (by omega))], hR, fun _ _ => rfl⟩
  | succ m ih =>
    intro i x n' L A6 h1 h2 h3 hR hw
    obtain ⟨n', rfl⟩ : ∃ k, n' = k + 1 := ⟨n' - 1, by omega⟩
    have hm : x % k < k := Nat.mod_lt _ (by omega)
    have hx : x / k < 1000 := Nat.lt_of_le_of_lt (Nat.div_le_self _ _) h3
    rw [L_X6_least_122.eq_2, if_neg (nI_ge (by omega) (by omega)), pk_rem (by omega) (by omega) (by omega), pk_div (by omega) (by omega) (by omega)]
    unfold nz
    simp only [if_neg (nI_ne0 (show 0 < k by omega) (show k < 2 ^ 31 by omega)), ix_nI (show x % k < 3 by omega) (show 3 < 2 ^ 31 by decide), ix_nI (show i < 6 by omega) (show 6 < 2 ^ 31 by decide), nI_clamp (show x % k < 2 ^ 31 by omega), nI_clamp (show i < 2 ^ 31 by omega), nm_eq, nI_1, hw i (by omega), hR.2 _ hm, nI_add]
    obtain ⟨B6, g1, g2, g3⟩ := ih (i + 1) (x / k) n' (adL L (x % k) (w i)) _ (by omega) (by omega) hx (hR.add (x % k) (w i)) hw
    exact ⟨B6, g1, g2, fun j hj => by rw [g3 j hj, upA_at, if_neg hj]⟩
theorem m165 {S6 : Nat → Int32} {J : Int32 → Int32 → Int32 → Int32 → Int32 → Int32 → (Nat → Nat → Int32) → Option (Int32 × (Nat → Nat → Int32))} {k : Nat} {sk L : Nat → Nat} {A6 : Nat → Nat → Int32} (hk : k ≤ 3) (hs : ∀ g, g < k → 1 ≤ sk g ∧ sk g ≤ 20) (hL : ∀ j, L j ≤ 1000) (hR : ReM k sk L A6) (x2 x4 x5 x6 : Int32) :
    ∀ (m g n' a : Nat), g + m = k → m + 1 ≤ n' → a ≤ 1100 → L_X6_least_165 S6 J n' x2 (nI k) x4 x5 x6 (nI a) (nI g) A6 = J x2 (nI k) x4 x5 x6 (nI (moR sk L m g a)) A6 := by
  intro m
  induction m with
  | zero =>
    intro g n' a h1 h2 h3
    obtain ⟨n', rfl⟩ : ∃ k, n' = k + 1 := ⟨n' - 1, by omega⟩
    rw [L_X6_least_165.eq_2, if_pos (nI_le (by omega) (by omega))]
    rfl
  | succ m ih =>
    intro g n' a h1 h2 h3
    obtain ⟨n', rfl⟩ : ∃ k, n' = k + 1 := ⟨n' - 1, by omega⟩
    have h4 := hs g (by omega)
    have h5 := hL g
    have hd := dy_b (sk := sk) (L := L) (g := g) h4.2 h5
    have ed : ((nI (L g) + nI (sk g)) - 1) / nI (sk g) = nI (dy sk L g) := by
      rw [nI_add, show (1 : Int32) = nI 1 from rfl, pk_sub (by omega), pk_div (by omega) (by omega) (by omega)]
      rfl
    rw [L_X6_least_165.eq_2, if_neg (nI_ge (by omega) (by omega))]
    unfold nz
    simp only [ix_nI (show g < 3 by omega) (show 3 < 2 ^ 31 by decide), ix_nI (show g < 6 by omega) (show 6 < 2 ^ 31 by decide), nI_clamp (show g < 2 ^ 31 by omega), hR.1 g (by omega), hR.2 g (by omega), if_neg (nI_ne0 (show 0 < sk g by omega) (show sk g < 2 ^ 31 by omega)), nm_eq, ed, nI_1]
    rw [max_nI (by omega) (by omega), moR]
    exact ih (g + 1) n' _ (by omega) (by omega) (Nat.max_le.mpr ⟨h3, hd⟩)
/-- what the model knows behind x ways -/
def Bst (k : Nat) (sk w : Nat → Nat) (n x : Nat) (best : Int32) : Prop :=
  (x = 0 ∧ best = -1) ∨ ∃ b, best = nI b ∧ b ≤ 700 ∧ (∃ y, y < x ∧ b = ev k sk w n 0 y (fun _ => 0)) ∧ ∀ y, y < x → b ≤ ev k sk w n 0 y (fun _ => 0)
theorem m85 {S6 : Nat → Int32} {J : Int32 → (Nat → Nat → Int32) → Option (Int32 × (Nat → Nat → Int32))} {n k : Nat} {sk w : Nat → Nat} (hk1 : 1 ≤ k) (hk : k ≤ 3) (hn : n ≤ 6) (hs : ∀ g, g < k → 1 ≤ sk g ∧ sk g ≤ 20) (hw : ∀ i, w i ≤ 103) (hp : k ^ n < 1000) :
    ∀ (m x n' : Nat) (best : Int32) (A6 : Nat → Nat → Int32), x + m = k ^ n → m + 1 ≤ n' → Bst k sk w n x best → (∀ g, g < k → A6 5 g = nI (sk g)) → (∀ j, j < n → A6 13 j = nI (w j)) → ∃ best' B6, L_X6_least_85 S6 J n' (nI n) (nI k) (nI (k ^ n)) best (nI x) A6 = J best' B6 ∧ Bst k sk w n (k ^ n) best' ∧ ∀ j, j ≠ 14 → B6 j = A6 j := by
  intro m
  induction m with
  | zero =>
    intro x n' best A6 h1 h2 hB h5 h13
    obtain ⟨n', rfl⟩ : ∃ k, n' = k + 1 := ⟨n' - 1, by omega⟩
    refine ⟨best, A6, ?_, ?_, fun _ _ => rfl⟩
    · rw [L_X6_least_85.eq_2]
      simp only [nm_eq]
      rw [if_pos (nI_le (by omega) (by omega))]
    · rw [Nat.add_zero] at h1; rw [h1] at hB; exact hB
  | succ m ih =>
    intro x n' best A6 h1 h2 hB h5 h13
    obtain ⟨n', rfl⟩ : ∃ k, n' = k + 1 := ⟨n' - 1, by omega⟩
    rw [L_X6_least_85.eq_2]
    simp only [nm_eq]
    rw [if_neg (nI_ge (by omega) (by omega)), show (0 : Int32) = nI 0 from rfl]
    obtain ⟨C6, c1, c2, c3⟩ := m95 (S6 := S6) (J := fun (x2 : Int32) (x3 : Int32) (x4 : Int32) (x5 : Int32) (x6 : Int32) (A6 : Nat → Nat → Int32) => L_X6_least_122 S6 (fun (x2 : Int32) (x3 : Int32) (x4 : Int32) (x5 : Int32) (x6 : Int32) (A6 : Nat → Nat → Int32) => L_X6_least_165 S6 (fun (x2 : Int32) (x3 : Int32) (x4 : Int32) (x5 : Int32) (x6 : Int32) (x8 : Int32) (A6 : Nat → Nat → Int32) => if x5 = (-1) then L_X6_least_85 S6 J n' x2 x3 x4 x8 (x6 + 1) A6 else if x5 ≤ x8 then L_X6_least_85 S6 J n' x2 x3 x4 x5 (x6 + 1) A6 else L_X6_least_85 S6 J n' x2 x3 x4 x8 (x6 + 1) A6) FU x2 x3 x4 x5 x6 (nI 0) (nI 0) A6) FU x2 x3 x4 x5 x6 x6 (nI 0) A6) hk (nI n) (nI (k ^ n)) best (nI x) k 0 FU A6 (by omega) (by unfold FU; omega) (fun j hj => by omega)
    rw [c1]
    obtain ⟨D6, d1, d2, d3⟩ := m122 (S6 := S6) (sk := sk) (w := w) (J := fun (x2 : Int32) (x3 : Int32) (x4 : Int32) (x5 : Int32) (x6 : Int32) (A6 : Nat → Nat → Int32) => L_X6_least_165 S6 (fun (x2 : Int32) (x3 : Int32) (x4 : Int32) (x5 : Int32) (x6 : Int32) (x8 : Int32) (A6 : Nat → Nat → Int32) => if x5 = (-1) then L_X6_least_85 S6 J n' x2 x3 x4 x8 (x6 + 1) A6 else if x5 ≤ x8 then L_X6_least_85 S6 J n' x2 x3 x4 x5 (x6 + 1) A6 else L_X6_least_85 S6 J n' x2 x3 x4 x8 (x6 + 1) A6) FU x2 x3 x4 x5 x6 (nI 0) (nI 0) A6) hk1 hk hn (nI (k ^ n)) best (nI x) n 0 x FU (fun _ => 0) C6 (by omega) (by unfold FU; omega) (by omega) ⟨fun g hg => by rw [c3 5 (by omega)]; exact h5 g hg, c2⟩ (fun j hj => by rw [c3 13 (by omega)]; exact h13 j hj)
    rw [d1]
    have hLb : ∀ j, ldR k w n 0 x (fun _ => 0) j ≤ 1000 := fun j => by have := ldR_b (k := k) hw n 0 x (fun _ => 0) (fun _ => by omega) j; omega
    rw [m165 hk hs hLb d2 (nI n) (nI (k ^ n)) best (nI x) k 0 FU 0 (by omega) (by unfold FU; omega) (by omega), nI_1]
    have hev : moR sk (ldR k w n 0 x (fun _ => 0)) k 0 0 = ev k sk w n 0 x (fun _ => 0) := rfl
    rw [hev]
    have hub : ev k sk w n 0 x (fun _ => 0) ≤ 700 := ev_ub hw (fun g hg => (hs g hg).2) (fun _ => by omega) (by omega)
    have fr : ∀ j, j ≠ 14 → D6 j = A6 j := fun j hj => by rw [d3 j hj, c3 j hj]
    have go : ∀ best, Bst k sk w n (x + 1) best → ∃ best' B6, L_X6_least_85 S6 J n' (nI n) (nI k) (nI (k ^ n)) best (nI (x + 1)) D6 = J best' B6 ∧ Bst k sk w n (k ^ n) best' ∧ ∀ j, j ≠ 14 → B6 j = A6 j := by
      intro best hb
      obtain ⟨b', B6, g1, g2, g3⟩ := ih (x + 1) n' best D6 (by omega) (by omega) hb (fun g hg => by rw [fr 5 (by omega)]; exact h5 g hg) (fun j hj => by rw [fr 13 (by omega)]; exact h13 j hj)
      exact ⟨b', B6, g1, g2, fun j hj => by rw [g3 j hj, fr j hj]⟩
    rcases hB with ⟨z1, z2⟩ | ⟨b, z1, z2, z3, z4⟩
    · rw [if_pos z2]
      refine go _ (Or.inr ⟨_, rfl, hub, ⟨x, by omega, rfl⟩, fun y hy => ?_⟩)
      have : y = x := by omega
      subst this
      exact Nat.le_refl _
    · have zn : ¬ nI b = -1 := by
        intro e
        have := i_eq.mp e
        rw [nI_toInt (by omega)] at this
        have e2 : (-1 : Int32).toInt = -1 := rfl
        omega
      rw [z1, if_neg zn]
      by_cases c : b ≤ ev k sk w n 0 x (fun _ => 0)
      · rw [if_pos (nI_le c (by omega))]
        refine go _ (Or.inr ⟨b, rfl, z2, ?_, fun y hy => ?_⟩)
        · obtain ⟨y, hy, e⟩ := z3
          exact ⟨y, by omega, e⟩
        · by_cases e : y = x
          · subst e; exact c
          · exact z4 y (by omega)
      · rw [if_neg (nI_ge (by omega) (by omega))]
        refine go _ (Or.inr ⟨_, rfl, hub, ⟨x, by omega, rfl⟩, fun y hy => ?_⟩)
        by_cases e : y = x
        · subst e; exact Nat.le_refl _
        · have := z4 y (by omega); omega
theorem lz_loop {S2 : Nat → Int32} {A4 : Nat → Nat → Int32} {J : Int32 → Int32 → Int32 → (Nat → Nat → Int32) → Option (Int32 × (Nat → Nat → Int32))} (x1 x2 x3 : Int32) :
    ∀ (m g n' : Nat) (A2 : Nat → Nat → Int32), g + m = 3 → m + 1 ≤ n' → (∀ j, j < g → A2 9 j = nI 0) → ∃ B2, L_X2_leastDays_48 S2 A4 J n' x1 x2 x3 (nI g) A2 = J x1 x2 x3 B2 ∧ (∀ j, j < 3 → B2 9 j = nI 0) ∧ ∀ j, j ≠ 9 → B2 j = A2 j := by
  intro m
  induction m with
  | zero =>
    intro g n' A2 h1 h2 h3
    obtain ⟨n', rfl⟩ : ∃ k, n' = k + 1 := ⟨n' - 1, by omega⟩
    have : g = 3 := by omega
    subst this
    exact ⟨A2, by rw [L_X2_leastDays_48.eq_2, show (3 : Int32) = nI 3 from rfl, if_pos (nI_le (by omega) (by omega))], h3, fun _ _ => rfl⟩
  | succ m ih =>
    intro g n' A2 h1 h2 h3
    obtain ⟨n', rfl⟩ : ∃ k, n' = k + 1 := ⟨n' - 1, by omega⟩
    rw [L_X2_leastDays_48.eq_2, show (3 : Int32) = nI 3 from rfl, if_neg (nI_ge (by omega) (by omega)), ix_nI (by omega) (by decide), nI_clamp (by omega), nm_eq, nm_eq, nI_1]
    obtain ⟨B2, g1, g2, g3⟩ := ih (g + 1) n' (va_up A2 9 (upd (A2 9) g 0)) (by omega) (by omega) (fun j hj => by
        show upd (A2 9) g 0 j = nI 0
        rw [upd_at]
        by_cases e : j = g
        · rw [if_pos e]; rfl
        · rw [if_neg e]; exact h3 j (by omega))
    exact ⟨B2, g1, g2, fun j hj => by rw [g3 j hj, upA_at, if_neg hj]⟩
theorem RPa.work {S2 S6 : Nat → Int32} {A2 B2 A6 : Nat → Nat → Int32} (h : RPa S2 A2 S6 A6) (hB : ∀ j, j ≠ 9 → B2 j = A2 j) : RPa S2 B2 S6 A6 := by
  obtain ⟨h1, g, d, e1, e2, e3, e4, hI⟩ := h
  refine ⟨fun k a b => by rw [hB k (by omega)]; exact h1 k a b, g, d, e1, e2, e3, e4, ?_⟩
  unfold PaI
  rw [hB 1 (by omega), hB 2 (by omega), hB 3 (by omega), hB 4 (by omega), hB 6 (by omega)]
  exact hI
theorem pow_b {k n : Nat} (hk : k ≤ 3) (hn : n ≤ 6) : k ^ n < 1000 :=
  Nat.lt_of_le_of_lt (Nat.le_trans (Nat.pow_le_pow_left hk n) (Nat.pow_le_pow_right (by omega) hn)) (by decide)
theorem pa_least {S2 S6 : Nat → Int32} {A2 A4 A6 : Nat → Nat → Int32} (hR : RRd A4 A6) (hP : RPa S2 A2 S6 A6) (p1 p2 p3 : Int32) :
    ∃ r A2' A6', F_X5_least S2 A2 A4 p1 p2 p3 = some (r, A2') ∧ F_X6_least S6 A6 p1 p2 p3 = some (r, A6') ∧ RRd A4 A6' ∧ RPa S2 A2' S6 A6' ∧ ∀ j, (j < 1 ∨ 2 < j) → j ≠ 13 → j ≠ 14 → A6' j = A6 j := by
  have h10 : ¬ (1 : Int32) = 0 := by decide
  obtain ⟨hs, g, d, e1, e2, e3, e4, hI⟩ := id hP
  have hg := hI.1
  have l0 : (0 : Int32).toInt = 0 := rfl
  have l1 : (1 : Int32).toInt = 1 := rfl
  have l3 : (3 : Int32).toInt = 3 := rfl
  have l6 : (6 : Int32).toInt = 6 := rfl
  have l72 : (72 : Int32).toInt = 72 := rfl
  have lg : (nI g).toInt = g := nI_toInt (by omega)
  have same : ∃ (r : Int32) (A2' A6' : Nat → Nat → Int32), (bd (some ((-1 : Int32), A2)) fun z_1 => some (z_1.1, z_1.2)) = some (r, A2') ∧ some ((-1 : Int32), A6) = some (r, A6') ∧ RRd A4 A6' ∧ RPa S2 A2' S6 A6' ∧ ∀ j, (j < 1 ∨ 2 < j) → j ≠ 13 → j ≠ 14 → A6' j = A6 j := ⟨-1, A2, A6, rfl, rfl, hR, hP, fun _ _ _ _ => rfl⟩
  unfold F_X5_least F_X2_leastDays F_X6_least
  simp only [nm_eq, isIn_eq, bd_some]
  by_cases c1 : p2 < 1
  · rw [if_pos c1, if_pos (Or.inl c1), if_pos rfl]; exact same
  by_cases c2 : 6 < p2
  · rw [if_neg c1, if_pos c2, if_pos (Or.inr c2), if_pos rfl]; exact same
  have n1 : ¬ (p2 < 1 ∨ 6 < p2) := fun h => h.elim c1 c2
  rw [if_neg c1, if_neg c2, if_neg n1, if_neg h10]
  have q2a : 1 ≤ p2.toInt := by rw [i_lt] at c1; omega
  have q2b : p2.toInt ≤ 6 := by rw [i_lt] at c2; omega
  have hsub : (72 - p2).toInt = 72 - p2.toInt := by rw [i_sub (by omega) (by omega), l72]
  by_cases c3 : p1 < 0
  · rw [if_pos c3, if_pos (Or.inl c3), if_pos rfl]; exact same
  rw [if_neg c3]
  by_cases c4 : p1 ≤ 72 - p2
  rotate_left
  · rw [if_neg c4, if_pos (Or.inr (by rw [i_lt]; rw [i_le] at c4; omega)), if_pos rfl]; exact same
  have n2 : ¬ (p1 < 0 ∨ 72 - p2 < p1) := fun h => h.elim c3 (fun h => by rw [i_lt] at h; rw [i_le] at c4; omega)
  rw [if_pos c4, if_neg n2, if_neg h10, e2, e1]
  by_cases c5 : p3 < 1
  · rw [if_pos c5, if_pos (Or.inl c5), if_pos rfl]; exact same
  rw [if_neg c5]
  have hmin : ((if nI g < 3 then nI g else 3) : Int32).toInt = min (g : Int) 3 := by
    by_cases c : nI g < 3
    · rw [if_pos c, lg]; rw [i_lt, lg, l3] at c; omega
    · rw [if_neg c, l3]; rw [i_lt, lg, l3] at c; omega
  by_cases c6 : 3 < p3
  · rw [if_pos c6, if_pos (Or.inr (by rw [i_lt, hmin]; rw [i_lt] at c6; omega)), if_pos rfl]; exact same
  rw [if_neg c6]
  by_cases c7 : p3 ≤ nI g
  rotate_left
  · rw [if_neg c7, if_pos (Or.inr (by rw [i_lt, hmin]; rw [i_le, lg] at c7; omega)), if_pos rfl]; exact same
  have n3 : ¬ (p3 < 1 ∨ (if nI g < 3 then nI g else 3) < p3) := fun h => h.elim c5 (fun h => by rw [i_lt, hmin] at h; rw [i_le, lg] at c7; rw [i_lt] at c6; omega)
  rw [if_pos c7, if_neg n3, if_neg h10]
  obtain ⟨n, hn0, rfl, hn⟩ := i_of (x := p2) (by omega)
  obtain ⟨first, hf0, rfl, hf⟩ := i_of (x := p1) (by rw [i_lt] at c3; omega)
  obtain ⟨k, hk0, rfl, hkk⟩ := i_of (x := p3) (by rw [i_lt] at c5; omega)
  rw [i_le, hsub] at c4
  rw [i_lt] at c5 c6
  rw [i_le, lg] at c7
  have hn1 : 1 ≤ n := by omega
  have hn6 : n ≤ 6 := by omega
  have hfn : first + n ≤ 72 := by omega
  have hk1 : 1 ≤ k := by omega
  have hk3 : k ≤ 3 := by omega
  have hkg : k ≤ g := by omega
  -- skills and works as numbers
  have hsk : ∀ j, j < k → A2 1 j = nI ((A2 1 j).toNatClampNeg) ∧ 1 ≤ (A2 1 j).toNatClampNeg ∧ (A2 1 j).toNatClampNeg ≤ 20 := by
    intro j hj
    have b := hI.2.2.1 j (by omega)
    obtain ⟨y, y1, y2, y3⟩ := i_of (x := A2 1 j) (by omega)
    rw [y2, nI_clamp y1]
    exact ⟨rfl, by omega, by omega⟩
  have hw : ∀ i, 3 + sq (A6 0) (first + i) = nI ((3 + sq (A6 0) (first + i)).toNatClampNeg) ∧ (3 + sq (A6 0) (first + i)).toNatClampNeg ≤ 103 := by
    intro i
    obtain ⟨y, y1, y2⟩ := sq_bnd (A6 0) (first + i)
    rw [y2, show (3 : Int32) = nI 3 from rfl, nI_add, nI_clamp (by omega)]
    exact ⟨rfl, by omega⟩
  obtain ⟨sk, esk⟩ : ∃ sk : Nat → Nat, sk = fun j => (A2 1 j).toNatClampNeg := ⟨_, rfl⟩
  obtain ⟨w, ew⟩ : ∃ w : Nat → Nat, w = fun i => (3 + sq (A6 0) (first + i)).toNatClampNeg := ⟨_, rfl⟩
  have hsk1 : ∀ j, j < k → A2 1 j = nI (sk j) := fun j hj => by rw [esk]; exact (hsk j hj).1
  have hsk2 : ∀ j, j < k → 1 ≤ sk j ∧ sk j ≤ 20 := fun j hj => by rw [esk]; exact (hsk j hj).2
  have hw1 : ∀ i, 3 + sq (A6 0) (first + i) = nI (w i) := fun i => by rw [ew]; exact (hw i).1
  have hw2 : ∀ i, w i ≤ 103 := fun i => by rw [ew]; exact (hw i).2
  -- the class
  obtain ⟨B2, z1, z2, z3⟩ := lz_loop (S2 := S2) (A4 := A4) (J := fun (x1 : Int32) (x2 : Int32) (x3 : Int32) (A2 : Nat → Nat → Int32) => bd (F_X2_leastBelow A2 A4 2147483647 x1 (x1 + x2) x3) fun z_1 => some (z_1.1, z_1.2)) (nI first) (nI n) (nI k) 3 0 FU A2 (by omega) (by unfold FU; omega) (fun j hj => by omega)
  have hRX : ReX k sk (fun _ => 0) B2 := ⟨fun j hj => by rw [z3 1 (by omega)]; exact hsk1 j hj, z2⟩
  obtain ⟨C2, r1, r2, r3⟩ := lx_spec (A4 := A4) (first := first) (n := n) hk1 hk3 hsk2 hw2 hn6 hfn (fun i hi => by rw [fw_spec hR (by omega), hw1]) n 0 8 2147483647 (fun _ => 0) B2 (by omega) (by omega) (by decide) hRX (fun _ => by omega)
  -- the model
  obtain ⟨D6, m1, m2, m3, m4⟩ := m46 (S6 := S6) (J := fun (x2 : Int32) (x3 : Int32) (x4 : Int32) (A6 : Nat → Nat → Int32) => L_X6_least_85 S6 (fun (x5 : Int32) (A6 : Nat → Nat → Int32) => some (x5, A6)) FU x2 x3 x4 (-1) (nI 0) A6) (M := A6 0) (first := first) (n := n) (k := k) hk3 hn6 hfn (fun i _ => hw1 i) n 0 FU A6 (by omega) (by unfold FU; omega) hR.2.1 rfl (fun j hj => by omega)
  obtain ⟨best, B6, b1, b2, b3⟩ := m85 (S6 := S6) (J := fun (x5 : Int32) (A6 : Nat → Nat → Int32) => some (x5, A6)) (n := n) hk1 hk3 hn6 hsk2 hw2 (pow_b hk3 hn6) (k ^ n) 0 FU (-1) D6 (by omega) (by have := pow_b hk3 hn6; unfold FU; omega) (Or.inl ⟨rfl, rfl⟩) (fun j hj => by rw [m4 5 (by omega) (by omega) (by omega), ← hs 1 (by omega) (by omega)]; exact hsk1 j hj) m3
  obtain ⟨s1, s2, s3⟩ := lb_isL sk w hk1 n 0 (fun _ => 0) 2147483647
  have hpos : 0 < k ^ n := Nat.pow_pos (by omega)
  have hfin : best = nI (lb k sk w n 0 (fun _ => 0) 2147483647) := by
    rcases b2 with ⟨y1, -⟩ | ⟨b, y1, y2, ⟨x, hx, y3⟩, y4⟩
    · omega
    · rw [y1]
      congr 1
      refine isL_uniq y4 ⟨x, hx, y3⟩ s2 ?_
      rcases s3 with t | t
      · have := s2 0 hpos
        have := ev_ub (m := n) (i := 0) (x := 0) (L := fun _ => 0) hw2 (fun j hj => (hsk2 j hj).2) (fun _ => by omega) (by omega)
        omega
      · exact t
  rw [show nI (k ^ 0) = (1 : Int32) from rfl] at m1
  rw [show (0 : Int32) = nI 0 from rfl, z1, m1, b1]
  unfold F_X2_leastBelow
  rw [nI_add]
  have r1' : F_X2_leastBelow_r 8 B2 A4 2147483647 (nI first) (nI (first + n)) (nI k) = some (nI (lb k sk w n 0 (fun _ => 0) 2147483647), C2) := r1
  rw [r1', bd_some, bd_some, hfin]
  have hfr : ∀ j, (j < 1 ∨ 2 < j) → j ≠ 13 → j ≠ 14 → B6 j = A6 j := fun j a b c => by rw [b3 j c, m4 j (by omega) (by omega) b]
  refine ⟨_, C2, B6, rfl, rfl, ?_, ?_, hfr⟩
  · have hD : RRd A4 D6 := ⟨by rw [m4 0 (by omega) (by omega) (by omega)]; exact hR.1, m2, hR.2.2⟩
    exact hD.congr (fun j hj => b3 j (by omega))
  · refine RPa.work (A2 := A2) ?_ (fun j hj => by rw [r3 j hj, z3 j hj])
    exact hP.congr rfl rfl (fun j h1 h2 => hfr j (by omega) (by omega) (by omega))
