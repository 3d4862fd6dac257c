/-! least days, by numbers -/
def dy (sk L : Nat → Nat) (g : Nat) : Nat := (L g + sk g - 1) / sk g
def moR (sk L : Nat → Nat) : Nat → Nat → Nat → Nat
  | 0, _, a => a
  | m + 1, g, a => moR sk L m (g + 1) (max a (dy sk L g))
theorem moR_le (sk L : Nat → Nat) : ∀ m g a, a ≤ moR sk L m g a := by
  intro m
  induction m with
  | zero => intro g a; exact Nat.le_refl _
  | succ m ih => intro g a; exact Nat.le_trans (Nat.le_max_left _ _) (ih (g + 1) _)
theorem moR_ge (sk L : Nat → Nat) : ∀ m g a j, g ≤ j → j < g + m → dy sk L j ≤ moR sk L m g a := by
  intro m
  induction m with
  | zero => intro g a j h1 h2; omega
  | succ m ih =>
    intro g a j h1 h2
    rw [moR]
    by_cases e : j = g
    · subst e; exact Nat.le_trans (Nat.le_max_right _ _) (moR_le sk L m _ _)
    · exact ih (g + 1) _ j (by omega) (by omega)
theorem moR_ub (sk L : Nat → Nat) (B : Nat) : ∀ m g a, a ≤ B → (∀ j, g ≤ j → j < g + m → dy sk L j ≤ B) → moR sk L m g a ≤ B := by
  intro m
  induction m with
  | zero => intro g a h _; exact h
  | succ m ih =>
    intro g a h h2
    rw [moR]
    exact ih (g + 1) _ (Nat.max_le.mpr ⟨h, h2 g (by omega) (by omega)⟩) (fun j a b => h2 j (by omega) (by omega))
def adL (L : Nat → Nat) (g a : Nat) : Nat → Nat := fun j => if j = g then L j + a else L j
def ldR (k : Nat) (w : Nat → Nat) : Nat → Nat → Nat → (Nat → Nat) → Nat → Nat
  | 0, _, _, L => L
  | m + 1, i, x, L => ldR k w m (i + 1) (x / k) (adL L (x % k) (w i))
theorem adL_ge (L : Nat → Nat) (g a j : Nat) : L j ≤ adL L g a j := by
  unfold adL
  by_cases e : j = g
  · rw [if_pos e]; omega
  · rw [if_neg e]; exact Nat.le_refl _
theorem ldR_ge (k : Nat) (w : Nat → Nat) : ∀ m i x (L : Nat → Nat) j, L j ≤ ldR k w m i x L j := by
  intro m
  induction m with
  | zero => intro i x L j; exact Nat.le_refl _
  | succ m ih => intro i x L j; rw [ldR]; exact Nat.le_trans (adL_ge _ _ _ _) (ih _ _ _ j)
theorem adL_b {w : Nat → Nat} (hw : ∀ i, w i ≤ 103) {L : Nat → Nat} {i : Nat} (h : ∀ j, L j ≤ 103 * i) (g : Nat) : ∀ j, adL L g (w i) j ≤ 103 * (i + 1) := by
  intro j
  have h1 := h j
  have h2 := hw i
  unfold adL
  by_cases e : j = g
  · rw [if_pos e]; omega
  · rw [if_neg e]; omega
theorem ldR_b {k : Nat} {w : Nat → Nat} (hw : ∀ i, w i ≤ 103) : ∀ m i x (L : Nat → Nat), (∀ j, L j ≤ 103 * i) → ∀ j, ldR k w m i x L j ≤ 103 * (i + m) := by
  intro m
  induction m with
  | zero => intro i x L h j; exact h j
  | succ m ih =>
    intro i x L h j
    rw [ldR, show i + (m + 1) = (i + 1) + m by omega]
    exact ih (i + 1) _ _ (adL_b hw h _) j
/-- the most days of a way x of giving the works from i on -/
def ev (k : Nat) (sk w : Nat → Nat) (m i x : Nat) (L : Nat → Nat) : Nat := moR sk (ldR k w m i x L) k 0 0
theorem dy_mono {sk L L' : Nat → Nat} {g : Nat} (h : L g ≤ L' g) : dy sk L g ≤ dy sk L' g := by
  unfold dy
  exact Nat.div_le_div_right (by omega)
theorem ev_ge {k : Nat} (sk w : Nat → Nat) {m i x : Nat} {L : Nat → Nat} {g : Nat} (hg : g < k) : dy sk L g ≤ ev k sk w m i x L :=
  Nat.le_trans (dy_mono (ldR_ge k w m i x L g)) (moR_ge sk _ k 0 0 g (by omega) (by omega))
theorem ev_ub {k : Nat} {sk w : Nat → Nat} (hw : ∀ i, w i ≤ 103) (hs : ∀ g, g < k → sk g ≤ 20) {m i x : Nat} {L : Nat → Nat} (h : ∀ j, L j ≤ 103 * i) (hi : i + m ≤ 6) : ev k sk w m i x L ≤ 700 := by
  refine moR_ub sk _ 700 k 0 0 (by omega) (fun j _ hj => ?_)
  have h1 := ldR_b (k := k) hw m i x L h j
  have h2 := hs j (by omega)
  unfold dy
  refine Nat.le_trans (Nat.div_le_self _ _) ?_
  omega
/-- the bounded search -/
def lgG (f : Nat → Nat → Nat) : Nat → Nat → Nat → Nat
  | 0, _, b => b
  | j + 1, g, b => lgG f j (g + 1) (f g b)
def lb (k : Nat) (sk w : Nat → Nat) : Nat → Nat → (Nat → Nat) → Nat → Nat
  | 0, _, L, b => min b (moR sk L k 0 0)
  | m + 1, i, L, b => lgG (fun g b => lb k sk w m (i + 1) (adL L g (w i)) b) k 0 b
/-- r is b or the least of the ways' days, whichever is less -/
def IsL (k : Nat) (sk w : Nat → Nat) (m i : Nat) (L : Nat → Nat) (b r : Nat) : Prop :=
  r ≤ b ∧ (∀ x, x < k ^ m → r ≤ ev k sk w m i x L) ∧ (r = b ∨ ∃ x, x < k ^ m ∧ r = ev k sk w m i x L)
theorem ev_cons {k : Nat} (sk w : Nat → Nat) {m i g x : Nat} {L : Nat → Nat} (hg : g < k) : ev k sk w (m + 1) i (g + k * x) L = ev k sk w m (i + 1) x (adL L g (w i)) := by
  unfold ev
  rw [ldR, Nat.add_mul_mod_self_left, Nat.mod_eq_of_lt hg, Nat.add_mul_div_left _ _ (by omega), Nat.div_eq_of_lt hg, Nat.zero_add]
theorem lb_isL {k : Nat} (sk w : Nat → Nat) (hk : 1 ≤ k) : ∀ m i (L : Nat → Nat) b, IsL k sk w m i L b (lb k sk w m i L b) := by
  intro m
  induction m with
  | zero =>
    intro i L b
    refine ⟨Nat.min_le_left _ _, fun x _ => Nat.min_le_right _ _, ?_⟩
    rw [lb]
    rcases Nat.le_total b (moR sk L k 0 0) with h | h
    · exact Or.inl (Nat.min_eq_left h)
    · exact Or.inr ⟨0, by simp, Nat.min_eq_right h⟩
  | succ m ih =>
    intro i L b
    have loop : ∀ j g b, g + j = k → lgG (fun g b => lb k sk w m (i + 1) (adL L g (w i)) b) j g b ≤ b ∧ (∀ g', g ≤ g' → g' < k → ∀ x, x < k ^ m → lgG (fun g b => lb k sk w m (i + 1) (adL L g (w i)) b) j g b ≤ ev k sk w m (i + 1) x (adL L g' (w i))) ∧ (lgG (fun g b => lb k sk w m (i + 1) (adL L g (w i)) b) j g b = b ∨ ∃ g' x, g' < k ∧ x < k ^ m ∧ lgG (fun g b => lb k sk w m (i + 1) (adL L g (w i)) b) j g b = ev k sk w m (i + 1) x (adL L g' (w i))) := by
      intro j
      induction j with
      | zero => intro g b h; exact ⟨Nat.le_refl _, fun g' h1 h2 => by omega, Or.inl rfl⟩
      | succ j jh =>
        intro g b h
        rw [lgG]
        obtain ⟨a1, a2, a3⟩ := ih (i + 1) (adL L g (w i)) b
        obtain ⟨b1, b2, b3⟩ := jh (g + 1) (lb k sk w m (i + 1) (adL L g (w i)) b) (by omega)
        refine ⟨Nat.le_trans b1 a1, ?_, ?_⟩
        · intro g' h1 h2 x hx
          by_cases e : g' = g
          · subst e; exact Nat.le_trans b1 (a2 x hx)
          · exact b2 g' (by omega) h2 x hx
        · rcases b3 with z | z
          · rcases a3 with y | ⟨x, y1, y2⟩
            · exact Or.inl (z.trans y)
            · exact Or.inr ⟨g, x, by omega, y1, z.trans y2⟩
          · exact Or.inr z
    obtain ⟨c1, c2, c3⟩ := loop k 0 b (by omega)
    refine ⟨c1, ?_, ?_⟩
    · intro x hx
      have h1 : x % k < k := Nat.mod_lt _ (by omega)
      have h2 : x / k < k ^ m := Nat.div_lt_of_lt_mul (by rw [Nat.pow_succ, Nat.mul_comm] at hx; exact hx)
      have h3 := c2 (x % k) (by omega) h1 (x / k) h2
      rw [← ev_cons sk w h1, Nat.mod_add_div] at h3
      exact h3
    · rcases c3 with z | ⟨g, x, z1, z2, z3⟩
      · exact Or.inl z
      · refine Or.inr ⟨g + k * x, ?_, ?_⟩
        · rw [Nat.pow_succ, Nat.mul_comm (k ^ m) k]
          have : k * (x + 1) ≤ k * k ^ m := Nat.mul_le_mul_left k z2
          rw [Nat.mul_add, Nat.mul_one] at this
          omega
        · rw [ev_cons sk w z1]; exact z3
/-- where a gang is already as slow, nothing is bettered -/
theorem lb_prune {k : Nat} (sk w : Nat → Nat) (hk : 1 ≤ k) {m i g b : Nat} {L : Nat → Nat} (hg : g < k) (h : b ≤ dy sk L g) : lb k sk w m i L b = b := by
  obtain ⟨h1, h2, h3⟩ := lb_isL sk w hk m i L b
  rcases h3 with z | ⟨x, hx, z⟩
  · exact z
  · have := ev_ge sk w (m := m) (i := i) (x := x) (L := L) hg
    omega
theorem isL_uniq {k : Nat} {sk w : Nat → Nat} {m i : Nat} {L : Nat → Nat} {r b : Nat} (h1 : ∀ x, x < k ^ m → r ≤ ev k sk w m i x L) (h2 : ∃ x, x < k ^ m ∧ r = ev k sk w m i x L) (h3 : ∀ x, x < k ^ m → b ≤ ev k sk w m i x L) (h4 : ∃ x, x < k ^ m ∧ b = ev k sk w m i x L) : r = b := by
  obtain ⟨x, hx, e⟩ := h2
  obtain ⟨y, hy, f⟩ := h4
  have a1 := h1 y hy
  have a2 := h3 x hx
  omega
/-! the class -/
def ReX (k : Nat) (sk L : Nat → Nat) (A2 : Nat → Nat → Int32) : Prop := (∀ g, g < k → A2 1 g = nI (sk g)) ∧ ∀ g, g < 3 → A2 9 g = nI (L g)
theorem dx_spec {k : Nat} {sk L : Nat → Nat} {A2 : Nat → Nat → Int32} (h : ReX k sk L A2) (hk : k ≤ 3) (hs : ∀ g, g < k → 1 ≤ sk g ∧ sk g ≤ 20) (hL : ∀ j, L j ≤ 1000) {g : Nat} (hg : g < k) : F_X2_daysOf A2 (nI g) = some (nI (dy sk L g)) := by
  have h1 := hs g hg
  have h2 := hL g
  unfold F_X2_daysOf
  rw [if_neg (nI_pos (by omega)), show (3 : Int32) = nI 3 from rfl, if_neg (nI_ge (by omega) (by decide))]
  simp only [ix_nI (show g < 6 by omega) (show 6 < 2 ^ 31 by decide), ix_nI (show g < 3 by omega) (show 3 < 2 ^ 31 by decide), nI_clamp (show g < 2 ^ 31 by omega), h.1 g hg, h.2 g (by omega)]
  rw [if_pos (by rw [show (1 : Int32) = nI 1 from rfl]; exact nI_le h1.1 (by omega))]
  unfold nz
  rw [if_neg (nI_ne0 (by omega) (by omega)), nI_add, show (1 : Int32) = nI 1 from rfl, pk_sub (by omega), pk_div (by omega) (by omega) (by omega)]
  rfl
theorem dy_b {sk L : Nat → Nat} {g : Nat} (h1 : sk g ≤ 20) (h2 : L g ≤ 1000) : dy sk L g ≤ 1100 := by
  unfold dy
  refine Nat.le_trans (Nat.div_le_self _ _) ?_
  omega
theorem max_nI {a b : Nat} (ha : a < 2 ^ 31) (hb : b < 2 ^ 31) : (if nI a < nI b then nI b else nI a) = nI (max a b) := by
  by_cases c : a < b
  · rw [if_pos (nI_lt c hb), Nat.max_eq_right (by omega)]
  · rw [if_neg (nI_nlt (by omega) ha), Nat.max_eq_left (by omega)]
theorem mx_loop {k : Nat} {sk L : Nat → Nat} {A2 : Nat → Nat → Int32} {J : Int32 → Option Int32} (h : ReX k sk L A2) (hk : k ≤ 3) (hs : ∀ g, g < k → 1 ≤ sk g ∧ sk g ≤ 20) (hL : ∀ j, L j ≤ 1000) :
    ∀ (m g n a : Nat), g + m = k → m + 1 ≤ n → a ≤ 1100 → L_X2_mostDays_4 A2 J n (nI k) (nI a) (nI g) = J (nI (moR sk L m g a)) := by
  intro m
  induction m with
  | zero =>
    intro g n a h1 h2 h3
    obtain ⟨n, rfl⟩ : ∃ k, n = k + 1 := ⟨n - 1, by omega⟩
    rw [L_X2_mostDays_4.eq_2, if_pos (nI_le (by omega) (by omega))]
    rfl
  | succ m ih =>
    intro g n a h1 h2 h3
    obtain ⟨n, rfl⟩ : ∃ k, n = k + 1 := ⟨n - 1, by omega⟩
    have hd := dy_b (sk := sk) (L := L) (g := g) (hs g (by omega)).2 (hL g)
    rw [L_X2_mostDays_4.eq_2, if_neg (nI_ge (by omega) (by omega)), dx_spec h hk hs hL (by omega), bd_some, nm_eq, nm_eq, max_nI (by omega) (by omega), nI_1, moR]
    exact ih (g + 1) n _ (by omega) (by omega) (Nat.max_le.mpr ⟨h3, hd⟩)
theorem ReX.add {k : Nat} {sk L : Nat → Nat} {A2 : Nat → Nat → Int32} (h : ReX k sk L A2) (g a : Nat) : ReX k sk (adL L g a) (va_up A2 9 (upd (A2 9) g (nI (L g + a)))) := by
  refine ⟨h.1, fun j hj => ?_⟩
  show upd (A2 9) g (nI (L g + a)) j = nI (adL L g a j)
  unfold adL
  rw [upd_at]
  by_cases e : j = g
  · rw [if_pos e, if_pos e, e]
  · rw [if_neg e, if_neg e]; exact h.2 j hj
theorem lx_spec {A4 : Nat → Nat → Int32} {first n k : Nat} {sk w : Nat → Nat} (hk1 : 1 ≤ k) (hk : k ≤ 3) (hs : ∀ g, g < k → 1 ≤ sk g ∧ sk g ≤ 20) (hw : ∀ i, w i ≤ 103) (hn : n ≤ 6) (hf : first + n ≤ 72) (hW : ∀ i, i < n → F_X2_firstCoatWork A4 (nI (first + i)) = some (nI (w i))) :
    ∀ (m i dd b : Nat) (L : Nat → Nat) (A2 : Nat → Nat → Int32), i + m = n → m + 1 ≤ dd → b < 2 ^ 31 → ReX k sk L A2 → (∀ j, L j ≤ 103 * i) → ∃ B2, F_X2_leastBelow_r dd A2 A4 (nI b) (nI (first + i)) (nI (first + n)) (nI k) = some (nI (lb k sk w m i L b), B2) ∧ ReX k sk L B2 ∧ ∀ j, j ≠ 9 → B2 j = A2 j := by
  intro m
  induction m with
  | zero =>
    intro i dd b L A2 h1 h2 h3 hR hL
    obtain ⟨dd, rfl⟩ : ∃ k, dd = k + 1 := ⟨dd - 1, by omega⟩
    have hL' : ∀ j, L j ≤ 1000 := fun j => by have := hL j; omega
    have hmo : moR sk L k 0 0 ≤ 1100 := moR_ub sk L 1100 k 0 0 (by omega) (fun j _ hj => dy_b (hs j (by omega)).2 (hL' j))
    refine ⟨A2, ?_, hR, fun _ _ => rfl⟩
    rw [F_X2_leastBelow_r.eq_2, nm_eq, if_neg (nI_nlt (by omega) (by omega))]
    unfold F_X2_mostDays
    rw [nm_eq, show (0 : Int32) = nI 0 from rfl, mx_loop hR hk hs hL' k 0 FU 0 (by omega) (by unfold FU; omega) (by omega), bd_some, nm_eq, lb]
    congr 2
    by_cases c : moR sk L k 0 0 < b
    · rw [if_pos (nI_lt c h3), Nat.min_eq_right (by omega)]
    · rw [if_neg (nI_nlt (by omega) (by omega)), Nat.min_eq_left (by omega)]
  | succ m ih =>
    intro i dd b L A2 h1 h2 h3 hR hL
    obtain ⟨dd, rfl⟩ : ∃ k, dd = k + 1 := ⟨dd - 1, by omega⟩
    rw [F_X2_leastBelow_r.eq_2, nm_eq, if_pos (nI_lt (by omega) (by omega)), hW i (by omega), bd_some, lb]
    have loop : ∀ (j g n' b : Nat) (A2 : Nat → Nat → Int32), g + j = k → j + 1 ≤ n' → b < 2 ^ 31 → ReX k sk L A2 → ∃ B2, L_X2_leastBelow_29 A4 (F_X2_leastBelow_r dd) (fun (x6 : Int32) (A2 : Nat → Nat → Int32) => some (x6, A2)) n' (nI (first + i)) (nI (first + n)) (nI k) (nI (w i)) (nI b) (nI g) A2 = some (nI (lgG (fun g b => lb k sk w m (i + 1) (adL L g (w i)) b) j g b), B2) ∧ ReX k sk L B2 ∧ ∀ j, j ≠ 9 → B2 j = A2 j := by
      intro j
      induction j with
      | zero =>
        intro g n' b A2 e1 e2 e3 hR
        obtain ⟨n', rfl⟩ : ∃ k, n' = k + 1 := ⟨n' - 1, by omega⟩
        refine ⟨A2, ?_, hR, fun _ _ => rfl⟩
        rw [L_X2_leastBelow_29.eq_2, nm_eq, if_pos (nI_le (by omega) (by omega))]
        rfl
      | succ j jh =>
        intro g n' b A2 e1 e2 e3 hR
        obtain ⟨n', rfl⟩ : ∃ k, n' = k + 1 := ⟨n' - 1, by omega⟩
        have hg : g < k := by omega
        have hA := hR.add g (w i)
        have hLa : ∀ j, adL L g (w i) j ≤ 103 * (i + 1) := adL_b hw hL g
        have hLa' : ∀ j, adL L g (w i) j ≤ 1000 := fun j => by have := hLa j; omega
        have hcg : (nI g).toNatClampNeg = g := nI_clamp (by omega)
        have back : ∀ B : Nat → Nat → Int32, ReX k sk (adL L g (w i)) B → ReX k sk L (va_up B 9 (upd (B 9) g (B 9 g - nI (w i)))) := by
          intro B hB
          refine ⟨hB.1, fun x hx => ?_⟩
          show upd (B 9) g (B 9 g - nI (w i)) x = nI (L x)
          rw [upd_at]
          by_cases e : x = g
          · rw [if_pos e, hB.2 g (by omega), e]
            unfold adL
            rw [if_pos rfl, pk_sub (by omega)]
            congr 1
            omega
          · rw [if_neg e, hB.2 x hx]
            unfold adL
            rw [if_neg e]
        rw [L_X2_leastBelow_29.eq_2, nm_eq, if_neg (nI_ge hg (by omega)), show (3 : Int32) = nI 3 from rfl, if_neg (nI_ge (by omega) (by decide))]
        simp only [ix_nI (show g < 3 by omega) (show 3 < 2 ^ 31 by decide), hcg, nm_eq, hR.2 g (by omega), nI_add]
        rw [dx_spec hA hk hs hLa' hg, bd_some, lgG]
        have hd := dy_b (sk := sk) (L := adL L g (w i)) (g := g) (hs g hg).2 (hLa' g)
        by_cases c : b ≤ dy sk (adL L g (w i)) g
        · rw [if_pos (nI_le c (by omega)), nI_1, lb_prune sk w hk1 hg c]
          obtain ⟨B2, q1, q2, q3⟩ := jh (g + 1) n' b _ (by omega) (by omega) e3 (back _ hA)
          refine ⟨B2, q1, q2, fun x hx => ?_⟩
          rw [q3 x hx, upA_at, if_neg hx, upA_at, if_neg hx]
        · rw [if_neg (nI_ge (by omega) (by omega)), nI_1]
          obtain ⟨C2, r1, r2, r3⟩ := ih (i + 1) dd b (adL L g (w i)) _ (by omega) (by omega) e3 hA hLa
          rw [show first + i + 1 = first + (i + 1) by omega, r1, bd_some]
          have hle := (lb_isL sk w hk1 m (i + 1) (adL L g (w i)) b).1
          obtain ⟨B2, q1, q2, q3⟩ := jh (g + 1) n' (lb k sk w m (i + 1) (adL L g (w i)) b) _ (by omega) (by omega) (by omega) (back _ r2)
          refine ⟨B2, ?_, q2, fun x hx => ?_⟩
          · rw [← q1, nI_1]
          · rw [q3 x hx, upA_at, if_neg hx, r3 x hx, upA_at, if_neg hx]
    exact loop k 0 FU b A2 (by omega) (by unfold FU; omega) h3 hR
