/-! sums; squares; the model's work and count of places -/
def sm (f : Nat → Int32) : Nat → Int32
  | 0 => 0
  | n + 1 => sm f n + f n
def qs (f : Nat → Int32) : Nat → Nat → Int32 → Int32
  | 0, _, a => a
  | k + 1, p, a => qs f k (p + 1) (a + f p)
theorem a_1 (a b c : Int32) : a + b + c = a + (b + c) := Int32.add_assoc a b c
theorem a_c {a b c d : Int32} (h1 : a = c) (h2 : b = d) : a + b = c + d := by rw [h1, h2]
theorem sm_left (f : Nat → Int32) : ∀ n, sm f (n + 1) = f 0 + sm (fun i => f (i + 1)) n := by
  intro n
  induction n with
  | zero => show 0 + f 0 = f 0 + 0; rw [Int32.zero_add, Int32.add_zero]
  | succ n ih => rw [sm, ih, sm, a_1]
theorem sm_congr {f g : Nat → Int32} : ∀ n, (∀ i, i < n → f i = g i) → sm f n = sm g n := by
  intro n
  induction n with
  | zero => intro _; rfl
  | succ n ih => intro h; rw [sm, sm, ih (fun i hi => h i (by omega)), h n (by omega)]
theorem qs_sm (f : Nat → Int32) : ∀ (k p : Nat) (a : Int32), qs f k p a = a + sm (fun i => f (p + i)) k := by
  intro k
  induction k with
  | zero => intro p a; show a = a + 0; rw [Int32.add_zero]
  | succ k ih =>
    intro p a
    rw [qs, ih, sm_left, a_1]
    refine a_c rfl (a_c rfl ?_)
    refine sm_congr k (fun i _ => ?_)
    rw [show p + 1 + i = p + (i + 1) by omega]
theorem sm_split (f : Nat → Int32) (a : Nat) : ∀ b, sm f (a + b) = sm f a + sm (fun i => f (a + i)) b := by
  intro b
  induction b with
  | zero => show sm f a = sm f a + 0; rw [Int32.add_zero]
  | succ b ih => rw [show a + (b + 1) = (a + b) + 1 by omega, sm, ih, sm, a_1]
theorem sm_mul (f : Nat → Int32) (b : Nat) : ∀ a, sm f (a * b) = sm (fun i => sm (fun j => f (i * b + j)) b) a := by
  intro a
  induction a with
  | zero => rw [Nat.zero_mul]; rfl
  | succ a ih => rw [Nat.succ_mul, sm_split, ih]; rfl
theorem sm_add (f g : Nat → Int32) : ∀ n, sm (fun i => f i + g i) n = sm f n + sm g n := by
  intro n
  induction n with
  | zero => rfl
  | succ n ih =>
    rw [sm, ih, sm, sm, a_1, a_1]
    refine a_c rfl ?_
    rw [← a_1, ← a_1, Int32.add_comm (sm g n) (f n)]
theorem sm_zero {f : Nat → Int32} (n : Nat) (h : ∀ i, i < n → f i = 0) : sm f n = 0 := by
  induction n with
  | zero => rfl
  | succ n ih => rw [sm, ih (fun i hi => h i (by omega)), h n (by omega)]; rfl
theorem a_2 (x y z : Int32) : x + (y + z) = x + z + y := by rw [Int32.add_comm y z, ← a_1]
theorem sm_at {f g : Nat → Int32} {k : Nat} {d : Int32} : ∀ n, k < n → (∀ i, i < n → i ≠ k → g i = f i) → g k = f k + d → sm g n = sm f n + d := by
  intro n
  induction n with
  | zero => intro h; omega
  | succ n ih =>
    intro hk h e
    rw [sm, sm]
    by_cases c : k = n
    · subst c
      rw [e, sm_congr k (fun i hi => h i (by omega) (by omega)), a_1]
    · rw [ih (by omega) (fun i hi hn => h i (by omega) hn) e, h n (by omega) (by omega), a_1, a_1, Int32.add_comm d (f n)]
/-- of ones and noughts -/
theorem sm_ones {f : Nat → Int32} : ∀ n, (∀ i, i < n → f i = 0 ∨ f i = 1) → ∃ k, k ≤ n ∧ sm f n = nI k := by
  intro n
  induction n with
  | zero => intro _; exact ⟨0, by omega, rfl⟩
  | succ n ih =>
    intro h
    obtain ⟨k, hk, e⟩ := ih (fun i hi => h i (by omega))
    rw [sm, e]
    rcases h n (by omega) with z | z
    · rw [z, Int32.add_zero]; exact ⟨k, by omega, rfl⟩
    · rw [z, nI_1]; exact ⟨k + 1, by omega, rfl⟩
theorem sm_bnd {f : Nat → Int32} (b : Nat) : ∀ n, (∀ i, i < n → ∃ k, k ≤ b ∧ f i = nI k) → ∃ k, k ≤ n * b ∧ sm f n = nI k := by
  intro n
  induction n with
  | zero => intro _; exact ⟨0, by omega, rfl⟩
  | succ n ih =>
    intro h
    obtain ⟨k, hk, e⟩ := ih (fun i hi => h i (by omega))
    obtain ⟨j, hj, ej⟩ := h n (by omega)
    rw [sm, e, ej, nI_add, Nat.succ_mul]
    exact ⟨k + j, by omega, rfl⟩
/-- has a place a colour -/
def cl (M : Nat → Int32) (c r : Nat) : Int32 := if viewOf M c r = -1 then 0 else 1
def loN (q : Nat) : Nat := if q < 36 then 10 else 0
def sq (M : Nat → Int32) (q : Nat) : Int32 := sm (fun i => sm (fun j => cl M (10 * (q % 36) + i) (loN q + j)) 10) 10
theorem cl_01 (M : Nat → Int32) (c r : Nat) : cl M c r = 0 ∨ cl M c r = 1 := by
  unfold cl
  by_cases h : viewOf M c r = -1
  · rw [if_pos h]; exact Or.inl rfl
  · rw [if_neg h]; exact Or.inr rfl
theorem sq_bnd (M : Nat → Int32) (q : Nat) : ∃ k, k ≤ 100 ∧ sq M q = nI k := sm_bnd 10 10 (fun _ _ => sm_ones 10 (fun _ _ => cl_01 _ _ _))
theorem sq_sum (M : Nat → Int32) : sm (fun p => cl M (p / 20) (p % 20)) 7200 = sm (sq M) 72 := by
  rw [show 7200 = 360 * 20 from rfl, sm_mul]
  have e1 : sm (fun i => sm (fun j => cl M ((i * 20 + j) / 20) ((i * 20 + j) % 20)) 20) 360 = sm (fun c => sm (cl M c) 10 + sm (fun r => cl M c (10 + r)) 10) 360 := by
    refine sm_congr 360 (fun i _ => ?_)
    rw [← sm_split (cl M i) 10 10]
    refine sm_congr 20 (fun j hj => ?_)
    rw [show (i * 20 + j) / 20 = i by omega, show (i * 20 + j) % 20 = j by omega]
  rw [e1, show 360 = 36 * 10 from rfl, sm_mul, show 72 = 36 + 36 from rfl, sm_split]
  have e2 : sm (fun i => sm (fun j => sm (cl M (i * 10 + j)) 10 + sm (fun r => cl M (i * 10 + j) (10 + r)) 10) 10) 36 = sm (fun i => sm (fun j => sm (cl M (i * 10 + j)) 10) 10 + sm (fun j => sm (fun r => cl M (i * 10 + j) (10 + r)) 10) 10) 36 :=
    sm_congr 36 (fun i _ => sm_add _ _ 10)
  rw [e2, sm_add, Int32.add_comm]
  refine a_c ?_ ?_
  · refine sm_congr 36 (fun i hi => ?_)
    unfold sq loN
    rw [if_pos hi]
    refine sm_congr 10 (fun j _ => sm_congr 10 (fun r _ => ?_))
    rw [show 10 * (i % 36) + j = i * 10 + j by omega]
  · refine sm_congr 36 (fun i hi => ?_)
    unfold sq loN
    rw [if_neg (by omega)]
    refine sm_congr 10 (fun j _ => sm_congr 10 (fun r _ => ?_))
    rw [show 10 * ((36 + i) % 36) + j = i * 10 + j by omega, Nat.zero_add]
/-- a place by its number -/
theorem plc (c r : Nat) : (20 * nI c) + nI r = nI (20 * c + r) := by rw [show (20 : Int32) = nI 20 from rfl, pk_mul, nI_add]
theorem wk_in {J : Int32 → Int32 → Int32 → Int32 → (Nat → Nat → Int32) → Option (Int32 × (Nat → Nat → Int32))} {M : Nat → Int32} {c lo : Nat} (hc : c < 360) (hl : lo ≤ 10) (x1 : Int32) :
    ∀ (k r n : Nat) (a : Int32) (A6 : Nat → Nat → Int32), r + k = lo + 10 → k + 1 ≤ n → Cache A6 → A6 0 = M → ∃ B6, L_X6_work_42 J n x1 a (nI lo) (nI c) (nI r) A6 = J x1 (qs (cl M c) k r a) (nI lo) (nI c) B6 ∧ Cache B6 ∧ ∀ j, j ≠ 1 → j ≠ 2 → B6 j = A6 j := by
  have e10 : nI lo + 10 = nI (lo + 10) := by rw [show (10 : Int32) = nI 10 from rfl, nI_add]
  intro k
  induction k with
  | zero =>
    intro r n a A6 h1 h2 hC hM
    obtain ⟨n, rfl⟩ : ∃ k, n = k + 1 := ⟨n - 1, by omega⟩
    refine ⟨A6, ?_, hC, fun _ _ _ => rfl⟩
    rw [L_X6_work_42.eq_2, nm_eq, e10, if_pos (nI_le (by omega) (by omega))]
    rfl
  | succ k ih =>
    intro r n a A6 h1 h2 hC hM
    obtain ⟨n, rfl⟩ : ∃ k, n = k + 1 := ⟨n - 1, by omega⟩
    obtain ⟨C6, f1, f2, f3⟩ := mv_spec hC (c := c) (r := r) hc (by omega)
    have e0 : C6 0 = M := by rw [f3 0 (by omega) (by omega), hM]
    obtain ⟨B6, g1, g2, g3⟩ := ih (r + 1) n (a + cl M c r) C6 (by omega) (by omega) f2 e0
    refine ⟨B6, ?_, g2, fun j h1 h2 => by rw [g3 j h1 h2, f3 j h1 h2]⟩
    rw [L_X6_work_42.eq_2, nm_eq, e10, if_neg (nI_ge (by omega) (by omega)), plc, f1, bd_some, hM, qs, ← g1]
    unfold cl
    by_cases c0 : viewOf M c r = -1
    · simp only [if_pos c0, nm_eq, nI_1]
    · simp only [if_neg c0, nm_eq, nI_1]
def wkS (M : Nat → Int32) (lo : Nat) : Nat → Nat → Int32 → Int32
  | 0, _, a => a
  | k + 1, c, a => wkS M lo k (c + 1) (qs (cl M c) 10 lo a)
theorem wkS_sm (M : Nat → Int32) (lo : Nat) : ∀ (k c : Nat) (a : Int32), wkS M lo k c a = a + sm (fun i => sm (fun j => cl M (c + i) (lo + j)) 10) k := by
  intro k
  induction k with
  | zero => intro c a; show a = a + 0; rw [Int32.add_zero]
  | succ k ih =>
    intro c a
    rw [wkS, ih, sm_left, qs_sm, a_1]
    refine a_c rfl (a_c ?_ ?_)
    · show _ = sm (fun j => cl M (c + 0) (lo + j)) 10
      rw [Nat.add_zero]
    · refine sm_congr k (fun i _ => ?_)
      rw [show c + 1 + i = c + (i + 1) by omega]
theorem wk_out {J : Int32 → (Nat → Nat → Int32) → Option (Int32 × (Nat → Nat → Int32))} {M : Nat → Int32} {q lo : Nat} (hq : q < 72) (hl : lo ≤ 10) :
    ∀ (k c n : Nat) (a : Int32) (A6 : Nat → Nat → Int32), c + k = 10 * (q % 36) + 10 → k + 1 ≤ n → Cache A6 → A6 0 = M → ∃ B6, L_X6_work_24 J n (nI q) a (nI lo) (nI c) A6 = J (wkS M lo k c a) B6 ∧ Cache B6 ∧ ∀ j, j ≠ 1 → j ≠ 2 → B6 j = A6 j := by
  have e10 : (10 * (nI q - nI q / 36 * 36)) + 10 = nI (10 * (q % 36) + 10) := by
    rw [show (36 : Int32) = nI 36 from rfl, pk_rem (by omega) (by decide) (by decide), show (10 : Int32) = nI 10 from rfl, pk_mul, nI_add]
  intro k
  induction k with
  | zero =>
    intro c n a A6 h1 h2 hC hM
    obtain ⟨n, rfl⟩ : ∃ k, n = k + 1 := ⟨n - 1, by omega⟩
    refine ⟨A6, ?_, hC, fun _ _ _ => rfl⟩
    rw [L_X6_work_24.eq_2, nm_eq, e10, if_pos (nI_le (by omega) (by omega))]
    rfl
  | succ k ih =>
    intro c n a A6 h1 h2 hC hM
    obtain ⟨n, rfl⟩ : ∃ k, n = k + 1 := ⟨n - 1, by omega⟩
    rw [L_X6_work_24.eq_2, nm_eq, e10, if_neg (nI_ge (by omega) (by omega))]
    obtain ⟨C6, f1, f2, f3⟩ := wk_in (J := fun (x1 : Int32) (x2 : Int32) (x3 : Int32) (x4 : Int32) (A6 : Nat → Nat → Int32) => nm (x4 + 1 : Int32) fun v_1 => L_X6_work_24 J n x1 x2 x3 v_1 A6) (c := c) (by omega) hl (nI q) 10 lo FU a A6 (by omega) (by unfold FU; omega) hC hM
    rw [f1, nm_eq, nI_1]
    obtain ⟨B6, g1, g2, g3⟩ := ih (c + 1) n (qs (cl M c) 10 lo a) C6 (by omega) (by omega) f2 (by rw [f3 0 (by omega) (by omega), hM])
    exact ⟨B6, g1, g2, fun j h1 h2 => by rw [g3 j h1 h2, f3 j h1 h2]⟩
theorem wk_spec {A6 : Nat → Nat → Int32} (h : Cache A6) {q : Nat} (hq : q < 72) : ∃ B6, F_X6_work A6 (nI q) = some (3 + sq (A6 0) q, B6) ∧ Cache B6 ∧ ∀ j, j ≠ 1 → j ≠ 2 → B6 j = A6 j := by
  have e1 : 10 * (nI q - nI q / 36 * 36) = nI (10 * (q % 36)) := by
    rw [show (36 : Int32) = nI 36 from rfl, pk_rem (by omega) (by decide) (by decide), show (10 : Int32) = nI 10 from rfl, pk_mul]
  have hl : loN q ≤ 10 := by unfold loN; by_cases h : q < 36 <;> simp [h]
  obtain ⟨B6, g1, g2, g3⟩ := wk_out (J := fun (x2 : Int32) (A6 : Nat → Nat → Int32) => some (x2, A6)) hq hl 10 (10 * (q % 36)) FU 3 A6 (by omega) (by unfold FU; omega) h rfl
  refine ⟨B6, ?_, g2, g3⟩
  unfold sq
  rw [← wkS_sm, ← g1]
  unfold F_X6_work
  simp only [nm_eq, e1]
  unfold loN
  by_cases c : q < 36
  · rw [if_neg (by rw [show (36 : Int32) = nI 36 from rfl]; exact nI_ge c (by decide)), if_pos c]; rfl
  · rw [if_pos (by rw [show (36 : Int32) = nI 36 from rfl]; exact nI_le (by omega) (by omega)), if_neg c]; rfl
theorem cp_loop {J : Int32 → (Nat → Nat → Int32) → Option (Int32 × (Nat → Nat → Int32))} {S6 : Nat → Int32} {M : Nat → Int32} :
    ∀ (k p n : Nat) (a : Int32) (A6 : Nat → Nat → Int32), p + k = 7200 → k + 1 ≤ n → Cache A6 → A6 0 = M → ∃ B6, L_X6_count_62 S6 J n a (nI p) A6 = J (qs (fun p => cl M (p / 20) (p % 20)) k p a) B6 ∧ Cache B6 ∧ ∀ j, j ≠ 1 → j ≠ 2 → B6 j = A6 j := by
  intro k
  induction k with
  | zero =>
    intro p n a A6 h1 h2 hC hM
    obtain ⟨n, rfl⟩ : ∃ k, n = k + 1 := ⟨n - 1, by omega⟩
    refine ⟨A6, ?_, hC, fun _ _ _ => rfl⟩
    rw [L_X6_count_62.eq_2, nm_eq, show (7200 : Int32) = nI 7200 from rfl, if_pos (nI_le (by omega) (by omega))]
    rfl
  | succ k ih =>
    intro p n a A6 h1 h2 hC hM
    obtain ⟨n, rfl⟩ : ∃ k, n = k + 1 := ⟨n - 1, by omega⟩
    obtain ⟨C6, f1, f2, f3⟩ := mv_spec hC (c := p / 20) (r := p % 20) (by omega) (by omega)
    have e0 : C6 0 = M := by rw [f3 0 (by omega) (by omega), hM]
    obtain ⟨B6, g1, g2, g3⟩ := ih (p + 1) n (a + cl M (p / 20) (p % 20)) C6 (by omega) (by omega) f2 e0
    refine ⟨B6, ?_, g2, fun j h1 h2 => by rw [g3 j h1 h2, f3 j h1 h2]⟩
    rw [L_X6_count_62.eq_2, nm_eq, show (7200 : Int32) = nI 7200 from rfl, if_neg (nI_ge (by omega) (by omega))]
    rw [show 20 * (p / 20) + p % 20 = p by omega] at f1
    rw [f1, bd_some, hM, qs, ← g1]
    unfold cl
    by_cases c0 : viewOf M (p / 20) (p % 20) = -1
    · simp only [if_pos c0, nm_eq, nI_1]
    · simp only [if_neg c0, nm_eq, nI_1]
