/-! the text: runs, words, numbers, by numbers alone -/
/-- the same as nm_eq, but no 'rfl' lemma: simp then goes by congruence (the kernel would unfold a loop with all its fuel) -/
theorem nm_p {α β : Type} (e : α) (f : α → β) : nm e f = f e := by
  have h : f e = nm e f := rfl
  exact h.symm
theorem wb_tb (n : Nat) : (lN n).toBitVec = BitVec.ofNat 64 n := rfl
theorem wb_inj {a b : Int64} (h : a.toBitVec = b.toBitVec) : a = b := Int64.toBitVec_inj.mp h
theorem wb_c : ∀ k, k < 64 → ((nI k).toInt64 &&& 63) = lN k := by decide +kernel
theorem wb_sm : ∀ k, k < 64 → (BitVec.ofNat 64 k).smod 64 = BitVec.ofNat 64 k := by decide +kernel
theorem wb_shl (n : Nat) {k : Nat} (hk : k < 64) : lN n <<< ((nI k).toInt64 &&& 63) = lN (n * 2 ^ k) := by
  rw [wb_c k hk]
  apply wb_inj
  rw [Int64.toBitVec_shiftLeft, wb_tb, wb_tb, wb_tb, wb_sm k hk]
  apply BitVec.eq_of_toNat_eq
  rw [BitVec.shiftLeft_eq', BitVec.toNat_shiftLeft, BitVec.toNat_ofNat, BitVec.toNat_ofNat, BitVec.toNat_ofNat, Nat.mod_eq_of_lt (show k < 2 ^ 64 by omega), Nat.shiftLeft_eq, Nat.mul_mod, Nat.mod_mod, ← Nat.mul_mod]
theorem wb_or {a b : Nat} (ha : a < 2 ^ 64) (hb : b < 2 ^ 64) : lN a ||| lN b = lN (a ||| b) := by
  apply wb_inj
  rw [Int64.toBitVec_or, wb_tb, wb_tb, wb_tb]
  apply BitVec.eq_of_toNat_eq
  rw [BitVec.toNat_or, BitVec.toNat_ofNat, BitVec.toNat_ofNat, BitVec.toNat_ofNat, Nat.mod_eq_of_lt ha, Nat.mod_eq_of_lt hb, Nat.mod_eq_of_lt (Nat.or_lt_two_pow ha hb)]
theorem wb_cat {v t : Nat} (hv : v < 2 ^ 48) (ht : t < 256) : (lN v <<< ((8 : Int32).toInt64 &&& 63)) ||| lN t = lN (v * 256 + t) := by
  have h1 : v * 2 ^ 8 ||| t = v * 2 ^ 8 + t := by rw [← Nat.shiftLeft_eq, Nat.shiftLeft_add_eq_or_of_lt ht]
  rw [show (8 : Int32) = nI 8 from rfl, wb_shl v (by decide), wb_or (by omega) (by omega), h1]
theorem upd2 (f : Nat → Int32) (k : Nat) (x y : Int32) : upd (upd f k x) k y = upd f k y := by
  funext j
  rw [upd_at, upd_at, upd_at]
  by_cases e : j = k
  · rw [if_pos e, if_pos e]
  · rw [if_neg e, if_neg e, if_neg e]
theorem upd_self (f : Nat → Int32) {k : Nat} {x : Int32} (h : f k = x) : upd f k x = f := by
  funext j
  rw [upd_at]
  by_cases e : j = k
  · rw [if_pos e, e, h]
  · rw [if_neg e]
def isBl (b : Nat) : Bool := b == 32 || b == 10
def isLe (b : Nat) : Bool := decide (97 ≤ b) && decide (b ≤ 122)
def isDi (b : Nat) : Bool := decide (48 ≤ b) && decide (b ≤ 57)
def sgB (b : Nat) : Int32 := if b < 128 then nI b else nI b - 256
def ruR (P : Nat → Bool) (T : Nat → Nat) : Nat → Nat → Nat
  | 0, p => p
  | m + 1, p => if P (T p) then ruR P T m (p + 1) else p
def ruN (P : Nat → Bool) (T : Nat → Nat) (n p : Nat) : Nat := ruR P T (n - p) p
theorem ru_end (P : Nat → Bool) (T : Nat → Nat) {n p : Nat} (h : n ≤ p) : ruN P T n p = p := by
  unfold ruN
  rw [show n - p = 0 by omega]
  rfl
theorem ru_yes {P : Nat → Bool} {T : Nat → Nat} {n p : Nat} (h : p < n) (hP : P (T p) = true) : ruN P T n p = ruN P T n (p + 1) := by
  unfold ruN
  rw [show n - p = (n - (p + 1)) + 1 by omega, ruR, if_pos hP]
theorem ru_no {P : Nat → Bool} {T : Nat → Nat} {n p : Nat} (hP : P (T p) = false) : ruN P T n p = p := by
  unfold ruN
  cases n - p with
  | zero => rfl
  | succ m => rw [ruR, if_neg (by rw [hP]; decide)]
theorem ru_all {P : Nat → Bool} {T : Nat → Nat} {n : Nat} : ∀ (m p : Nat), p + m = n → p ≤ ruN P T n p ∧ ruN P T n p ≤ n ∧ (∀ j, p ≤ j → j < ruN P T n p → P (T j) = true) ∧ (ruN P T n p < n → P (T (ruN P T n p)) = false) ∧ ruN P T n (ruN P T n p) = ruN P T n p := by
  intro m
  induction m with
  | zero =>
    intro p h
    have e := ru_end P T (n := n) (p := p) (by omega)
    rw [e]
    exact ⟨by omega, by omega, fun j _ _ => by omega, fun _ => by omega, e⟩
  | succ m ih =>
    intro p h
    cases hP : P (T p) with
    | true =>
      obtain ⟨h1, h2, h3, h4, h5⟩ := ih (p + 1) (by omega)
      rw [ru_yes (by omega) hP]
      refine ⟨by omega, h2, fun j a b => ?_, h4, h5⟩
      by_cases e : j = p
      · rw [e]; exact hP
      · exact h3 j (by omega) b
    | false =>
      have e := ru_no (n := n) hP
      rw [e]
      exact ⟨by omega, by omega, fun j _ _ => by omega, fun _ => hP, e⟩
theorem ru_ge (P : Nat → Bool) (T : Nat → Nat) {n p : Nat} (h : p ≤ n) : p ≤ ruN P T n p := (ru_all (n - p) p (by omega)).1
theorem ru_le (P : Nat → Bool) (T : Nat → Nat) {n p : Nat} (h : p ≤ n) : ruN P T n p ≤ n := (ru_all (n - p) p (by omega)).2.1
theorem ru_in {P : Nat → Bool} {T : Nat → Nat} {n p : Nat} (h : p ≤ n) : ∀ j, p ≤ j → j < ruN P T n p → P (T j) = true := (ru_all (n - p) p (by omega)).2.2.1
theorem ru_stop {P : Nat → Bool} {T : Nat → Nat} {n p : Nat} (h : p ≤ n) : ruN P T n p < n → P (T (ruN P T n p)) = false := (ru_all (n - p) p (by omega)).2.2.2.1
theorem ru_idem (P : Nat → Bool) (T : Nat → Nat) {n p : Nat} (h : p ≤ n) : ruN P T n (ruN P T n p) = ruN P T n p := (ru_all (n - p) p (by omega)).2.2.2.2
def kbN (b : Nat) : Int32 := if isLe b then 1 else if isDi b then 2 else if b = 10 ∨ b = 32 then 4 else if 59 ≤ b ∧ b ≤ 62 then 3 else 5
def kdN (T : Nat → Nat) (n q : Nat) : Int32 := if q < n then kbN (T q) else 0
def teN (T : Nat → Nat) (n q : Nat) : Nat := if q < n then (if isLe (T q) then ruN isLe T n q else if isDi (T q) then ruN isDi T n q else q + 1) else q
theorem te_b (T : Nat → Nat) {n q : Nat} (h : q ≤ n) : q ≤ teN T n q ∧ teN T n q ≤ n := by
  unfold teN
  by_cases c : q < n
  · rw [if_pos c]
    cases isLe (T q) with
    | true => exact ⟨ru_ge _ _ h, ru_le _ _ h⟩
    | false =>
      cases isDi (T q) with
      | true => exact ⟨ru_ge _ _ h, ru_le _ _ h⟩
      | false => exact ⟨by show q ≤ q + 1; omega, by show q + 1 ≤ n; omega⟩
  · rw [if_neg c]; omega
theorem kind_b : ∀ b, b < 256 → F_X0_kindOf (nI b) = some (kbN b) := by decide +kernel
theorem kind_e : F_X0_kindOf (-1) = some 0 := by decide +kernel
theorem kb_iff : ∀ b, b < 256 → (kbN b = 4 ↔ isBl b = true) ∧ (kbN b = 1 ↔ isLe b = true) ∧ (kbN b = 2 ↔ isDi b = true) ∧ (kbN b = 3 ↔ (59 ≤ b ∧ b ≤ 62)) ∧ ¬ kbN b = 0 ∧ (isLe b = true → isDi b = false) ∧ (isDi b = true → isLe b = false) ∧ (59 ≤ b ∧ b ≤ 62 → isDi b = false ∧ isLe b = false) := by decide +kernel
theorem sg_iff : ∀ b, b < 256 → (sgB b = 32 ↔ b = 32) ∧ (sgB b = 10 ↔ b = 10) ∧ (¬ sgB b < 97 ∧ ¬ 122 < sgB b ↔ isLe b = true) ∧ (¬ sgB b < 48 ∧ ¬ 57 < sgB b ↔ isDi b = true) ∧ (sgB b = 59 ↔ b = 59) ∧ (sgB b = 60 ↔ b = 60) ∧ (sgB b = 61 ↔ b = 61) ∧ (sgB b = 62 ↔ b = 62) := by decide +kernel
theorem sg_and : ∀ b, b < 256 → sgB b &&& 255 = nI b := by decide +kernel
/-- a byte as the model lays it and as the class does -/
theorem sg_of (x : Int32) : ∃ b, b < 256 ∧ vp_nar .byte x = sgB b ∧ x &&& 255 = nI b := by
  rw [vp_nar_byte]
  have h := lg_i2b_range x
  have hb := bp_b x
  generalize x.toInt8.toInt32 = y at h hb
  have key : ∃ b, b < 256 ∧ y = sgB b := by
    by_cases c : 0 ≤ y.toInt
    · obtain ⟨j, h1, h2, h3⟩ := i_of c
      refine ⟨j, by omega, ?_⟩
      unfold sgB
      rw [if_pos (by omega), h2]
    · have e256 : (256 : Int32).toInt = 256 := rfl
      have h4 : (y + 256).toInt = y.toInt + 256 := by rw [i_add (by omega) (by omega), e256]
      obtain ⟨j, h1, h2, h3⟩ := i_of (x := y + 256) (by omega)
      rw [h4] at h3
      refine ⟨j, by omega, ?_⟩
      unfold sgB
      rw [if_neg (by omega), ← h2, i_eq, i_sub (by omega) (by omega), h4, e256]
      omega
  obtain ⟨b, h1, h2⟩ := key
  exact ⟨b, h1, h2, by rw [← hb, h2, sg_and b h1]⟩
/-- the class's text, the model's text -/
def TX (A0 : Nat → Nat → Int32) (T : Nat → Nat) (n : Nat) : Prop := n ≤ 600 ∧ ∀ j, j < n → T j < 256 ∧ A0 0 j = nI (T j)
def TM (A6 : Nat → Nat → Int32) (T : Nat → Nat) (n : Nat) : Prop := n ≤ 600 ∧ ∀ j, j < n → T j < 256 ∧ A6 16 j = sgB (T j)
theorem byte_at {A0 : Nat → Nat → Int32} {T : Nat → Nat} {n : Nat} {S0 : Nat → Int32} (h : TX A0 T n) (h2 : S0 2 = nI n) {p : Nat} (hp : p ≤ 700) : F_X0_byteAt S0 A0 (nI p) = some (if p < n then nI (T p) else -1) := by
  have hn := h.1
  unfold F_X0_byteAt
  rw [if_neg (nI_pos (by omega)), h2]
  by_cases c : p < n
  · rw [if_neg (nI_ge c (by omega)), show (600 : Int32) = nI 600 from rfl, if_neg (nI_ge (by omega) (by decide)), ix_nI (by omega) (by decide), nI_clamp (by omega), if_pos c, (h.2 p c).2]
  · rw [if_pos (nI_le (by omega) (by omega)), if_neg c]
theorem adv_bl {A0 : Nat → Nat → Int32} {T : Nat → Nat} {n : Nat} {J : (Nat → Int32) → Option (Nat → Int32)} {S : Nat → Int32} (h : TX A0 T n) (h2 : S 2 = nI n) :
    ∀ (m p n' : Nat), p + m = n → m + 1 ≤ n' → L_X0_advance_8 A0 J n' (upd S 4 (nI p)) = J (upd S 4 (nI (ruN isBl T n p))) := by
  have hn := h.1
  intro m
  induction m with
  | zero =>
    intro p n' e1 e2
    obtain ⟨n', rfl⟩ : ∃ k, n' = k + 1 := ⟨n' - 1, by omega⟩
    rw [L_X0_advance_8.eq_2, show upd S 4 (nI p) 4 = nI p from rfl, show upd S 4 (nI p) 2 = S 2 from rfl, h2, if_pos (nI_le (by omega) (by omega)), ru_end _ _ (by omega)]
  | succ m ih =>
    intro p n' e1 e2
    obtain ⟨n', rfl⟩ : ∃ k, n' = k + 1 := ⟨n' - 1, by omega⟩
    have hT := (h.2 p (by omega)).1
    rw [L_X0_advance_8.eq_2, show upd S 4 (nI p) 4 = nI p from rfl, show upd S 4 (nI p) 2 = S 2 from rfl, h2, if_neg (nI_ge (by omega) (by omega)), byte_at h (show upd S 4 (nI p) 2 = nI n from h2) (by omega), if_pos (by omega), bd_some, kind_b _ hT, bd_some]
    cases c : isBl (T p) with
    | true =>
      rw [if_pos ((kb_iff _ hT).1.mpr c), nm_eq, upd2, nI_1, ih (p + 1) n' (by omega) (by omega), ru_yes (by omega) c]
    | false =>
      rw [if_neg (fun q => by rw [(kb_iff _ hT).1.mp q] at c; cases c), ru_no c]
theorem adv_gr {A0 : Nat → Nat → Int32} {T : Nat → Nat} {n : Nat} {J : (Nat → Int32) → Option (Nat → Int32)} {S : Nat → Int32} {P : Nat → Bool} (h : TX A0 T n) (h2 : S 2 = nI n) (h3 : ∀ b, b < 256 → (kbN b = S 3 ↔ P b = true)) :
    ∀ (m p n' : Nat), p + m = n → m + 1 ≤ n' → L_X0_advance_112 A0 J n' 1 (upd S 5 (nI p)) = J (upd S 5 (nI (ruN P T n p))) := by
  have hn := h.1
  intro m
  induction m with
  | zero =>
    intro p n' e1 e2
    obtain ⟨n', rfl⟩ : ∃ k, n' = k + 1 := ⟨n' - 1, by omega⟩
    rw [L_X0_advance_112.eq_2, if_neg (by decide), show upd S 5 (nI p) 5 = nI p from rfl, show upd S 5 (nI p) 2 = S 2 from rfl, h2, if_pos (nI_le (by omega) (by omega)), ru_end _ _ (by omega)]
  | succ m ih =>
    intro p n' e1 e2
    obtain ⟨n', rfl⟩ : ∃ k, n' = k + 1 := ⟨n' - 1, by omega⟩
    have hT := (h.2 p (by omega)).1
    rw [L_X0_advance_112.eq_2, if_neg (by decide), show upd S 5 (nI p) 5 = nI p from rfl, show upd S 5 (nI p) 2 = S 2 from rfl, show upd S 5 (nI p) 3 = S 3 from rfl, h2, if_neg (nI_ge (by omega) (by omega)), byte_at h (show upd S 5 (nI p) 2 = nI n from h2) (by omega), if_pos (by omega), bd_some, kind_b _ hT, bd_some]
    cases c : P (T p) with
    | true =>
      rw [if_pos ((h3 _ hT).mpr c), nm_eq, upd2, nI_1, ih (p + 1) n' (by omega) (by omega), ru_yes (by omega) c]
    | false =>
      rw [if_neg (fun q => by rw [(h3 _ hT).mp q] at c; cases c), ru_no c]
theorem adv_0 {A0 : Nat → Nat → Int32} {J : (Nat → Int32) → Option (Nat → Int32)} (S : Nat → Int32) : L_X0_advance_112 A0 J FU 0 S = J S := by
  rw [show FU = 99999 + 1 from rfl, L_X0_advance_112.eq_2, if_pos rfl]
/-- the class looks at the token at q -/
def CA (T : Nat → Nat) (n q : Nat) (S0 : Nat → Int32) : Prop := q ≤ n ∧ ruN isBl T n q = q ∧ S0 2 = nI n ∧ S0 3 = kdN T n q ∧ S0 4 = nI q ∧ S0 5 = nI (teN T n q)
def J87f (A0 : Nat → Nat → Int32) (y0 : Int32) (S0 : Nat → Int32) : Option (Nat → Int32) :=
  if (upd S0 5 y0 3) = 1 then L_X0_advance_112 A0 (fun S0 => some S0) FU 1 (upd S0 5 y0) else if (upd S0 5 y0 3) = 2 then L_X0_advance_112 A0 (fun S0 => some S0) FU 1 (upd S0 5 y0) else L_X0_advance_112 A0 (fun S0 => some S0) FU 0 (upd S0 5 y0)
def J47f (A0 : Nat → Nat → Int32) (S0 : Nat → Int32) : Option (Nat → Int32) :=
  bd (F_X0_byteAt S0 A0 (S0 4)) fun z_10 => bd (F_X0_kindOf z_10) fun z_11 => if (upd S0 3 z_11 2) ≤ (upd S0 3 z_11 4) then J87f A0 (upd S0 3 z_11 4) (upd S0 3 z_11) else J87f A0 ((upd S0 3 z_11 4) + 1) (upd S0 3 z_11)
theorem adv_eq (S0 : Nat → Int32) (A0 : Nat → Nat → Int32) : F_X0_advance S0 A0 = L_X0_advance_8 A0 (J47f A0) FU (upd S0 4 (S0 5)) := by
  unfold F_X0_advance J47f J87f
  simp only [nm_p]
theorem j87_L {A0 : Nat → Nat → Int32} {T : Nat → Nat} {n p : Nat} {S : Nat → Int32} (h : TX A0 T n) (h2 : S 2 = nI n) (h3 : S 3 = 1) (hp : p ≤ n) : J87f A0 (nI p) S = some (upd S 5 (nI (ruN isLe T n p))) := by
  have hn := h.1
  unfold J87f
  have u : upd S 5 (nI p) 3 = S 3 := by rw [upd_at, if_neg (by decide)]
  rw [u, if_pos h3, adv_gr (P := isLe) h h2 (fun b hb => by rw [h3]; exact (kb_iff b hb).2.1) (n - p) p FU (by omega) (by unfold FU; omega)]
theorem j87_D {A0 : Nat → Nat → Int32} {T : Nat → Nat} {n p : Nat} {S : Nat → Int32} (h : TX A0 T n) (h2 : S 2 = nI n) (h3 : S 3 = 2) (hp : p ≤ n) : J87f A0 (nI p) S = some (upd S 5 (nI (ruN isDi T n p))) := by
  have hn := h.1
  unfold J87f
  have u : upd S 5 (nI p) 3 = S 3 := by rw [upd_at, if_neg (by decide)]
  rw [u, if_neg (by rw [h3]; decide), if_pos h3, adv_gr (P := isDi) h h2 (fun b hb => by rw [h3]; exact (kb_iff b hb).2.2.1) (n - p) p FU (by omega) (by unfold FU; omega)]
theorem j87_O {A0 : Nat → Nat → Int32} {y : Int32} {S : Nat → Int32} (h1 : ¬ S 3 = 1) (h2 : ¬ S 3 = 2) : J87f A0 y S = some (upd S 5 y) := by
  unfold J87f
  have u : upd S 5 y 3 = S 3 := by rw [upd_at, if_neg (by decide)]
  rw [u, if_neg h1, if_neg h2, adv_0]
theorem j47_spec {A0 : Nat → Nat → Int32} {T : Nat → Nat} {n q : Nat} {S : Nat → Int32} (h : TX A0 T n) (h2 : S 2 = nI n) (h4 : S 4 = nI q) (hq : q ≤ n) : J47f A0 S = some (upd (upd S 3 (kdN T n q)) 5 (nI (teN T n q))) := by
  have hn := h.1
  unfold J47f
  rw [h4, byte_at h h2 (by omega), bd_some]
  have u2 : ∀ x, upd S 3 x 2 = nI n := fun x => by rw [upd_at, if_neg (by decide)]; exact h2
  have u4 : ∀ x, upd S 3 x 4 = nI q := fun x => by rw [upd_at, if_neg (by decide)]; exact h4
  have u3 : ∀ x, upd S 3 x 3 = x := fun x => by rw [upd_at, if_pos rfl]
  by_cases c : q < n
  · have hT := (h.2 q c).1
    have hk := kb_iff _ hT
    rw [if_pos c, kind_b _ hT, bd_some, u2, u4, if_neg (nI_ge c (by omega)), nI_1]
    have ek : kdN T n q = kbN (T q) := by unfold kdN; rw [if_pos c]
    rw [← ek]
    unfold teN
    rw [if_pos c]
    cases hL : isLe (T q) with
    | true =>
      rw [j87_L h (u2 _) (by rw [u3, ek]; exact hk.2.1.mpr hL) (by omega), ← ru_yes c hL, if_pos rfl]
    | false =>
      have n1 : ¬ kdN T n q = 1 := by rw [ek]; intro z; rw [hk.2.1.mp z] at hL; cases hL
      cases hD : isDi (T q) with
      | true =>
        rw [j87_D h (u2 _) (by rw [u3, ek]; exact hk.2.2.1.mpr hD) (by omega), ← ru_yes c hD, if_neg (by decide), if_pos rfl]
      | false =>
        have n2 : ¬ kdN T n q = 2 := by rw [ek]; intro z; rw [hk.2.2.1.mp z] at hD; cases hD
        rw [j87_O (by rw [u3]; exact n1) (by rw [u3]; exact n2), if_neg (by decide), if_neg (by decide)]
  · have ek : kdN T n q = 0 := by unfold kdN; rw [if_neg c]
    have et : teN T n q = q := by unfold teN; rw [if_neg c]
    rw [if_neg c, kind_e, bd_some, u2, u4, if_pos (nI_le (by omega) (by omega)), ek, et, j87_O (by rw [u3]; decide) (by rw [u3]; decide)]
theorem adv_spec {A0 : Nat → Nat → Int32} {T : Nat → Nat} {n e : Nat} {S0 : Nat → Int32} (h : TX A0 T n) (h2 : S0 2 = nI n) (h5 : S0 5 = nI e) (he : e ≤ n) :
    ∃ S0', F_X0_advance S0 A0 = some S0' ∧ CA T n (ruN isBl T n e) S0' ∧ ∀ j, (j < 3 ∨ 5 < j) → S0' j = S0 j := by
  have hn := h.1
  have hq := ru_le isBl T he
  have hi := ru_idem isBl T he
  generalize hqq : ruN isBl T n e = q at *
  refine ⟨upd (upd (upd S0 4 (nI q)) 3 (kdN T n q)) 5 (nI (teN T n q)), ?_, ⟨hq, hi, h2, rfl, rfl, rfl⟩, fun j hj => by rw [upd_at, if_neg (by omega), upd_at, if_neg (by omega), upd_at, if_neg (by omega)]⟩
  rw [adv_eq, h5, adv_bl h h2 (n - e) e FU (by omega) (by unfold FU; omega), hqq]
  exact j47_spec h (by rw [upd_at, if_neg (by decide)]; exact h2) (by rw [upd_at, if_pos rfl]) hq
theorem adv_CA {A0 : Nat → Nat → Int32} {T : Nat → Nat} {n q : Nat} {S0 : Nat → Int32} (h : TX A0 T n) (hC : CA T n q S0) :
    ∃ S0', F_X0_advance S0 A0 = some S0' ∧ CA T n (ruN isBl T n (teN T n q)) S0' ∧ ∀ j, (j < 3 ∨ 5 < j) → S0' j = S0 j :=
  adv_spec h hC.2.2.1 hC.2.2.2.2.2 (te_b T hC.1).2
