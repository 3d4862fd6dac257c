/-! numbers -/
theorem i_lt {a b : Int32} : a < b ↔ a.toInt < b.toInt := Int32.lt_iff_toInt_lt
theorem i_le {a b : Int32} : a ≤ b ↔ a.toInt ≤ b.toInt := Int32.le_iff_toInt_le
theorem i_eq {a b : Int32} : a = b ↔ a.toInt = b.toInt := Int32.toInt_inj.symm
theorem i_rng (a : Int32) : -2147483648 ≤ a.toInt ∧ a.toInt < 2147483648 := ⟨Int32.le_toInt a, Int32.toInt_lt a⟩
theorem i_add {a b : Int32} (h1 : -2147483648 ≤ a.toInt + b.toInt) (h2 : a.toInt + b.toInt < 2147483648) : (a + b).toInt = a.toInt + b.toInt := by
  rw [Int32.toInt_add]
  exact Int.bmod_eq_of_le (by omega) (by omega)
theorem i_sub {a b : Int32} (h1 : -2147483648 ≤ a.toInt - b.toInt) (h2 : a.toInt - b.toInt < 2147483648) : (a - b).toInt = a.toInt - b.toInt := by
  rw [Int32.toInt_sub]
  exact Int.bmod_eq_of_le (by omega) (by omega)
theorem i_mul {a b : Int32} (h1 : -2147483648 ≤ a.toInt * b.toInt) (h2 : a.toInt * b.toInt < 2147483648) : (a * b).toInt = a.toInt * b.toInt := by
  rw [Int32.toInt_mul]
  exact Int.bmod_eq_of_le (by omega) (by omega)
theorem i_div {a b : Int32} (h1 : -2147483648 ≤ a.toInt.tdiv b.toInt) (h2 : a.toInt.tdiv b.toInt < 2147483648) : (a / b).toInt = a.toInt.tdiv b.toInt := by
  rw [Int32.toInt_div]
  exact Int.bmod_eq_of_le (by omega) (by omega)
theorem upd_at (f : Nat → Int32) (k : Nat) (x : Int32) (j : Nat) : upd f k x j = if j = k then x else f j := rfl
theorem upA_at {α : Type} (f : Nat → α) (k : Nat) (x : α) (j : Nat) : va_up f k x j = if j = k then x else f j := rfl
theorem updL_at (f : Nat → Int64) (k : Nat) (x : Int64) (j : Nat) : vp_updL f k x j = if j = k then x else f j := rfl
theorem i_of {x : Int32} (h : 0 ≤ x.toInt) : ∃ j : Nat, j < 2 ^ 31 ∧ x = nI j ∧ x.toInt = j := by
  obtain ⟨j, hj, e⟩ := nI_of (x := x) (fun h2 => by have := i_lt.mp h2; simp at this; omega)
  exact ⟨j, hj, e, by rw [e]; exact nI_toInt hj⟩
theorem ix_nI {β : Type} {j n : Nat} {x : Option β} (h : j < n) (hn : n < 2 ^ 31) : ix (nI j) n x = x := by
  unfold ix
  exact if_neg (vp_in_nI h hn)
theorem nm_eq {α β : Type} (e : α) (f : α → β) : nm e f = f e := rfl
theorem bd_some {α β : Type} (a : α) (f : α → Option β) : bd (some a) f = f a := rfl
theorem zb_0 {β : Type} (x : Option β) : zb 0 x = x := rfl
theorem zb_1 {β : Type} (x : Option β) : zb 1 x = x := rfl
theorem isIn_eq (p a b : Int32) : F_X6_isIn p a b = some (if p < a ∨ b < p then 0 else 1) := by
  unfold F_X6_isIn
  by_cases h1 : p < a
  · rw [if_pos h1, if_pos (Or.inl h1)]
  · rw [if_neg h1]
    by_cases h2 : b < p
    · rw [if_pos h2, if_pos (Or.inr h2)]
    · rw [if_neg h2, if_neg (fun h => h.elim h1 h2)]
theorem fmod_eq (j d : Nat) (hj : j < 2 ^ 31) (hd : d < 2 ^ 31) (h0 : 0 < d) : F_J9_floorMod_7cf53 (nI j) (nI d) = some (nI (j % d)) := by
  unfold F_J9_floorMod_7cf53
  have hx : (0 : Int32) ≤ (nI j ^^^ nI d) := by
    rw [show nI j ^^^ nI d = nI (j ^^^ d) from by apply Int32.toBitVec_inj.mp; simp [nI, Int32.toBitVec_xor, BitVec.ofNat_xor]]
    exact nI_pos' (Nat.xor_lt_two_pow hj hd)
  unfold nz
  rw [if_neg (nI_ne0 h0 hd), nm_eq, if_pos hx, pk_rem hj h0 hd]
