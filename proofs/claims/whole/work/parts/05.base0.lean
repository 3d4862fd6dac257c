/-! base: words that the generated functions are made of, and the contracts' one form -/
def nm {α β : Type} (e : α) (f : α → β) : β := f e
theorem nm_at {α β : Type} {e : α} {f : α → β} {z : β} {v : α} (h : nm e f = z) (hv : v = e) : f v = z := by rw [hv]; exact h
theorem nm_ex {α β : Type} {e : α} {f : α → β} {z : β} (h : nm e f = z) : ∃ v, v = e ∧ f v = z := ⟨e, rfl, h⟩
def ix {β : Type} (i : Int32) (n : Nat) (x : Option β) : Option β := if i < 0 ∨ n ≤ i.toNatClampNeg then none else x
theorem ix_at {β : Type} {i : Int32} {n : Nat} {x : Option β} {z : β} (h : ix i n x = some z) : vp_in i n ∧ x = some z := by
  unfold ix at h
  by_cases hc : i < 0 ∨ n ≤ i.toNatClampNeg
  · rw [if_pos hc] at h; cases h
  · rw [if_neg hc] at h; exact ⟨hc, h⟩
def nz {β : Type} (y : Int32) (x : Option β) : Option β := if y = 0 then none else x
theorem nz_at {β : Type} {y : Int32} {x : Option β} {z : β} (h : nz y x = some z) : ¬ y = 0 ∧ x = some z := by
  unfold nz at h
  by_cases hc : y = 0
  · rw [if_pos hc] at h; cases h
  · rw [if_neg hc] at h; exact ⟨hc, h⟩
def zb {β : Type} (v : Int32) (x : Option β) : Option β := if v = 0 ∨ v = 1 then x else none
theorem zb_at {β : Type} {v : Int32} {x : Option β} {z : β} (h : zb v x = some z) : narrow .boolean (.int v) = .int v ∧ x = some z := by
  unfold zb at h
  by_cases hc : v = 0 ∨ v = 1
  · rw [if_pos hc] at h
    refine ⟨?_, h⟩
    rcases hc with rfl | rfl
    · decide
    · decide
  · rw [if_neg hc] at h; cases h
theorem nb0 : narrow .boolean (.int 0) = .int 0 := by decide
theorem nb1 : narrow .boolean (.int 1) = .int 1 := by decide
def bd {α β : Type} (x : Option α) (f : α → Option β) : Option β := match x with
  | none => none
  | some a => f a
theorem bd_at {α β : Type} {x : Option α} {f : α → Option β} {z : β} (h : bd x f = some z) : ∃ a, x = some a ∧ f a = some z := by
  cases x with
  | none => cases h
  | some a => exact ⟨a, rfl, h⟩
theorem ifp {α : Type} {c : Prop} [Decidable c] {x y z : α} (h : (if c then x else y) = z) (hc : c) : x = z := by rw [if_pos hc] at h; exact h
theorem ifn {α : Type} {c : Prop} [Decidable c] {x y z : α} (h : (if c then x else y) = z) (hc : ¬ c) : y = z := by rw [if_neg hc] at h; exact h
def gk {β : Type} (k : Nat) (x : Option β) : Option β := if k < 8 then x else none
theorem gk_at {β : Type} {k : Nat} {x : Option β} {z : β} (h : gk k x = some z) : k < 8 ∧ x = some z := by
  unfold gk at h
  by_cases hc : k < 8
  · rw [if_pos hc] at h; exact ⟨hc, h⟩
  · rw [if_neg hc] at h; cases h
def FU : Nat := 100000
def sLen : List Nat := [5, 4, 4, 2, 4, 6, 5, 3]
def sByt : List (List Int32) := [[119, 101, 101, 107, 115], [112, 97, 114, 116], [114, 101, 110, 116], [105, 102], [119, 101, 101, 107], [112, 101, 111, 112, 108, 101], [99, 111, 105, 110, 115], [97, 110, 100]]
