abbrev rmX4_init : Room := { frames := 1, cells := 2, slots := 9672, locals := 32 }
set_option maxRecDepth 100000 in
set_option maxHeartbeats 4000000 in
theorem c_X4_init (l : Launch) (K : Kx) (D : va_G) (C : Nat → ClassId) (o : Nat) (A4 : Nat → Nat → Int32) (eA4 : A4 = fun _ _ => 0) : MetC l yX4_init wsX4_init rmX4_init K D (tyV C) [(o, .inr (4, [.null, .null]))] [.ref o] (fun u : Nat → Nat => u 0 = o) (fun a4 => wX4 C a4 A4) 2 9672 := by
  refine met_ctor (cc := cX4_init) (maxL := 1) (by decide +kernel) rfl (Nat.le_of_ble_eq_true rfl) ?_
  intro p e s m below meth c A Q ls ⟨hx, hb, hml, hown, hts, hK, hA, hZ⟩ hin hP hD hS hl hret
  have hown : s.vm.findClass RX4 = some m.cls := hown
  have hiX4 : ∀ w ∈ u_ws RX4 TX4 2, w ∈ wsX4_init := by decide +kernel
  have hl : lv_has ls 1 [(0, .ref (o))] := hl
  refine lv_aload_n hx hb dX4_init_0 rfl (lv_at hl 0 rfl) ?_
  refine W.objInit hx hb hown (hts (.methodLink RX4 3 objectInit) (by decide +kernel)) (hts (.instanceMethod objectInit) (by decide +kernel)) (hts (.code objectInit ⟨#[0xb1]⟩ 1 none) (List.mem_of_getElem? (i := 3) rfl)) rfl (by rw [hml]; exact hl.1) rfl dX4_init_1 (Nat.le_of_ble_eq_true rfl) (Nat.le_of_ble_eq_true rfl) ?_
  refine W.eq (g2 := F0 m 4 ls []) rfl ?_
  refine lv_aload_n hx hb dX4_init_4 rfl (lv_at hl 0 rfl) ?_
  refine lv_sipush (v := 9600) hx hb dX4_init_5 (by decide) ?_
  refine va_newa (D := D) (atype := .byte) (ty := .byte) (N' := 9600) (n := 9600) hx hb (hts (.arrayClass .byte) (by decide +kernel)) rfl hK hP hD hS hA (haB 9600) (by decide +kernel) (by decide +kernel) (by decide +kernel) (by dsimp only [rmX4_init]; omega) (by dsimp only [rmX4_init]; omega) dX4_init_8 (fun q1 cA H hK1 hP hD hS => ?_)
  obtain rfl : cA = C 1 := tyE1 hK hK1
  have hP : va_P D vwCl ([(o, .inr (4, [.null, .null])), (q1, .inl (C 1, 9600, .inl (fun _ => 0)))]) H := hP
  have hD : va_D A ([(o, .inr (4, [.null, .null])), (q1, .inl (C 1, 9600, .inl (fun _ => 0)))]) := hD
  refine va_putF (D := D) (ci := 4) (v := .ref q1) (ty := .array .byte) (C := RX4) (T := TX4) (N := 2) hx hb hts hiX4 tyX4 tyX4_ok nmX4 hown hK hP hD hS 0 rfl rfl 0 (by decide) (hts (.fieldLink RX4 9 "PanoramaHouse$Round" "marks" "[B") (by decide +kernel)) (fun _ h9 => h9) rfl hin rfl (by decide +kernel) rfl rfl (Nat.le_of_ble_eq_true rfl) dX4_init_10 (fun H locs hP hD hS => ?_)
  have hP : va_P D vwCl ([(o, .inr (4, [.ref q1, .null])), (q1, .inl (C 1, 9600, .inl (fun _ => 0)))]) H := hP
  have hD : va_D A ([(o, .inr (4, [.ref q1, .null])), (q1, .inl (C 1, 9600, .inl (fun _ => 0)))]) := hD
  refine lv_aload_n hx hb dX4_init_13 rfl (lv_at hl 0 rfl) ?_
  refine lv_bipush (v := 72) hx hb dX4_init_14 (by decide) ?_
  refine va_newa (D := D) (atype := .int) (ty := .int) (N' := 72) (n := 72) hx hb (hts (.arrayClass .int) (by decide +kernel)) rfl hK hP hD hS hA (haI 72) (by decide +kernel) (by decide +kernel) (by decide +kernel) (by dsimp only [rmX4_init]; omega) (by dsimp only [rmX4_init]; omega) dX4_init_16 (fun q2 cA H hK1 hP hD hS => ?_)
  obtain rfl : cA = C 0 := tyE0 hK hK1
  have hP : va_P D vwCl ([(o, .inr (4, [.ref q1, .null])), (q1, .inl (C 1, 9600, .inl (fun _ => 0))), (q2, .inl (C 0, 72, .inl (fun _ => 0)))]) H := hP
  have hD : va_D A ([(o, .inr (4, [.ref q1, .null])), (q1, .inl (C 1, 9600, .inl (fun _ => 0))), (q2, .inl (C 0, 72, .inl (fun _ => 0)))]) := hD
  refine va_putF (D := D) (ci := 4) (v := .ref q2) (ty := .array .int) (C := RX4) (T := TX4) (N := 2) hx hb hts hiX4 tyX4 tyX4_ok nmX4 hown hK hP hD hS 0 rfl rfl 1 (by decide) (hts (.fieldLink RX4 15 "PanoramaHouse$Round" "colouredOfSquare" "[I") (by decide +kernel)) (fun _ h9 => h9) rfl hin rfl (by decide +kernel) rfl rfl (Nat.le_of_ble_eq_true rfl) dX4_init_18 (fun H locs hP hD hS => ?_)
  have hP : va_P D vwCl ([(o, .inr (4, [.ref q1, .ref q2])), (q1, .inl (C 1, 9600, .inl (fun _ => 0))), (q2, .inl (C 0, 72, .inl (fun _ => 0)))]) H := hP
  have hD : va_D A ([(o, .inr (4, [.ref q1, .ref q2])), (q1, .inl (C 1, 9600, .inl (fun _ => 0))), (q2, .inl (C 0, 72, .inl (fun _ => 0)))]) := hD
  obtain ⟨a4, ea4⟩ : ∃ a : Nat → Nat, a = fun k => ([o, q1, q2] : List Nat).getD k 0 := ⟨_, rfl⟩
  have hP : va_P D vwCl (wX4 C a4 A4) H := by rw [ea4, eA4]; exact hP
  have hD : va_D A (wX4 C a4 A4) := by rw [ea4, eA4]; exact hD
  have ho : a4 0 = o := by rw [ea4]; rfl
  exact hret a4 _ _ _ _ dX4_init_21 ho hP hD hS
