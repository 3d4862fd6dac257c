abbrev rmX1_init : Room := { frames := 1, cells := 5, slots := 132, locals := 32 }
set_option maxRecDepth 100000 in
set_option maxHeartbeats 4000000 in
theorem c_X1_init (l : Launch) (K : Kx) (D : va_G) (C : Nat → ClassId) (o : Nat) (S1 : Nat → Int32) (eS1 : S1 = (upd (fun _ => 0) 6 1)) (A1 : Nat → Nat → Int32) (eA1 : A1 = fun _ _ => 0) : MetC l yX1_init wsX1_init rmX1_init K D (tyV C) [(o, .inr (1, [.null, .null, .null, .null, .null, .int 0, .int 0, .int 0, .int 0, .int 0, .int 0, .int 0]))] [.ref o] (fun u : Nat → Nat => u 0 = o) (fun a1 => wX1 C a1 S1 A1) 5 132 := by
  refine met_ctor (cc := cX1_init) (maxL := 1) (by decide +kernel) rfl (Nat.le_of_ble_eq_true rfl) ?_
  intro p e s m below meth c A Q ls ⟨hx, hb, hml, hown, hts, hK, hA, hZ⟩ hin hP hD hS hl hret
  have hown : s.vm.findClass RX1 = some m.cls := hown
  have hiX1 : ∀ w ∈ u_ws RX1 TX1 12, w ∈ wsX1_init := by decide +kernel
  have hl : lv_has ls 1 [(0, .ref (o))] := hl
  refine lv_aload_n hx hb dX1_init_0 rfl (lv_at hl 0 rfl) ?_
  refine W.objInit hx hb hown (hts (.methodLink RX1 3 objectInit) (by decide +kernel)) (hts (.instanceMethod objectInit) (by decide +kernel)) (hts (.code objectInit ⟨#[0xb1]⟩ 1 none) (List.mem_of_getElem? (i := 3) rfl)) rfl (by rw [hml]; exact hl.1) rfl dX1_init_1 (Nat.le_of_ble_eq_true rfl) (Nat.le_of_ble_eq_true rfl) ?_
  refine W.eq (g2 := F0 m 4 ls []) rfl ?_
  refine lv_aload_n hx hb dX1_init_4 rfl (lv_at hl 0 rfl) ?_
  refine lv_bipush (v := 12) hx hb dX1_init_5 (by decide) ?_
  refine va_newa (D := D) (atype := .int) (ty := .int) (N' := 12) (n := 12) hx hb (hts (.arrayClass .int) (by decide +kernel)) rfl hK hP hD hS hA (haI 12) (by decide +kernel) (by decide +kernel) (by decide +kernel) (by dsimp only [rmX1_init]; omega) (by dsimp only [rmX1_init]; omega) dX1_init_7 (fun q1 cA H hK1 hP hD hS => ?_)
  obtain rfl : cA = C 0 := tyE0 hK hK1
  have hP : va_P D vwCl ([(o, .inr (1, [.null, .null, .null, .null, .null, .int 0, .int 0, .int 0, .int 0, .int 0, .int 0, .int 0])), (q1, .inl (C 0, 12, .inl (fun _ => 0)))]) H := hP
  have hD : va_D A ([(o, .inr (1, [.null, .null, .null, .null, .null, .int 0, .int 0, .int 0, .int 0, .int 0, .int 0, .int 0])), (q1, .inl (C 0, 12, .inl (fun _ => 0)))]) := hD
  refine va_putF (D := D) (ci := 1) (v := .ref q1) (ty := .array .int) (C := RX1) (T := TX1) (N := 12) hx hb hts hiX1 tyX1 tyX1_ok nmX1 hown hK hP hD hS 0 rfl rfl 0 (by decide) (hts (.fieldLink RX1 9 "PanoramaHouse$Hall" "shareOfPart" "[I") (by decide +kernel)) (fun _ h9 => h9) rfl hin rfl (by decide +kernel) rfl rfl (Nat.le_of_ble_eq_true rfl) dX1_init_9 (fun H locs hP hD hS => ?_)
  have hP : va_P D vwCl ([(o, .inr (1, [.ref q1, .null, .null, .null, .null, .int 0, .int 0, .int 0, .int 0, .int 0, .int 0, .int 0])), (q1, .inl (C 0, 12, .inl (fun _ => 0)))]) H := hP
  have hD : va_D A ([(o, .inr (1, [.ref q1, .null, .null, .null, .null, .int 0, .int 0, .int 0, .int 0, .int 0, .int 0, .int 0])), (q1, .inl (C 0, 12, .inl (fun _ => 0)))]) := hD
  refine lv_aload_n hx hb dX1_init_12 rfl (lv_at hl 0 rfl) ?_
  refine lv_bipush (v := 12) hx hb dX1_init_13 (by decide) ?_
  refine va_newa (D := D) (atype := .int) (ty := .int) (N' := 12) (n := 12) hx hb (hts (.arrayClass .int) (by decide +kernel)) rfl hK hP hD hS hA (haI 12) (by decide +kernel) (by decide +kernel) (by decide +kernel) (by dsimp only [rmX1_init]; omega) (by dsimp only [rmX1_init]; omega) dX1_init_15 (fun q2 cA H hK1 hP hD hS => ?_)
  obtain rfl : cA = C 0 := tyE0 hK hK1
  have hP : va_P D vwCl ([(o, .inr (1, [.ref q1, .null, .null, .null, .null, .int 0, .int 0, .int 0, .int 0, .int 0, .int 0, .int 0])), (q1, .inl (C 0, 12, .inl (fun _ => 0))), (q2, .inl (C 0, 12, .inl (fun _ => 0)))]) H := hP
  have hD : va_D A ([(o, .inr (1, [.ref q1, .null, .null, .null, .null, .int 0, .int 0, .int 0, .int 0, .int 0, .int 0, .int 0])), (q1, .inl (C 0, 12, .inl (fun _ => 0))), (q2, .inl (C 0, 12, .inl (fun _ => 0)))]) := hD
  refine va_putF (D := D) (ci := 1) (v := .ref q2) (ty := .array .int) (C := RX1) (T := TX1) (N := 12) hx hb hts hiX1 tyX1 tyX1_ok nmX1 hown hK hP hD hS 0 rfl rfl 1 (by decide) (hts (.fieldLink RX1 15 "PanoramaHouse$Hall" "testsOfPart" "[I") (by decide +kernel)) (fun _ h9 => h9) rfl hin rfl (by decide +kernel) rfl rfl (Nat.le_of_ble_eq_true rfl) dX1_init_17 (fun H locs hP hD hS => ?_)
  have hP : va_P D vwCl ([(o, .inr (1, [.ref q1, .ref q2, .null, .null, .null, .int 0, .int 0, .int 0, .int 0, .int 0, .int 0, .int 0])), (q1, .inl (C 0, 12, .inl (fun _ => 0))), (q2, .inl (C 0, 12, .inl (fun _ => 0)))]) H := hP
  have hD : va_D A ([(o, .inr (1, [.ref q1, .ref q2, .null, .null, .null, .int 0, .int 0, .int 0, .int 0, .int 0, .int 0, .int 0])), (q1, .inl (C 0, 12, .inl (fun _ => 0))), (q2, .inl (C 0, 12, .inl (fun _ => 0)))]) := hD
  refine lv_aload_n hx hb dX1_init_20 rfl (lv_at hl 0 rfl) ?_
  refine lv_bipush (v := 36) hx hb dX1_init_21 (by decide) ?_
  refine va_newa (D := D) (atype := .int) (ty := .int) (N' := 36) (n := 36) hx hb (hts (.arrayClass .int) (by decide +kernel)) rfl hK hP hD hS hA (haI 36) (by decide +kernel) (by decide +kernel) (by decide +kernel) (by dsimp only [rmX1_init]; omega) (by dsimp only [rmX1_init]; omega) dX1_init_23 (fun q3 cA H hK1 hP hD hS => ?_)
  obtain rfl : cA = C 0 := tyE0 hK hK1
  have hP : va_P D vwCl ([(o, .inr (1, [.ref q1, .ref q2, .null, .null, .null, .int 0, .int 0, .int 0, .int 0, .int 0, .int 0, .int 0])), (q1, .inl (C 0, 12, .inl (fun _ => 0))), (q2, .inl (C 0, 12, .inl (fun _ => 0))), (q3, .inl (C 0, 36, .inl (fun _ => 0)))]) H := hP
  have hD : va_D A ([(o, .inr (1, [.ref q1, .ref q2, .null, .null, .null, .int 0, .int 0, .int 0, .int 0, .int 0, .int 0, .int 0])), (q1, .inl (C 0, 12, .inl (fun _ => 0))), (q2, .inl (C 0, 12, .inl (fun _ => 0))), (q3, .inl (C 0, 36, .inl (fun _ => 0)))]) := hD
  refine va_putF (D := D) (ci := 1) (v := .ref q3) (ty := .array .int) (C := RX1) (T := TX1) (N := 12) hx hb hts hiX1 tyX1 tyX1_ok nmX1 hown hK hP hD hS 0 rfl rfl 2 (by decide) (hts (.fieldLink RX1 18 "PanoramaHouse$Hall" "subjectOfTest" "[I") (by decide +kernel)) (fun _ h9 => h9) rfl hin rfl (by decide +kernel) rfl rfl (Nat.le_of_ble_eq_true rfl) dX1_init_25 (fun H locs hP hD hS => ?_)
  have hP : va_P D vwCl ([(o, .inr (1, [.ref q1, .ref q2, .ref q3, .null, .null, .int 0, .int 0, .int 0, .int 0, .int 0, .int 0, .int 0])), (q1, .inl (C 0, 12, .inl (fun _ => 0))), (q2, .inl (C 0, 12, .inl (fun _ => 0))), (q3, .inl (C 0, 36, .inl (fun _ => 0)))]) H := hP
  have hD : va_D A ([(o, .inr (1, [.ref q1, .ref q2, .ref q3, .null, .null, .int 0, .int 0, .int 0, .int 0, .int 0, .int 0, .int 0])), (q1, .inl (C 0, 12, .inl (fun _ => 0))), (q2, .inl (C 0, 12, .inl (fun _ => 0))), (q3, .inl (C 0, 36, .inl (fun _ => 0)))]) := hD
  refine lv_aload_n hx hb dX1_init_28 rfl (lv_at hl 0 rfl) ?_
  refine lv_bipush (v := 36) hx hb dX1_init_29 (by decide) ?_
  refine va_newa (D := D) (atype := .int) (ty := .int) (N' := 36) (n := 36) hx hb (hts (.arrayClass .int) (by decide +kernel)) rfl hK hP hD hS hA (haI 36) (by decide +kernel) (by decide +kernel) (by decide +kernel) (by dsimp only [rmX1_init]; omega) (by dsimp only [rmX1_init]; omega) dX1_init_31 (fun q4 cA H hK1 hP hD hS => ?_)
  obtain rfl : cA = C 0 := tyE0 hK hK1
  have hP : va_P D vwCl ([(o, .inr (1, [.ref q1, .ref q2, .ref q3, .null, .null, .int 0, .int 0, .int 0, .int 0, .int 0, .int 0, .int 0])), (q1, .inl (C 0, 12, .inl (fun _ => 0))), (q2, .inl (C 0, 12, .inl (fun _ => 0))), (q3, .inl (C 0, 36, .inl (fun _ => 0))), (q4, .inl (C 0, 36, .inl (fun _ => 0)))]) H := hP
  have hD : va_D A ([(o, .inr (1, [.ref q1, .ref q2, .ref q3, .null, .null, .int 0, .int 0, .int 0, .int 0, .int 0, .int 0, .int 0])), (q1, .inl (C 0, 12, .inl (fun _ => 0))), (q2, .inl (C 0, 12, .inl (fun _ => 0))), (q3, .inl (C 0, 36, .inl (fun _ => 0))), (q4, .inl (C 0, 36, .inl (fun _ => 0)))]) := hD
  refine va_putF (D := D) (ci := 1) (v := .ref q4) (ty := .array .int) (C := RX1) (T := TX1) (N := 12) hx hb hts hiX1 tyX1 tyX1_ok nmX1 hown hK hP hD hS 0 rfl rfl 3 (by decide) (hts (.fieldLink RX1 21 "PanoramaHouse$Hall" "signOfTest" "[I") (by decide +kernel)) (fun _ h9 => h9) rfl hin rfl (by decide +kernel) rfl rfl (Nat.le_of_ble_eq_true rfl) dX1_init_33 (fun H locs hP hD hS => ?_)
  have hP : va_P D vwCl ([(o, .inr (1, [.ref q1, .ref q2, .ref q3, .ref q4, .null, .int 0, .int 0, .int 0, .int 0, .int 0, .int 0, .int 0])), (q1, .inl (C 0, 12, .inl (fun _ => 0))), (q2, .inl (C 0, 12, .inl (fun _ => 0))), (q3, .inl (C 0, 36, .inl (fun _ => 0))), (q4, .inl (C 0, 36, .inl (fun _ => 0)))]) H := hP
  have hD : va_D A ([(o, .inr (1, [.ref q1, .ref q2, .ref q3, .ref q4, .null, .int 0, .int 0, .int 0, .int 0, .int 0, .int 0, .int 0])), (q1, .inl (C 0, 12, .inl (fun _ => 0))), (q2, .inl (C 0, 12, .inl (fun _ => 0))), (q3, .inl (C 0, 36, .inl (fun _ => 0))), (q4, .inl (C 0, 36, .inl (fun _ => 0)))]) := hD
  refine lv_aload_n hx hb dX1_init_36 rfl (lv_at hl 0 rfl) ?_
  refine lv_bipush (v := 36) hx hb dX1_init_37 (by decide) ?_
  refine va_newa (D := D) (atype := .int) (ty := .int) (N' := 36) (n := 36) hx hb (hts (.arrayClass .int) (by decide +kernel)) rfl hK hP hD hS hA (haI 36) (by decide +kernel) (by decide +kernel) (by decide +kernel) (by dsimp only [rmX1_init]; omega) (by dsimp only [rmX1_init]; omega) dX1_init_39 (fun q5 cA H hK1 hP hD hS => ?_)
  obtain rfl : cA = C 0 := tyE0 hK hK1
  have hP : va_P D vwCl ([(o, .inr (1, [.ref q1, .ref q2, .ref q3, .ref q4, .null, .int 0, .int 0, .int 0, .int 0, .int 0, .int 0, .int 0])), (q1, .inl (C 0, 12, .inl (fun _ => 0))), (q2, .inl (C 0, 12, .inl (fun _ => 0))), (q3, .inl (C 0, 36, .inl (fun _ => 0))), (q4, .inl (C 0, 36, .inl (fun _ => 0))), (q5, .inl (C 0, 36, .inl (fun _ => 0)))]) H := hP
  have hD : va_D A ([(o, .inr (1, [.ref q1, .ref q2, .ref q3, .ref q4, .null, .int 0, .int 0, .int 0, .int 0, .int 0, .int 0, .int 0])), (q1, .inl (C 0, 12, .inl (fun _ => 0))), (q2, .inl (C 0, 12, .inl (fun _ => 0))), (q3, .inl (C 0, 36, .inl (fun _ => 0))), (q4, .inl (C 0, 36, .inl (fun _ => 0))), (q5, .inl (C 0, 36, .inl (fun _ => 0)))]) := hD
  refine va_putF (D := D) (ci := 1) (v := .ref q5) (ty := .array .int) (C := RX1) (T := TX1) (N := 12) hx hb hts hiX1 tyX1 tyX1_ok nmX1 hown hK hP hD hS 0 rfl rfl 4 (by decide) (hts (.fieldLink RX1 24 "PanoramaHouse$Hall" "numberOfTest" "[I") (by decide +kernel)) (fun _ h9 => h9) rfl hin rfl (by decide +kernel) rfl rfl (Nat.le_of_ble_eq_true rfl) dX1_init_41 (fun H locs hP hD hS => ?_)
  have hP : va_P D vwCl ([(o, .inr (1, [.ref q1, .ref q2, .ref q3, .ref q4, .ref q5, .int 0, .int 0, .int 0, .int 0, .int 0, .int 0, .int 0])), (q1, .inl (C 0, 12, .inl (fun _ => 0))), (q2, .inl (C 0, 12, .inl (fun _ => 0))), (q3, .inl (C 0, 36, .inl (fun _ => 0))), (q4, .inl (C 0, 36, .inl (fun _ => 0))), (q5, .inl (C 0, 36, .inl (fun _ => 0)))]) H := hP
  have hD : va_D A ([(o, .inr (1, [.ref q1, .ref q2, .ref q3, .ref q4, .ref q5, .int 0, .int 0, .int 0, .int 0, .int 0, .int 0, .int 0])), (q1, .inl (C 0, 12, .inl (fun _ => 0))), (q2, .inl (C 0, 12, .inl (fun _ => 0))), (q3, .inl (C 0, 36, .inl (fun _ => 0))), (q4, .inl (C 0, 36, .inl (fun _ => 0))), (q5, .inl (C 0, 36, .inl (fun _ => 0)))]) := hD
  refine lv_aload_n hx hb dX1_init_44 rfl (lv_at hl 0 rfl) ?_
  refine lv_iconst (v := 1) hx hb dX1_init_45 (by decide) ?_
  refine va_put (D := D) (ci := 1) (v := .int 1) (ty := .int) (C := RX1) (T := TX1) (N := 12) hx hb hts hiX1 tyX1 tyX1_ok nmX1 hown hK hP hD hS 0 rfl rfl 6 (by decide) (hts (.fieldLink RX1 27 "PanoramaHouse$Hall" "weeks" "I") (by decide +kernel)) (fun _ h9 => h9) rfl (by decide +kernel) rfl rfl (Nat.le_of_ble_eq_true rfl) dX1_init_46 (fun H locs hP hD hS => ?_)
  have hP : va_P D vwCl ([(o, .inr (1, [.ref q1, .ref q2, .ref q3, .ref q4, .ref q5, .int 0, .int 1, .int 0, .int 0, .int 0, .int 0, .int 0])), (q1, .inl (C 0, 12, .inl (fun _ => 0))), (q2, .inl (C 0, 12, .inl (fun _ => 0))), (q3, .inl (C 0, 36, .inl (fun _ => 0))), (q4, .inl (C 0, 36, .inl (fun _ => 0))), (q5, .inl (C 0, 36, .inl (fun _ => 0)))]) H := hP
  have hD : va_D A ([(o, .inr (1, [.ref q1, .ref q2, .ref q3, .ref q4, .ref q5, .int 0, .int 1, .int 0, .int 0, .int 0, .int 0, .int 0])), (q1, .inl (C 0, 12, .inl (fun _ => 0))), (q2, .inl (C 0, 12, .inl (fun _ => 0))), (q3, .inl (C 0, 36, .inl (fun _ => 0))), (q4, .inl (C 0, 36, .inl (fun _ => 0))), (q5, .inl (C 0, 36, .inl (fun _ => 0)))]) := hD
  obtain ⟨a1, ea1⟩ : ∃ a : Nat → Nat, a = fun k => ([o, q1, q2, q3, q4, q5, 0, 0, 0, 0, 0, 0, 0] : List Nat).getD k 0 := ⟨_, rfl⟩
  have hP : va_P D vwCl (wX1 C a1 S1 A1) H := by rw [ea1, eS1, eA1]; exact hP
  have hD : va_D A (wX1 C a1 S1 A1) := by rw [ea1, eS1, eA1]; exact hD
  have ho : a1 0 = o := by rw [ea1]; rfl
  exact hret a1 _ _ _ _ dX1_init_49 ho hP hD hS
