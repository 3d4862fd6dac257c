abbrev rmX2_init : Room := { frames := 1, cells := 9, slots := 447, locals := 32 }
set_option maxRecDepth 100000 in
set_option maxHeartbeats 4000000 in
theorem c_X2_init (l : Launch) (K : Kx) (D : va_G) (C : Nat → ClassId) (o : Nat) (a4 : Nat → Nat) (S2 : Nat → Int32) (eS2 : S2 = (fun _ => 0)) (A2 : Nat → Nat → Int32) (eA2 : A2 = fun _ _ => 0) (z : Nat → Nat → Int32) (hF : F_X2_init A2 = some z) : MetC l yX2_init wsX2_init rmX2_init K D (tyV C) [(o, .inr (2, [.null, .null, .null, .null, .null, .null, .null, .null, .null, .null, .int 0, .int 0]))] [.ref o, .ref (a4 0)] (fun u : Nat → Nat => u 0 = o) (fun a2 => wX2 C a2 a4 S2 z) 9 447 := by
  refine met_ctor (cc := cX2_init) (maxL := 3) (by decide +kernel) rfl (Nat.le_of_ble_eq_true rfl) ?_
  intro p e s m below meth c A Q ls ⟨hx, hb, hml, hown, hts, hK, hA, hZ⟩ hin hP hD hS hl hret
  have hown : s.vm.findClass RX2 = some m.cls := hown
  have hiX2 : ∀ w ∈ u_ws RX2 TX2 12, w ∈ wsX2_init := by decide +kernel
  have hl : lv_has ls 3 [(0, .ref (o)), (1, .ref (a4 0))] := hl
  refine lv_aload_n hx hb dX2_init_0 rfl (lv_at hl 0 rfl) ?_
  refine W.objInit hx hb hown (hts (.methodLink RX2 3 objectInit) (by decide +kernel)) (hts (.instanceMethod objectInit) (by decide +kernel)) (hts (.code objectInit ⟨#[0xb1]⟩ 1 none) (List.mem_of_getElem? (i := 3) rfl)) rfl (by rw [hml]; exact hl.1) rfl dX2_init_1 (Nat.le_of_ble_eq_true rfl) (Nat.le_of_ble_eq_true rfl) ?_
  refine W.eq (g2 := F0 m 4 ls []) rfl ?_
  refine lv_aload_n hx hb dX2_init_4 rfl (lv_at hl 0 rfl) ?_
  refine lv_bipush (v := 6) hx hb dX2_init_5 (by decide) ?_
  refine va_newa (D := D) (atype := .int) (ty := .int) (N' := 6) (n := 6) hx hb (hts (.arrayClass .int) (by decide +kernel)) rfl hK hP hD hS hA (haI 6) (by decide +kernel) (by decide +kernel) (by decide +kernel) (by dsimp only [rmX2_init]; omega) (by dsimp only [rmX2_init]; omega) dX2_init_7 (fun q1 cA H hK1 hP hD hS => ?_)
  obtain rfl : cA = C 0 := tyE0 hK hK1
  have hP : va_P D vwCl ([(o, .inr (2, [.null, .null, .null, .null, .null, .null, .null, .null, .null, .null, .int 0, .int 0])), (q1, .inl (C 0, 6, .inl (fun _ => 0)))]) H := hP
  have hD : va_D A ([(o, .inr (2, [.null, .null, .null, .null, .null, .null, .null, .null, .null, .null, .int 0, .int 0])), (q1, .inl (C 0, 6, .inl (fun _ => 0)))]) := hD
  refine va_putF (D := D) (ci := 2) (v := .ref q1) (ty := .array .int) (C := RX2) (T := TX2) (N := 12) hx hb hts hiX2 tyX2 tyX2_ok nmX2 hown hK hP hD hS 0 rfl rfl 1 (by decide) (hts (.fieldLink RX2 9 "PanoramaHouse$Paintwork" "skillOf" "[I") (by decide +kernel)) (fun _ h9 => h9) rfl hin rfl (by decide +kernel) rfl rfl (Nat.le_of_ble_eq_true rfl) dX2_init_9 (fun H locs hP hD hS => ?_)
  have hP : va_P D vwCl ([(o, .inr (2, [.null, .ref q1, .null, .null, .null, .null, .null, .null, .null, .null, .int 0, .int 0])), (q1, .inl (C 0, 6, .inl (fun _ => 0)))]) H := hP
  have hD : va_D A ([(o, .inr (2, [.null, .ref q1, .null, .null, .null, .null, .null, .null, .null, .null, .int 0, .int 0])), (q1, .inl (C 0, 6, .inl (fun _ => 0)))]) := hD
  refine lv_aload_n hx hb dX2_init_12 rfl (lv_at hl 0 rfl) ?_
  refine lv_bipush (v := 6) hx hb dX2_init_13 (by decide) ?_
  refine va_newa (D := D) (atype := .int) (ty := .int) (N' := 6) (n := 6) hx hb (hts (.arrayClass .int) (by decide +kernel)) rfl hK hP hD hS hA (haI 6) (by decide +kernel) (by decide +kernel) (by decide +kernel) (by dsimp only [rmX2_init]; omega) (by dsimp only [rmX2_init]; omega) dX2_init_15 (fun q2 cA H hK1 hP hD hS => ?_)
  obtain rfl : cA = C 0 := tyE0 hK hK1
  have hP : va_P D vwCl ([(o, .inr (2, [.null, .ref q1, .null, .null, .null, .null, .null, .null, .null, .null, .int 0, .int 0])), (q1, .inl (C 0, 6, .inl (fun _ => 0))), (q2, .inl (C 0, 6, .inl (fun _ => 0)))]) H := hP
  have hD : va_D A ([(o, .inr (2, [.null, .ref q1, .null, .null, .null, .null, .null, .null, .null, .null, .int 0, .int 0])), (q1, .inl (C 0, 6, .inl (fun _ => 0))), (q2, .inl (C 0, 6, .inl (fun _ => 0)))]) := hD
  refine va_putF (D := D) (ci := 2) (v := .ref q2) (ty := .array .int) (C := RX2) (T := TX2) (N := 12) hx hb hts hiX2 tyX2 tyX2_ok nmX2 hown hK hP hD hS 0 rfl rfl 2 (by decide) (hts (.fieldLink RX2 15 "PanoramaHouse$Paintwork" "squareOfGang" "[I") (by decide +kernel)) (fun _ h9 => h9) rfl hin rfl (by decide +kernel) rfl rfl (Nat.le_of_ble_eq_true rfl) dX2_init_17 (fun H locs hP hD hS => ?_)
  have hP : va_P D vwCl ([(o, .inr (2, [.null, .ref q1, .ref q2, .null, .null, .null, .null, .null, .null, .null, .int 0, .int 0])), (q1, .inl (C 0, 6, .inl (fun _ => 0))), (q2, .inl (C 0, 6, .inl (fun _ => 0)))]) H := hP
  have hD : va_D A ([(o, .inr (2, [.null, .ref q1, .ref q2, .null, .null, .null, .null, .null, .null, .null, .int 0, .int 0])), (q1, .inl (C 0, 6, .inl (fun _ => 0))), (q2, .inl (C 0, 6, .inl (fun _ => 0)))]) := hD
  refine lv_aload_n hx hb dX2_init_20 rfl (lv_at hl 0 rfl) ?_
  refine lv_bipush (v := 72) hx hb dX2_init_21 (by decide) ?_
  refine va_newa (D := D) (atype := .int) (ty := .int) (N' := 72) (n := 72) hx hb (hts (.arrayClass .int) (by decide +kernel)) rfl hK hP hD hS hA (haI 72) (by decide +kernel) (by decide +kernel) (by decide +kernel) (by dsimp only [rmX2_init]; omega) (by dsimp only [rmX2_init]; omega) dX2_init_23 (fun q3 cA H hK1 hP hD hS => ?_)
  obtain rfl : cA = C 0 := tyE0 hK hK1
  have hP : va_P D vwCl ([(o, .inr (2, [.null, .ref q1, .ref q2, .null, .null, .null, .null, .null, .null, .null, .int 0, .int 0])), (q1, .inl (C 0, 6, .inl (fun _ => 0))), (q2, .inl (C 0, 6, .inl (fun _ => 0))), (q3, .inl (C 0, 72, .inl (fun _ => 0)))]) H := hP
  have hD : va_D A ([(o, .inr (2, [.null, .ref q1, .ref q2, .null, .null, .null, .null, .null, .null, .null, .int 0, .int 0])), (q1, .inl (C 0, 6, .inl (fun _ => 0))), (q2, .inl (C 0, 6, .inl (fun _ => 0))), (q3, .inl (C 0, 72, .inl (fun _ => 0)))]) := hD
  refine va_putF (D := D) (ci := 2) (v := .ref q3) (ty := .array .int) (C := RX2) (T := TX2) (N := 12) hx hb hts hiX2 tyX2 tyX2_ok nmX2 hown hK hP hD hS 0 rfl rfl 3 (by decide) (hts (.fieldLink RX2 18 "PanoramaHouse$Paintwork" "coatsDone" "[I") (by decide +kernel)) (fun _ h9 => h9) rfl hin rfl (by decide +kernel) rfl rfl (Nat.le_of_ble_eq_true rfl) dX2_init_25 (fun H locs hP hD hS => ?_)
  have hP : va_P D vwCl ([(o, .inr (2, [.null, .ref q1, .ref q2, .ref q3, .null, .null, .null, .null, .null, .null, .int 0, .int 0])), (q1, .inl (C 0, 6, .inl (fun _ => 0))), (q2, .inl (C 0, 6, .inl (fun _ => 0))), (q3, .inl (C 0, 72, .inl (fun _ => 0)))]) H := hP
  have hD : va_D A ([(o, .inr (2, [.null, .ref q1, .ref q2, .ref q3, .null, .null, .null, .null, .null, .null, .int 0, .int 0])), (q1, .inl (C 0, 6, .inl (fun _ => 0))), (q2, .inl (C 0, 6, .inl (fun _ => 0))), (q3, .inl (C 0, 72, .inl (fun _ => 0)))]) := hD
  refine lv_aload_n hx hb dX2_init_28 rfl (lv_at hl 0 rfl) ?_
  refine lv_bipush (v := 72) hx hb dX2_init_29 (by decide) ?_
  refine va_newa (D := D) (atype := .int) (ty := .int) (N' := 72) (n := 72) hx hb (hts (.arrayClass .int) (by decide +kernel)) rfl hK hP hD hS hA (haI 72) (by decide +kernel) (by decide +kernel) (by decide +kernel) (by dsimp only [rmX2_init]; omega) (by dsimp only [rmX2_init]; omega) dX2_init_31 (fun q4 cA H hK1 hP hD hS => ?_)
  obtain rfl : cA = C 0 := tyE0 hK hK1
  have hP : va_P D vwCl ([(o, .inr (2, [.null, .ref q1, .ref q2, .ref q3, .null, .null, .null, .null, .null, .null, .int 0, .int 0])), (q1, .inl (C 0, 6, .inl (fun _ => 0))), (q2, .inl (C 0, 6, .inl (fun _ => 0))), (q3, .inl (C 0, 72, .inl (fun _ => 0))), (q4, .inl (C 0, 72, .inl (fun _ => 0)))]) H := hP
  have hD : va_D A ([(o, .inr (2, [.null, .ref q1, .ref q2, .ref q3, .null, .null, .null, .null, .null, .null, .int 0, .int 0])), (q1, .inl (C 0, 6, .inl (fun _ => 0))), (q2, .inl (C 0, 6, .inl (fun _ => 0))), (q3, .inl (C 0, 72, .inl (fun _ => 0))), (q4, .inl (C 0, 72, .inl (fun _ => 0)))]) := hD
  refine va_putF (D := D) (ci := 2) (v := .ref q4) (ty := .array .int) (C := RX2) (T := TX2) (N := 12) hx hb hts hiX2 tyX2 tyX2_ok nmX2 hown hK hP hD hS 0 rfl rfl 4 (by decide) (hts (.fieldLink RX2 21 "PanoramaHouse$Paintwork" "gangOn" "[I") (by decide +kernel)) (fun _ h9 => h9) rfl hin rfl (by decide +kernel) rfl rfl (Nat.le_of_ble_eq_true rfl) dX2_init_33 (fun H locs hP hD hS => ?_)
  have hP : va_P D vwCl ([(o, .inr (2, [.null, .ref q1, .ref q2, .ref q3, .ref q4, .null, .null, .null, .null, .null, .int 0, .int 0])), (q1, .inl (C 0, 6, .inl (fun _ => 0))), (q2, .inl (C 0, 6, .inl (fun _ => 0))), (q3, .inl (C 0, 72, .inl (fun _ => 0))), (q4, .inl (C 0, 72, .inl (fun _ => 0)))]) H := hP
  have hD : va_D A ([(o, .inr (2, [.null, .ref q1, .ref q2, .ref q3, .ref q4, .null, .null, .null, .null, .null, .int 0, .int 0])), (q1, .inl (C 0, 6, .inl (fun _ => 0))), (q2, .inl (C 0, 6, .inl (fun _ => 0))), (q3, .inl (C 0, 72, .inl (fun _ => 0))), (q4, .inl (C 0, 72, .inl (fun _ => 0)))]) := hD
  refine lv_aload_n hx hb dX2_init_36 rfl (lv_at hl 0 rfl) ?_
  refine lv_bipush (v := 72) hx hb dX2_init_37 (by decide) ?_
  refine va_newa (D := D) (atype := .int) (ty := .int) (N' := 72) (n := 72) hx hb (hts (.arrayClass .int) (by decide +kernel)) rfl hK hP hD hS hA (haI 72) (by decide +kernel) (by decide +kernel) (by decide +kernel) (by dsimp only [rmX2_init]; omega) (by dsimp only [rmX2_init]; omega) dX2_init_39 (fun q5 cA H hK1 hP hD hS => ?_)
  obtain rfl : cA = C 0 := tyE0 hK hK1
  have hP : va_P D vwCl ([(o, .inr (2, [.null, .ref q1, .ref q2, .ref q3, .ref q4, .null, .null, .null, .null, .null, .int 0, .int 0])), (q1, .inl (C 0, 6, .inl (fun _ => 0))), (q2, .inl (C 0, 6, .inl (fun _ => 0))), (q3, .inl (C 0, 72, .inl (fun _ => 0))), (q4, .inl (C 0, 72, .inl (fun _ => 0))), (q5, .inl (C 0, 72, .inl (fun _ => 0)))]) H := hP
  have hD : va_D A ([(o, .inr (2, [.null, .ref q1, .ref q2, .ref q3, .ref q4, .null, .null, .null, .null, .null, .int 0, .int 0])), (q1, .inl (C 0, 6, .inl (fun _ => 0))), (q2, .inl (C 0, 6, .inl (fun _ => 0))), (q3, .inl (C 0, 72, .inl (fun _ => 0))), (q4, .inl (C 0, 72, .inl (fun _ => 0))), (q5, .inl (C 0, 72, .inl (fun _ => 0)))]) := hD
  refine va_putF (D := D) (ci := 2) (v := .ref q5) (ty := .array .int) (C := RX2) (T := TX2) (N := 12) hx hb hts hiX2 tyX2 tyX2_ok nmX2 hown hK hP hD hS 0 rfl rfl 5 (by decide) (hts (.fieldLink RX2 24 "PanoramaHouse$Paintwork" "workLeft" "[I") (by decide +kernel)) (fun _ h9 => h9) rfl hin rfl (by decide +kernel) rfl rfl (Nat.le_of_ble_eq_true rfl) dX2_init_41 (fun H locs hP hD hS => ?_)
  have hP : va_P D vwCl ([(o, .inr (2, [.null, .ref q1, .ref q2, .ref q3, .ref q4, .ref q5, .null, .null, .null, .null, .int 0, .int 0])), (q1, .inl (C 0, 6, .inl (fun _ => 0))), (q2, .inl (C 0, 6, .inl (fun _ => 0))), (q3, .inl (C 0, 72, .inl (fun _ => 0))), (q4, .inl (C 0, 72, .inl (fun _ => 0))), (q5, .inl (C 0, 72, .inl (fun _ => 0)))]) H := hP
  have hD : va_D A ([(o, .inr (2, [.null, .ref q1, .ref q2, .ref q3, .ref q4, .ref q5, .null, .null, .null, .null, .int 0, .int 0])), (q1, .inl (C 0, 6, .inl (fun _ => 0))), (q2, .inl (C 0, 6, .inl (fun _ => 0))), (q3, .inl (C 0, 72, .inl (fun _ => 0))), (q4, .inl (C 0, 72, .inl (fun _ => 0))), (q5, .inl (C 0, 72, .inl (fun _ => 0)))]) := hD
  refine lv_aload_n hx hb dX2_init_44 rfl (lv_at hl 0 rfl) ?_
  refine lv_bipush (v := 72) hx hb dX2_init_45 (by decide) ?_
  refine va_newa (D := D) (atype := .int) (ty := .int) (N' := 72) (n := 72) hx hb (hts (.arrayClass .int) (by decide +kernel)) rfl hK hP hD hS hA (haI 72) (by decide +kernel) (by decide +kernel) (by decide +kernel) (by dsimp only [rmX2_init]; omega) (by dsimp only [rmX2_init]; omega) dX2_init_47 (fun q6 cA H hK1 hP hD hS => ?_)
  obtain rfl : cA = C 0 := tyE0 hK hK1
  have hP : va_P D vwCl ([(o, .inr (2, [.null, .ref q1, .ref q2, .ref q3, .ref q4, .ref q5, .null, .null, .null, .null, .int 0, .int 0])), (q1, .inl (C 0, 6, .inl (fun _ => 0))), (q2, .inl (C 0, 6, .inl (fun _ => 0))), (q3, .inl (C 0, 72, .inl (fun _ => 0))), (q4, .inl (C 0, 72, .inl (fun _ => 0))), (q5, .inl (C 0, 72, .inl (fun _ => 0))), (q6, .inl (C 0, 72, .inl (fun _ => 0)))]) H := hP
  have hD : va_D A ([(o, .inr (2, [.null, .ref q1, .ref q2, .ref q3, .ref q4, .ref q5, .null, .null, .null, .null, .int 0, .int 0])), (q1, .inl (C 0, 6, .inl (fun _ => 0))), (q2, .inl (C 0, 6, .inl (fun _ => 0))), (q3, .inl (C 0, 72, .inl (fun _ => 0))), (q4, .inl (C 0, 72, .inl (fun _ => 0))), (q5, .inl (C 0, 72, .inl (fun _ => 0))), (q6, .inl (C 0, 72, .inl (fun _ => 0)))]) := hD
  refine va_putF (D := D) (ci := 2) (v := .ref q6) (ty := .array .int) (C := RX2) (T := TX2) (N := 12) hx hb hts hiX2 tyX2 tyX2_ok nmX2 hown hK hP hD hS 0 rfl rfl 6 (by decide) (hts (.fieldLink RX2 27 "PanoramaHouse$Paintwork" "firstDoneOn" "[I") (by decide +kernel)) (fun _ h9 => h9) rfl hin rfl (by decide +kernel) rfl rfl (Nat.le_of_ble_eq_true rfl) dX2_init_49 (fun H locs hP hD hS => ?_)
  have hP : va_P D vwCl ([(o, .inr (2, [.null, .ref q1, .ref q2, .ref q3, .ref q4, .ref q5, .ref q6, .null, .null, .null, .int 0, .int 0])), (q1, .inl (C 0, 6, .inl (fun _ => 0))), (q2, .inl (C 0, 6, .inl (fun _ => 0))), (q3, .inl (C 0, 72, .inl (fun _ => 0))), (q4, .inl (C 0, 72, .inl (fun _ => 0))), (q5, .inl (C 0, 72, .inl (fun _ => 0))), (q6, .inl (C 0, 72, .inl (fun _ => 0)))]) H := hP
  have hD : va_D A ([(o, .inr (2, [.null, .ref q1, .ref q2, .ref q3, .ref q4, .ref q5, .ref q6, .null, .null, .null, .int 0, .int 0])), (q1, .inl (C 0, 6, .inl (fun _ => 0))), (q2, .inl (C 0, 6, .inl (fun _ => 0))), (q3, .inl (C 0, 72, .inl (fun _ => 0))), (q4, .inl (C 0, 72, .inl (fun _ => 0))), (q5, .inl (C 0, 72, .inl (fun _ => 0))), (q6, .inl (C 0, 72, .inl (fun _ => 0)))]) := hD
  refine lv_aload_n hx hb dX2_init_52 rfl (lv_at hl 0 rfl) ?_
  refine lv_bipush (v := 72) hx hb dX2_init_53 (by decide) ?_
  refine va_newa (D := D) (atype := .int) (ty := .int) (N' := 72) (n := 72) hx hb (hts (.arrayClass .int) (by decide +kernel)) rfl hK hP hD hS hA (haI 72) (by decide +kernel) (by decide +kernel) (by decide +kernel) (by dsimp only [rmX2_init]; omega) (by dsimp only [rmX2_init]; omega) dX2_init_55 (fun q7 cA H hK1 hP hD hS => ?_)
  obtain rfl : cA = C 0 := tyE0 hK hK1
  have hP : va_P D vwCl ([(o, .inr (2, [.null, .ref q1, .ref q2, .ref q3, .ref q4, .ref q5, .ref q6, .null, .null, .null, .int 0, .int 0])), (q1, .inl (C 0, 6, .inl (fun _ => 0))), (q2, .inl (C 0, 6, .inl (fun _ => 0))), (q3, .inl (C 0, 72, .inl (fun _ => 0))), (q4, .inl (C 0, 72, .inl (fun _ => 0))), (q5, .inl (C 0, 72, .inl (fun _ => 0))), (q6, .inl (C 0, 72, .inl (fun _ => 0))), (q7, .inl (C 0, 72, .inl (fun _ => 0)))]) H := hP
  have hD : va_D A ([(o, .inr (2, [.null, .ref q1, .ref q2, .ref q3, .ref q4, .ref q5, .ref q6, .null, .null, .null, .int 0, .int 0])), (q1, .inl (C 0, 6, .inl (fun _ => 0))), (q2, .inl (C 0, 6, .inl (fun _ => 0))), (q3, .inl (C 0, 72, .inl (fun _ => 0))), (q4, .inl (C 0, 72, .inl (fun _ => 0))), (q5, .inl (C 0, 72, .inl (fun _ => 0))), (q6, .inl (C 0, 72, .inl (fun _ => 0))), (q7, .inl (C 0, 72, .inl (fun _ => 0)))]) := hD
  refine va_putF (D := D) (ci := 2) (v := .ref q7) (ty := .array .int) (C := RX2) (T := TX2) (N := 12) hx hb hts hiX2 tyX2 tyX2_ok nmX2 hown hK hP hD hS 0 rfl rfl 7 (by decide) (hts (.fieldLink RX2 30 "PanoramaHouse$Paintwork" "secondDoneOn" "[I") (by decide +kernel)) (fun _ h9 => h9) rfl hin rfl (by decide +kernel) rfl rfl (Nat.le_of_ble_eq_true rfl) dX2_init_57 (fun H locs hP hD hS => ?_)
  have hP : va_P D vwCl ([(o, .inr (2, [.null, .ref q1, .ref q2, .ref q3, .ref q4, .ref q5, .ref q6, .ref q7, .null, .null, .int 0, .int 0])), (q1, .inl (C 0, 6, .inl (fun _ => 0))), (q2, .inl (C 0, 6, .inl (fun _ => 0))), (q3, .inl (C 0, 72, .inl (fun _ => 0))), (q4, .inl (C 0, 72, .inl (fun _ => 0))), (q5, .inl (C 0, 72, .inl (fun _ => 0))), (q6, .inl (C 0, 72, .inl (fun _ => 0))), (q7, .inl (C 0, 72, .inl (fun _ => 0)))]) H := hP
  have hD : va_D A ([(o, .inr (2, [.null, .ref q1, .ref q2, .ref q3, .ref q4, .ref q5, .ref q6, .ref q7, .null, .null, .int 0, .int 0])), (q1, .inl (C 0, 6, .inl (fun _ => 0))), (q2, .inl (C 0, 6, .inl (fun _ => 0))), (q3, .inl (C 0, 72, .inl (fun _ => 0))), (q4, .inl (C 0, 72, .inl (fun _ => 0))), (q5, .inl (C 0, 72, .inl (fun _ => 0))), (q6, .inl (C 0, 72, .inl (fun _ => 0))), (q7, .inl (C 0, 72, .inl (fun _ => 0)))]) := hD
  refine lv_aload_n hx hb dX2_init_60 rfl (lv_at hl 0 rfl) ?_
  refine lv_bipush (v := 72) hx hb dX2_init_61 (by decide) ?_
  refine va_newa (D := D) (atype := .int) (ty := .int) (N' := 72) (n := 72) hx hb (hts (.arrayClass .int) (by decide +kernel)) rfl hK hP hD hS hA (haI 72) (by decide +kernel) (by decide +kernel) (by decide +kernel) (by dsimp only [rmX2_init]; omega) (by dsimp only [rmX2_init]; omega) dX2_init_63 (fun q8 cA H hK1 hP hD hS => ?_)
  obtain rfl : cA = C 0 := tyE0 hK hK1
  have hP : va_P D vwCl ([(o, .inr (2, [.null, .ref q1, .ref q2, .ref q3, .ref q4, .ref q5, .ref q6, .ref q7, .null, .null, .int 0, .int 0])), (q1, .inl (C 0, 6, .inl (fun _ => 0))), (q2, .inl (C 0, 6, .inl (fun _ => 0))), (q3, .inl (C 0, 72, .inl (fun _ => 0))), (q4, .inl (C 0, 72, .inl (fun _ => 0))), (q5, .inl (C 0, 72, .inl (fun _ => 0))), (q6, .inl (C 0, 72, .inl (fun _ => 0))), (q7, .inl (C 0, 72, .inl (fun _ => 0))), (q8, .inl (C 0, 72, .inl (fun _ => 0)))]) H := hP
  have hD : va_D A ([(o, .inr (2, [.null, .ref q1, .ref q2, .ref q3, .ref q4, .ref q5, .ref q6, .ref q7, .null, .null, .int 0, .int 0])), (q1, .inl (C 0, 6, .inl (fun _ => 0))), (q2, .inl (C 0, 6, .inl (fun _ => 0))), (q3, .inl (C 0, 72, .inl (fun _ => 0))), (q4, .inl (C 0, 72, .inl (fun _ => 0))), (q5, .inl (C 0, 72, .inl (fun _ => 0))), (q6, .inl (C 0, 72, .inl (fun _ => 0))), (q7, .inl (C 0, 72, .inl (fun _ => 0))), (q8, .inl (C 0, 72, .inl (fun _ => 0)))]) := hD
  refine va_putF (D := D) (ci := 2) (v := .ref q8) (ty := .array .int) (C := RX2) (T := TX2) (N := 12) hx hb hts hiX2 tyX2 tyX2_ok nmX2 hown hK hP hD hS 0 rfl rfl 8 (by decide) (hts (.fieldLink RX2 33 "PanoramaHouse$Paintwork" "lastGang" "[I") (by decide +kernel)) (fun _ h9 => h9) rfl hin rfl (by decide +kernel) rfl rfl (Nat.le_of_ble_eq_true rfl) dX2_init_65 (fun H locs hP hD hS => ?_)
  have hP : va_P D vwCl ([(o, .inr (2, [.null, .ref q1, .ref q2, .ref q3, .ref q4, .ref q5, .ref q6, .ref q7, .ref q8, .null, .int 0, .int 0])), (q1, .inl (C 0, 6, .inl (fun _ => 0))), (q2, .inl (C 0, 6, .inl (fun _ => 0))), (q3, .inl (C 0, 72, .inl (fun _ => 0))), (q4, .inl (C 0, 72, .inl (fun _ => 0))), (q5, .inl (C 0, 72, .inl (fun _ => 0))), (q6, .inl (C 0, 72, .inl (fun _ => 0))), (q7, .inl (C 0, 72, .inl (fun _ => 0))), (q8, .inl (C 0, 72, .inl (fun _ => 0)))]) H := hP
  have hD : va_D A ([(o, .inr (2, [.null, .ref q1, .ref q2, .ref q3, .ref q4, .ref q5, .ref q6, .ref q7, .ref q8, .null, .int 0, .int 0])), (q1, .inl (C 0, 6, .inl (fun _ => 0))), (q2, .inl (C 0, 6, .inl (fun _ => 0))), (q3, .inl (C 0, 72, .inl (fun _ => 0))), (q4, .inl (C 0, 72, .inl (fun _ => 0))), (q5, .inl (C 0, 72, .inl (fun _ => 0))), (q6, .inl (C 0, 72, .inl (fun _ => 0))), (q7, .inl (C 0, 72, .inl (fun _ => 0))), (q8, .inl (C 0, 72, .inl (fun _ => 0)))]) := hD
  refine lv_aload_n hx hb dX2_init_68 rfl (lv_at hl 0 rfl) ?_
  refine lv_iconst (v := 3) hx hb dX2_init_69 (by decide) ?_
  refine va_newa (D := D) (atype := .int) (ty := .int) (N' := 3) (n := 3) hx hb (hts (.arrayClass .int) (by decide +kernel)) rfl hK hP hD hS hA (haI 3) (by decide +kernel) (by decide +kernel) (by decide +kernel) (by dsimp only [rmX2_init]; omega) (by dsimp only [rmX2_init]; omega) dX2_init_70 (fun q9 cA H hK1 hP hD hS => ?_)
  obtain rfl : cA = C 0 := tyE0 hK hK1
  have hP : va_P D vwCl ([(o, .inr (2, [.null, .ref q1, .ref q2, .ref q3, .ref q4, .ref q5, .ref q6, .ref q7, .ref q8, .null, .int 0, .int 0])), (q1, .inl (C 0, 6, .inl (fun _ => 0))), (q2, .inl (C 0, 6, .inl (fun _ => 0))), (q3, .inl (C 0, 72, .inl (fun _ => 0))), (q4, .inl (C 0, 72, .inl (fun _ => 0))), (q5, .inl (C 0, 72, .inl (fun _ => 0))), (q6, .inl (C 0, 72, .inl (fun _ => 0))), (q7, .inl (C 0, 72, .inl (fun _ => 0))), (q8, .inl (C 0, 72, .inl (fun _ => 0))), (q9, .inl (C 0, 3, .inl (fun _ => 0)))]) H := hP
  have hD : va_D A ([(o, .inr (2, [.null, .ref q1, .ref q2, .ref q3, .ref q4, .ref q5, .ref q6, .ref q7, .ref q8, .null, .int 0, .int 0])), (q1, .inl (C 0, 6, .inl (fun _ => 0))), (q2, .inl (C 0, 6, .inl (fun _ => 0))), (q3, .inl (C 0, 72, .inl (fun _ => 0))), (q4, .inl (C 0, 72, .inl (fun _ => 0))), (q5, .inl (C 0, 72, .inl (fun _ => 0))), (q6, .inl (C 0, 72, .inl (fun _ => 0))), (q7, .inl (C 0, 72, .inl (fun _ => 0))), (q8, .inl (C 0, 72, .inl (fun _ => 0))), (q9, .inl (C 0, 3, .inl (fun _ => 0)))]) := hD
  refine va_putF (D := D) (ci := 2) (v := .ref q9) (ty := .array .int) (C := RX2) (T := TX2) (N := 12) hx hb hts hiX2 tyX2 tyX2_ok nmX2 hown hK hP hD hS 0 rfl rfl 9 (by decide) (hts (.fieldLink RX2 36 "PanoramaHouse$Paintwork" "workGiven" "[I") (by decide +kernel)) (fun _ h9 => h9) rfl hin rfl (by decide +kernel) rfl rfl (Nat.le_of_ble_eq_true rfl) dX2_init_72 (fun H locs hP hD hS => ?_)
  have hP : va_P D vwCl ([(o, .inr (2, [.null, .ref q1, .ref q2, .ref q3, .ref q4, .ref q5, .ref q6, .ref q7, .ref q8, .ref q9, .int 0, .int 0])), (q1, .inl (C 0, 6, .inl (fun _ => 0))), (q2, .inl (C 0, 6, .inl (fun _ => 0))), (q3, .inl (C 0, 72, .inl (fun _ => 0))), (q4, .inl (C 0, 72, .inl (fun _ => 0))), (q5, .inl (C 0, 72, .inl (fun _ => 0))), (q6, .inl (C 0, 72, .inl (fun _ => 0))), (q7, .inl (C 0, 72, .inl (fun _ => 0))), (q8, .inl (C 0, 72, .inl (fun _ => 0))), (q9, .inl (C 0, 3, .inl (fun _ => 0)))]) H := hP
  have hD : va_D A ([(o, .inr (2, [.null, .ref q1, .ref q2, .ref q3, .ref q4, .ref q5, .ref q6, .ref q7, .ref q8, .ref q9, .int 0, .int 0])), (q1, .inl (C 0, 6, .inl (fun _ => 0))), (q2, .inl (C 0, 6, .inl (fun _ => 0))), (q3, .inl (C 0, 72, .inl (fun _ => 0))), (q4, .inl (C 0, 72, .inl (fun _ => 0))), (q5, .inl (C 0, 72, .inl (fun _ => 0))), (q6, .inl (C 0, 72, .inl (fun _ => 0))), (q7, .inl (C 0, 72, .inl (fun _ => 0))), (q8, .inl (C 0, 72, .inl (fun _ => 0))), (q9, .inl (C 0, 3, .inl (fun _ => 0)))]) := hD
  refine lv_aload_n hx hb dX2_init_75 rfl (lv_at hl 0 rfl) ?_
  refine lv_aload_n hx hb dX2_init_76 rfl (lv_at hl 1 rfl) ?_
  refine va_putF (D := D) (ci := 2) (v := .ref (a4 0)) (ty := .object "PanoramaHouse$Round") (C := RX2) (T := TX2) (N := 12) hx hb hts hiX2 tyX2 tyX2_ok nmX2 hown hK hP hD hS 0 rfl rfl 0 (by decide) (hts (.fieldLink RX2 39 "PanoramaHouse$Paintwork" "round" "LPanoramaHouse$Round;") (by decide +kernel)) (fun _ h9 => h9) rfl hin rfl (by decide +kernel) rfl rfl (Nat.le_of_ble_eq_true rfl) dX2_init_77 (fun H locs hP hD hS => ?_)
  have hP : va_P D vwCl ([(o, .inr (2, [.ref (a4 0), .ref q1, .ref q2, .ref q3, .ref q4, .ref q5, .ref q6, .ref q7, .ref q8, .ref q9, .int 0, .int 0])), (q1, .inl (C 0, 6, .inl (fun _ => 0))), (q2, .inl (C 0, 6, .inl (fun _ => 0))), (q3, .inl (C 0, 72, .inl (fun _ => 0))), (q4, .inl (C 0, 72, .inl (fun _ => 0))), (q5, .inl (C 0, 72, .inl (fun _ => 0))), (q6, .inl (C 0, 72, .inl (fun _ => 0))), (q7, .inl (C 0, 72, .inl (fun _ => 0))), (q8, .inl (C 0, 72, .inl (fun _ => 0))), (q9, .inl (C 0, 3, .inl (fun _ => 0)))]) H := hP
  have hD : va_D A ([(o, .inr (2, [.ref (a4 0), .ref q1, .ref q2, .ref q3, .ref q4, .ref q5, .ref q6, .ref q7, .ref q8, .ref q9, .int 0, .int 0])), (q1, .inl (C 0, 6, .inl (fun _ => 0))), (q2, .inl (C 0, 6, .inl (fun _ => 0))), (q3, .inl (C 0, 72, .inl (fun _ => 0))), (q4, .inl (C 0, 72, .inl (fun _ => 0))), (q5, .inl (C 0, 72, .inl (fun _ => 0))), (q6, .inl (C 0, 72, .inl (fun _ => 0))), (q7, .inl (C 0, 72, .inl (fun _ => 0))), (q8, .inl (C 0, 72, .inl (fun _ => 0))), (q9, .inl (C 0, 3, .inl (fun _ => 0)))]) := hD
  obtain ⟨a2, ea2⟩ : ∃ a : Nat → Nat, a = fun k => ([o, 0, q1, q2, q3, q4, q5, q6, q7, q8, q9, 0, 0] : List Nat).getD k 0 := ⟨_, rfl⟩
  have hP : va_P D vwCl (wX2 C a2 a4 S2 A2) H := by rw [ea2, eS2, eA2]; exact hP
  have hD : va_D A (wX2 C a2 a4 S2 A2) := by rw [ea2, eS2, eA2]; exact hD
  have ho : a2 0 = o := by rw [ea2]; rfl
  have hl : lv_has ls 3 [(0, .ref (a2 0)), (1, .ref (a4 0))] := ho ▸ hl
  unfold F_X2_init at hF
  obtain ⟨J143, eJ143, hF⟩ := nm_ex hF
  have bJ143 : ∀ (A2 : Nat → Nat → Int32), J143 A2 = some z → ∀ (H : Heap) (locs : List Loc) (ls : Array Slot), va_P D vwCl (wX2 C a2 a4 S2 A2) H → va_D A (wX2 C a2 a4 S2 A2) → va_S A s.heap H locs → lv_has ls 3 [] → W p l e rmX2_init s m ([.ref o, .ref (a4 0)] : List Value).toArray below meth c H locs 9 447 Q (F0 m 143 ls []) := by
    intro A2 hF H locs ls hP hD hS hl
    rw [eJ143] at hF
    cases hF
    exact hret a2 _ _ _ _ dX2_init_143 ho hP hD hS
  have bL103 : ∀ (n : Nat) (x2 : Int32) (A2 : Nat → Nat → Int32), L_X2_init_103 J143 n x2 A2 = some z → ∀ (H : Heap) (locs : List Loc) (ls : Array Slot), va_P D vwCl (wX2 C a2 a4 S2 A2) H → va_D A (wX2 C a2 a4 S2 A2) → va_S A s.heap H locs → lv_has ls 3 [(0, .ref (a2 0)), (2, .int x2)] → W p l e rmX2_init s m ([.ref o, .ref (a4 0)] : List Value).toArray below meth c H locs 9 447 Q (F0 m 103 ls []) := by
    intro n
    induction n with
    | zero => intro x2 A2 hF; rw [L_X2_init_103.eq_1] at hF; cases hF
    | succ n ih103 =>
      intro x2 A2 hF H locs ls hP hD hS hl
      rw [L_X2_init_103.eq_2] at hF
      refine lv_iload_n hx hb dX2_init_103 rfl (lv_at hl 1 rfl) ?_
      refine lv_bipush (v := 72) hx hb dX2_init_104 (by decide) ?_
      refine lv_icmp_ge (tgt := 143) hx hb dX2_init_106 (by decide) (fun c_1 => ?_) (fun c_1 => ?_)
      · have hF := ifp hF c_1
        exact bJ143 A2 hF _ _ _ hP hD hS (lv_sub hl [] rfl)
      · have hF := ifn hF c_1
        refine lv_aload_n hx hb dX2_init_109 rfl (lv_at hl 0 rfl) ?_
        refine va_get (D := D) (ci := 2) (v := .ref (a2 5)) (C := RX2) (T := TX2) (N := 12) hx hb hts hiX2 hown hK hP 0 rfl rfl 4 (by decide) (hts (.fieldLink RX2 21 "PanoramaHouse$Paintwork" "gangOn" "[I") (by decide +kernel)) (fun _ h9 => h9) rfl dX2_init_110 ?_
        refine lv_iload_n hx hb dX2_init_113 rfl (lv_at hl 1 rfl) ?_
        refine lv_iconst (v := -1) hx hb dX2_init_114 (by decide) ?_
        obtain ⟨h_2, hF⟩ := ix_at hF
        refine va_iast hx hb hK hP hD hS 4 0 rfl rfl h_2 dX2_init_115 (fun H locs hP hD hS => ?_)
        obtain ⟨A2_3, eA2_3, hF⟩ := nm_ex hF
        have hP : va_P D vwCl (wX2 C a2 a4 S2 A2_3) H := by rw [eA2_3]; exact hP
        have hD : va_D A (wX2 C a2 a4 S2 A2_3) := by rw [eA2_3]; exact hD
        refine lv_aload_n hx hb dX2_init_116 rfl (lv_at hl 0 rfl) ?_
        refine va_get (D := D) (ci := 2) (v := .ref (a2 7)) (C := RX2) (T := TX2) (N := 12) hx hb hts hiX2 hown hK hP 0 rfl rfl 6 (by decide) (hts (.fieldLink RX2 27 "PanoramaHouse$Paintwork" "firstDoneOn" "[I") (by decide +kernel)) (fun _ h9 => h9) rfl dX2_init_117 ?_
        refine lv_iload_n hx hb dX2_init_120 rfl (lv_at hl 1 rfl) ?_
        refine lv_iconst (v := -1) hx hb dX2_init_121 (by decide) ?_
        obtain ⟨h_4, hF⟩ := ix_at hF
        refine va_iast hx hb hK hP hD hS 6 0 rfl rfl h_4 dX2_init_122 (fun H locs hP hD hS => ?_)
        obtain ⟨A2_5, eA2_5, hF⟩ := nm_ex hF
        have hP : va_P D vwCl (wX2 C a2 a4 S2 A2_5) H := by rw [eA2_5]; exact hP
        have hD : va_D A (wX2 C a2 a4 S2 A2_5) := by rw [eA2_5]; exact hD
        refine lv_aload_n hx hb dX2_init_123 rfl (lv_at hl 0 rfl) ?_
        refine va_get (D := D) (ci := 2) (v := .ref (a2 8)) (C := RX2) (T := TX2) (N := 12) hx hb hts hiX2 hown hK hP 0 rfl rfl 7 (by decide) (hts (.fieldLink RX2 30 "PanoramaHouse$Paintwork" "secondDoneOn" "[I") (by decide +kernel)) (fun _ h9 => h9) rfl dX2_init_124 ?_
        refine lv_iload_n hx hb dX2_init_127 rfl (lv_at hl 1 rfl) ?_
        refine lv_iconst (v := -1) hx hb dX2_init_128 (by decide) ?_
        obtain ⟨h_6, hF⟩ := ix_at hF
        refine va_iast hx hb hK hP hD hS 7 0 rfl rfl h_6 dX2_init_129 (fun H locs hP hD hS => ?_)
        obtain ⟨A2_7, eA2_7, hF⟩ := nm_ex hF
        have hP : va_P D vwCl (wX2 C a2 a4 S2 A2_7) H := by rw [eA2_7]; exact hP
        have hD : va_D A (wX2 C a2 a4 S2 A2_7) := by rw [eA2_7]; exact hD
        refine lv_aload_n hx hb dX2_init_130 rfl (lv_at hl 0 rfl) ?_
        refine va_get (D := D) (ci := 2) (v := .ref (a2 9)) (C := RX2) (T := TX2) (N := 12) hx hb hts hiX2 hown hK hP 0 rfl rfl 8 (by decide) (hts (.fieldLink RX2 33 "PanoramaHouse$Paintwork" "lastGang" "[I") (by decide +kernel)) (fun _ h9 => h9) rfl dX2_init_131 ?_
        refine lv_iload_n hx hb dX2_init_134 rfl (lv_at hl 1 rfl) ?_
        refine lv_iconst (v := -1) hx hb dX2_init_135 (by decide) ?_
        obtain ⟨h_8, hF⟩ := ix_at hF
        refine va_iast hx hb hK hP hD hS 8 0 rfl rfl h_8 dX2_init_136 (fun H locs hP hD hS => ?_)
        obtain ⟨A2_9, eA2_9, hF⟩ := nm_ex hF
        have hP : va_P D vwCl (wX2 C a2 a4 S2 A2_9) H := by rw [eA2_9]; exact hP
        have hD : va_D A (wX2 C a2 a4 S2 A2_9) := by rw [eA2_9]; exact hD
        obtain ⟨v_10, ev_10⟩ : ∃ y : Int32, y = x2 + 1 := ⟨_, rfl⟩
        have hF := nm_at hF ev_10
        refine lv_iinc (v := v_10) (lv' := [(2, .int v_10), (0, .ref (a2 0))]) hx hb dX2_init_137 hl (k := 1) rfl (by rw [ev_10]; rfl) (by decide) rfl (fun ls hl => ?_)
        refine lv_goto (tgt := 103) hx hb dX2_init_140 (by decide) ?_
        exact ih103 v_10 A2_9 hF _ _ _ hP hD hS (lv_sub hl [1, 0] rfl)
  obtain ⟨J101, eJ101, hF⟩ := nm_ex hF
  have bJ101 : ∀ (A2 : Nat → Nat → Int32), J101 A2 = some z → ∀ (H : Heap) (locs : List Loc) (ls : Array Slot), va_P D vwCl (wX2 C a2 a4 S2 A2) H → va_D A (wX2 C a2 a4 S2 A2) → va_S A s.heap H locs → lv_has ls 3 [(0, .ref (a2 0))] → W p l e rmX2_init s m ([.ref o, .ref (a4 0)] : List Value).toArray below meth c H locs 9 447 Q (F0 m 101 ls []) := by
    intro A2 hF H locs ls hP hD hS hl
    rw [eJ101] at hF
    refine lv_iconst (v := 0) hx hb dX2_init_101 (by decide) ?_
    refine lv_istore_n (lv' := [(2, .int 0), (0, .ref (a2 0))]) hx hb dX2_init_102 rfl hl (by decide) rfl (fun ls hl => ?_)
    exact bL103 FU 0 A2 hF _ _ _ hP hD hS (lv_sub hl [1, 0] rfl)
  have bL82 : ∀ (n : Nat) (x2 : Int32) (A2 : Nat → Nat → Int32), L_X2_init_82 J101 n x2 A2 = some z → ∀ (H : Heap) (locs : List Loc) (ls : Array Slot), va_P D vwCl (wX2 C a2 a4 S2 A2) H → va_D A (wX2 C a2 a4 S2 A2) → va_S A s.heap H locs → lv_has ls 3 [(0, .ref (a2 0)), (2, .int x2)] → W p l e rmX2_init s m ([.ref o, .ref (a4 0)] : List Value).toArray below meth c H locs 9 447 Q (F0 m 82 ls []) := by
    intro n
    induction n with
    | zero => intro x2 A2 hF; rw [L_X2_init_82.eq_1] at hF; cases hF
    | succ n ih82 =>
      intro x2 A2 hF H locs ls hP hD hS hl
      rw [L_X2_init_82.eq_2] at hF
      refine lv_iload_n hx hb dX2_init_82 rfl (lv_at hl 1 rfl) ?_
      refine lv_bipush (v := 6) hx hb dX2_init_83 (by decide) ?_
      refine lv_icmp_ge (tgt := 101) hx hb dX2_init_85 (by decide) (fun c_11 => ?_) (fun c_11 => ?_)
      · have hF := ifp hF c_11
        exact bJ101 A2 hF _ _ _ hP hD hS (lv_sub hl [0] rfl)
      · have hF := ifn hF c_11
        refine lv_aload_n hx hb dX2_init_88 rfl (lv_at hl 0 rfl) ?_
        refine va_get (D := D) (ci := 2) (v := .ref (a2 3)) (C := RX2) (T := TX2) (N := 12) hx hb hts hiX2 hown hK hP 0 rfl rfl 2 (by decide) (hts (.fieldLink RX2 15 "PanoramaHouse$Paintwork" "squareOfGang" "[I") (by decide +kernel)) (fun _ h9 => h9) rfl dX2_init_89 ?_
        refine lv_iload_n hx hb dX2_init_92 rfl (lv_at hl 1 rfl) ?_
        refine lv_iconst (v := -1) hx hb dX2_init_93 (by decide) ?_
        obtain ⟨h_12, hF⟩ := ix_at hF
        refine va_iast hx hb hK hP hD hS 2 0 rfl rfl h_12 dX2_init_94 (fun H locs hP hD hS => ?_)
        obtain ⟨A2_13, eA2_13, hF⟩ := nm_ex hF
        have hP : va_P D vwCl (wX2 C a2 a4 S2 A2_13) H := by rw [eA2_13]; exact hP
        have hD : va_D A (wX2 C a2 a4 S2 A2_13) := by rw [eA2_13]; exact hD
        obtain ⟨v_14, ev_14⟩ : ∃ y : Int32, y = x2 + 1 := ⟨_, rfl⟩
        have hF := nm_at hF ev_14
        refine lv_iinc (v := v_14) (lv' := [(2, .int v_14), (0, .ref (a2 0))]) hx hb dX2_init_95 hl (k := 1) rfl (by rw [ev_14]; rfl) (by decide) rfl (fun ls hl => ?_)
        refine lv_goto (tgt := 82) hx hb dX2_init_98 (by decide) ?_
        exact ih82 v_14 A2_13 hF _ _ _ hP hD hS (lv_sub hl [1, 0] rfl)
  refine lv_iconst (v := 0) hx hb dX2_init_80 (by decide) ?_
  refine lv_istore_n (lv' := [(2, .int 0), (0, .ref (a2 0)), (1, .ref (a4 0))]) hx hb dX2_init_81 rfl hl (by decide) rfl (fun ls hl => ?_)
  exact bL82 FU 0 A2 hF _ _ _ hP hD hS (lv_sub hl [1, 0] rfl)
