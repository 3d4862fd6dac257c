abbrev rmX1_clearContract : Room := { frames := 1, cells := 0, slots := 0, locals := 32 }
set_option maxRecDepth 100000 in
set_option maxHeartbeats 4000000 in
theorem c_X1_clearContract (l : Launch) (K : Kx) (D : va_G) (C : Nat → ClassId) (a1 : Nat → Nat) (S1 : Nat → Int32) (A1 : Nat → Nat → Int32) (z : (Nat → Int32)) (hF : F_X1_clearContract S1 = some z) : MetV l yX1_clearContract wsX1_clearContract rmX1_clearContract K D (tyV C) (wX1 C a1 S1 A1) [.ref (a1 0)] (wX1 C a1 z A1) := by
  refine met_void (cc := cX1_clearContract) (maxL := 1) (by decide +kernel) rfl (Nat.le_of_ble_eq_true rfl) ?_
  intro p e s m below meth c A Q ls ⟨hx, hb, hml, hown, hts, hK, hA, hZ⟩ hP hD hS hl hret
  have hown : s.vm.findClass RX1 = some m.cls := hown
  have hiX1 : ∀ w ∈ u_ws RX1 TX1 12, w ∈ wsX1_clearContract := by decide +kernel
  have hl : lv_has ls 1 [(0, .ref (a1 0))] := hl
  unfold F_X1_clearContract at hF
  refine lv_aload_n hx hb dX1_clearContract_0 rfl (lv_at hl 0 rfl) ?_
  refine lv_iconst (v := 0) hx hb dX1_clearContract_1 (by decide) ?_
  refine va_put (D := D) (ci := 1) (v := .int 0) (ty := .int) (C := RX1) (T := TX1) (N := 12) hx hb hts hiX1 tyX1 tyX1_ok nmX1 hown hK hP hD hS 0 rfl rfl 5 (by decide) (hts (.fieldLink RX1 31 "PanoramaHouse$Hall" "parts" "I") (by decide +kernel)) (fun _ h9 => h9) rfl (by decide +kernel) rfl rfl (Nat.le_of_ble_eq_true rfl) dX1_clearContract_2 (fun H locs hP hD hS => ?_)
  obtain ⟨S1_1, eS1_1, hF⟩ := nm_ex hF
  have hP : va_P D vwCl (wX1 C a1 S1_1 A1) H := by rw [eS1_1]; exact hP
  have hD : va_D A (wX1 C a1 S1_1 A1) := by rw [eS1_1]; exact hD
  refine lv_aload_n hx hb dX1_clearContract_5 rfl (lv_at hl 0 rfl) ?_
  refine lv_iconst (v := 1) hx hb dX1_clearContract_6 (by decide) ?_
  refine va_put (D := D) (ci := 1) (v := .int 1) (ty := .int) (C := RX1) (T := TX1) (N := 12) hx hb hts hiX1 tyX1 tyX1_ok nmX1 hown hK hP hD hS 0 rfl rfl 6 (by decide) (hts (.fieldLink RX1 27 "PanoramaHouse$Hall" "weeks" "I") (by decide +kernel)) (fun _ h9 => h9) rfl (by decide +kernel) rfl rfl (Nat.le_of_ble_eq_true rfl) dX1_clearContract_7 (fun H locs hP hD hS => ?_)
  obtain ⟨S1_2, eS1_2, hF⟩ := nm_ex hF
  have hP : va_P D vwCl (wX1 C a1 S1_2 A1) H := by rw [eS1_2]; exact hP
  have hD : va_D A (wX1 C a1 S1_2 A1) := by rw [eS1_2]; exact hD
  refine lv_aload_n hx hb dX1_clearContract_10 rfl (lv_at hl 0 rfl) ?_
  refine lv_iconst (v := 0) hx hb dX1_clearContract_11 (by decide) ?_
  refine va_put (D := D) (ci := 1) (v := .int 0) (ty := .int) (C := RX1) (T := TX1) (N := 12) hx hb hts hiX1 tyX1 tyX1_ok nmX1 hown hK hP hD hS 0 rfl rfl 7 (by decide) (hts (.fieldLink RX1 34 "PanoramaHouse$Hall" "rent" "I") (by decide +kernel)) (fun _ h9 => h9) rfl (by decide +kernel) rfl rfl (Nat.le_of_ble_eq_true rfl) dX1_clearContract_12 (fun H locs hP hD hS => ?_)
  obtain ⟨S1_3, eS1_3, hF⟩ := nm_ex hF
  have hP : va_P D vwCl (wX1 C a1 S1_3 A1) H := by rw [eS1_3]; exact hP
  have hD : va_D A (wX1 C a1 S1_3 A1) := by rw [eS1_3]; exact hD
  cases hF
  exact hret _ _ _ _ dX1_clearContract_15 hP hD hS
abbrev rmX1_setWeeks : Room := { frames := 1, cells := 0, slots := 0, locals := 32 }
set_option maxRecDepth 100000 in
set_option maxHeartbeats 4000000 in
theorem c_X1_setWeeks (l : Launch) (K : Kx) (D : va_G) (C : Nat → ClassId) (a1 : Nat → Nat) (S1 : Nat → Int32) (A1 : Nat → Nat → Int32) (p1 : Int32) (z : (Nat → Int32)) (hF : F_X1_setWeeks S1 p1 = some z) : MetV l yX1_setWeeks wsX1_setWeeks rmX1_setWeeks K D (tyV C) (wX1 C a1 S1 A1) [.ref (a1 0), .int p1] (wX1 C a1 z A1) := by
  refine met_void (cc := cX1_setWeeks) (maxL := 2) (by decide +kernel) rfl (Nat.le_of_ble_eq_true rfl) ?_
  intro p e s m below meth c A Q ls ⟨hx, hb, hml, hown, hts, hK, hA, hZ⟩ hP hD hS hl hret
  have hown : s.vm.findClass RX1 = some m.cls := hown
  have hiX1 : ∀ w ∈ u_ws RX1 TX1 12, w ∈ wsX1_setWeeks := by decide +kernel
  have hl : lv_has ls 2 [(0, .ref (a1 0)), (1, .int p1)] := hl
  unfold F_X1_setWeeks at hF
  refine lv_aload_n hx hb dX1_setWeeks_0 rfl (lv_at hl 0 rfl) ?_
  refine lv_iload_n hx hb dX1_setWeeks_1 rfl (lv_at hl 1 rfl) ?_
  refine va_put (D := D) (ci := 1) (v := .int p1) (ty := .int) (C := RX1) (T := TX1) (N := 12) hx hb hts hiX1 tyX1 tyX1_ok nmX1 hown hK hP hD hS 0 rfl rfl 6 (by decide) (hts (.fieldLink RX1 27 "PanoramaHouse$Hall" "weeks" "I") (by decide +kernel)) (fun _ h9 => h9) rfl (by decide +kernel) rfl rfl (Nat.le_of_ble_eq_true rfl) dX1_setWeeks_2 (fun H locs hP hD hS => ?_)
  obtain ⟨S1_1, eS1_1, hF⟩ := nm_ex hF
  have hP : va_P D vwCl (wX1 C a1 S1_1 A1) H := by rw [eS1_1]; exact hP
  have hD : va_D A (wX1 C a1 S1_1 A1) := by rw [eS1_1]; exact hD
  cases hF
  exact hret _ _ _ _ dX1_setWeeks_5 hP hD hS
abbrev rmX1_setRent : Room := { frames := 1, cells := 0, slots := 0, locals := 32 }
set_option maxRecDepth 100000 in
set_option maxHeartbeats 4000000 in
theorem c_X1_setRent (l : Launch) (K : Kx) (D : va_G) (C : Nat → ClassId) (a1 : Nat → Nat) (S1 : Nat → Int32) (A1 : Nat → Nat → Int32) (p1 : Int32) (z : (Nat → Int32)) (hF : F_X1_setRent S1 p1 = some z) : MetV l yX1_setRent wsX1_setRent rmX1_setRent K D (tyV C) (wX1 C a1 S1 A1) [.ref (a1 0), .int p1] (wX1 C a1 z A1) := by
  refine met_void (cc := cX1_setRent) (maxL := 2) (by decide +kernel) rfl (Nat.le_of_ble_eq_true rfl) ?_
  intro p e s m below meth c A Q ls ⟨hx, hb, hml, hown, hts, hK, hA, hZ⟩ hP hD hS hl hret
  have hown : s.vm.findClass RX1 = some m.cls := hown
  have hiX1 : ∀ w ∈ u_ws RX1 TX1 12, w ∈ wsX1_setRent := by decide +kernel
  have hl : lv_has ls 2 [(0, .ref (a1 0)), (1, .int p1)] := hl
  unfold F_X1_setRent at hF
  refine lv_aload_n hx hb dX1_setRent_0 rfl (lv_at hl 0 rfl) ?_
  refine lv_iload_n hx hb dX1_setRent_1 rfl (lv_at hl 1 rfl) ?_
  refine va_put (D := D) (ci := 1) (v := .int p1) (ty := .int) (C := RX1) (T := TX1) (N := 12) hx hb hts hiX1 tyX1 tyX1_ok nmX1 hown hK hP hD hS 0 rfl rfl 7 (by decide) (hts (.fieldLink RX1 34 "PanoramaHouse$Hall" "rent" "I") (by decide +kernel)) (fun _ h9 => h9) rfl (by decide +kernel) rfl rfl (Nat.le_of_ble_eq_true rfl) dX1_setRent_2 (fun H locs hP hD hS => ?_)
  obtain ⟨S1_1, eS1_1, hF⟩ := nm_ex hF
  have hP : va_P D vwCl (wX1 C a1 S1_1 A1) H := by rw [eS1_1]; exact hP
  have hD : va_D A (wX1 C a1 S1_1 A1) := by rw [eS1_1]; exact hD
  cases hF
  exact hret _ _ _ _ dX1_setRent_5 hP hD hS
abbrev rmX1_addPart : Room := { frames := 1, cells := 0, slots := 0, locals := 32 }
set_option maxRecDepth 100000 in
set_option maxHeartbeats 4000000 in
theorem c_X1_addPart (l : Launch) (K : Kx) (D : va_G) (C : Nat → ClassId) (a1 : Nat → Nat) (S1 : Nat → Int32) (A1 : Nat → Nat → Int32) (p1 : Int32) (z : (Nat → Int32) × (Nat → Nat → Int32)) (hF : F_X1_addPart S1 A1 p1 = some z) : MetV l yX1_addPart wsX1_addPart rmX1_addPart K D (tyV C) (wX1 C a1 S1 A1) [.ref (a1 0), .int p1] (wX1 C a1 z.1 z.2) := by
  refine met_void (cc := cX1_addPart) (maxL := 2) (by decide +kernel) rfl (Nat.le_of_ble_eq_true rfl) ?_
  intro p e s m below meth c A Q ls ⟨hx, hb, hml, hown, hts, hK, hA, hZ⟩ hP hD hS hl hret
  have hown : s.vm.findClass RX1 = some m.cls := hown
  have hiX1 : ∀ w ∈ u_ws RX1 TX1 12, w ∈ wsX1_addPart := by decide +kernel
  have hl : lv_has ls 2 [(0, .ref (a1 0)), (1, .int p1)] := hl
  unfold F_X1_addPart at hF
  refine lv_aload_n hx hb dX1_addPart_0 rfl (lv_at hl 0 rfl) ?_
  refine va_get (D := D) (ci := 1) (v := .int (S1 5)) (C := RX1) (T := TX1) (N := 12) hx hb hts hiX1 hown hK hP 0 rfl rfl 5 (by decide) (hts (.fieldLink RX1 31 "PanoramaHouse$Hall" "parts" "I") (by decide +kernel)) (fun _ h9 => h9) rfl dX1_addPart_1 ?_
  refine lv_if_lt (tgt := 46) hx hb dX1_addPart_4 (by decide) (fun c_1 => ?_) (fun c_1 => ?_)
  · have hF := ifp hF c_1
    cases hF
    exact hret _ _ _ _ dX1_addPart_46 hP hD hS
  · have hF := ifn hF c_1
    refine lv_aload_n hx hb dX1_addPart_7 rfl (lv_at hl 0 rfl) ?_
    refine va_get (D := D) (ci := 1) (v := .int (S1 5)) (C := RX1) (T := TX1) (N := 12) hx hb hts hiX1 hown hK hP 0 rfl rfl 5 (by decide) (hts (.fieldLink RX1 31 "PanoramaHouse$Hall" "parts" "I") (by decide +kernel)) (fun _ h9 => h9) rfl dX1_addPart_8 ?_
    refine lv_bipush (v := 12) hx hb dX1_addPart_11 (by decide) ?_
    refine lv_icmp_ge (tgt := 46) hx hb dX1_addPart_13 (by decide) (fun c_2 => ?_) (fun c_2 => ?_)
    · have hF := ifp hF c_2
      cases hF
      exact hret _ _ _ _ dX1_addPart_46 hP hD hS
    · have hF := ifn hF c_2
      refine lv_aload_n hx hb dX1_addPart_16 rfl (lv_at hl 0 rfl) ?_
      refine va_get (D := D) (ci := 1) (v := .ref (a1 1)) (C := RX1) (T := TX1) (N := 12) hx hb hts hiX1 hown hK hP 0 rfl rfl 0 (by decide) (hts (.fieldLink RX1 9 "PanoramaHouse$Hall" "shareOfPart" "[I") (by decide +kernel)) (fun _ h9 => h9) rfl dX1_addPart_17 ?_
      refine lv_aload_n hx hb dX1_addPart_20 rfl (lv_at hl 0 rfl) ?_
      refine va_get (D := D) (ci := 1) (v := .int (S1 5)) (C := RX1) (T := TX1) (N := 12) hx hb hts hiX1 hown hK hP 0 rfl rfl 5 (by decide) (hts (.fieldLink RX1 31 "PanoramaHouse$Hall" "parts" "I") (by decide +kernel)) (fun _ h9 => h9) rfl dX1_addPart_21 ?_
      refine lv_iload_n hx hb dX1_addPart_24 rfl (lv_at hl 1 rfl) ?_
      obtain ⟨h_3, hF⟩ := ix_at hF
      refine va_iast hx hb hK hP hD hS 1 0 rfl rfl h_3 dX1_addPart_25 (fun H locs hP hD hS => ?_)
      obtain ⟨A1_4, eA1_4, hF⟩ := nm_ex hF
      have hP : va_P D vwCl (wX1 C a1 S1 A1_4) H := by rw [eA1_4]; exact hP
      have hD : va_D A (wX1 C a1 S1 A1_4) := by rw [eA1_4]; exact hD
      refine lv_aload_n hx hb dX1_addPart_26 rfl (lv_at hl 0 rfl) ?_
      refine va_get (D := D) (ci := 1) (v := .ref (a1 2)) (C := RX1) (T := TX1) (N := 12) hx hb hts hiX1 hown hK hP 0 rfl rfl 1 (by decide) (hts (.fieldLink RX1 15 "PanoramaHouse$Hall" "testsOfPart" "[I") (by decide +kernel)) (fun _ h9 => h9) rfl dX1_addPart_27 ?_
      refine lv_aload_n hx hb dX1_addPart_30 rfl (lv_at hl 0 rfl) ?_
      refine va_get (D := D) (ci := 1) (v := .int (S1 5)) (C := RX1) (T := TX1) (N := 12) hx hb hts hiX1 hown hK hP 0 rfl rfl 5 (by decide) (hts (.fieldLink RX1 31 "PanoramaHouse$Hall" "parts" "I") (by decide +kernel)) (fun _ h9 => h9) rfl dX1_addPart_31 ?_
      refine lv_iconst (v := 0) hx hb dX1_addPart_34 (by decide) ?_
      obtain ⟨h_5, hF⟩ := ix_at hF
      refine va_iast hx hb hK hP hD hS 2 0 rfl rfl h_5 dX1_addPart_35 (fun H locs hP hD hS => ?_)
      obtain ⟨A1_6, eA1_6, hF⟩ := nm_ex hF
      have hP : va_P D vwCl (wX1 C a1 S1 A1_6) H := by rw [eA1_6]; exact hP
      have hD : va_D A (wX1 C a1 S1 A1_6) := by rw [eA1_6]; exact hD
      refine lv_aload_n hx hb dX1_addPart_36 rfl (lv_at hl 0 rfl) ?_
      refine lv_dup hx hb dX1_addPart_37 rfl ?_
      refine va_get (D := D) (ci := 1) (v := .int (S1 5)) (C := RX1) (T := TX1) (N := 12) hx hb hts hiX1 hown hK hP 0 rfl rfl 5 (by decide) (hts (.fieldLink RX1 31 "PanoramaHouse$Hall" "parts" "I") (by decide +kernel)) (fun _ h9 => h9) rfl dX1_addPart_38 ?_
      refine lv_iconst (v := 1) hx hb dX1_addPart_41 (by decide) ?_
      refine lv_iadd hx hb dX1_addPart_42 ?_
      refine va_put (D := D) (ci := 1) (v := .int ((S1 5) + 1)) (ty := .int) (C := RX1) (T := TX1) (N := 12) hx hb hts hiX1 tyX1 tyX1_ok nmX1 hown hK hP hD hS 0 rfl rfl 5 (by decide) (hts (.fieldLink RX1 31 "PanoramaHouse$Hall" "parts" "I") (by decide +kernel)) (fun _ h9 => h9) rfl (by decide +kernel) rfl rfl (Nat.le_of_ble_eq_true rfl) dX1_addPart_43 (fun H locs hP hD hS => ?_)
      obtain ⟨S1_7, eS1_7, hF⟩ := nm_ex hF
      have hP : va_P D vwCl (wX1 C a1 S1_7 A1_6) H := by rw [eS1_7]; exact hP
      have hD : va_D A (wX1 C a1 S1_7 A1_6) := by rw [eS1_7]; exact hD
      cases hF
      exact hret _ _ _ _ dX1_addPart_46 hP hD hS
abbrev rmX1_addTest : Room := { frames := 1, cells := 0, slots := 0, locals := 32 }
set_option maxRecDepth 100000 in
set_option maxHeartbeats 4000000 in
theorem c_X1_addTest (l : Launch) (K : Kx) (D : va_G) (C : Nat → ClassId) (a1 : Nat → Nat) (S1 : Nat → Int32) (A1 : Nat → Nat → Int32) (p1 : Int32) (p2 : Int32) (p3 : Int32) (z : (Nat → Nat → Int32)) (hF : F_X1_addTest S1 A1 p1 p2 p3 = some z) : MetV l yX1_addTest wsX1_addTest rmX1_addTest K D (tyV C) (wX1 C a1 S1 A1) [.ref (a1 0), .int p1, .int p2, .int p3] (wX1 C a1 S1 z) := by
  refine met_void (cc := cX1_addTest) (maxL := 6) (by decide +kernel) rfl (Nat.le_of_ble_eq_true rfl) ?_
  intro p e s m below meth c A Q ls ⟨hx, hb, hml, hown, hts, hK, hA, hZ⟩ hP hD hS hl hret
  have hown : s.vm.findClass RX1 = some m.cls := hown
  have hiX1 : ∀ w ∈ u_ws RX1 TX1 12, w ∈ wsX1_addTest := by decide +kernel
  have hl : lv_has ls 6 [(0, .ref (a1 0)), (1, .int p1), (2, .int p2), (3, .int p3)] := hl
  unfold F_X1_addTest at hF
  refine lv_aload_n hx hb dX1_addTest_0 rfl (lv_at hl 0 rfl) ?_
  refine va_get (D := D) (ci := 1) (v := .int (S1 5)) (C := RX1) (T := TX1) (N := 12) hx hb hts hiX1 hown hK hP 0 rfl rfl 5 (by decide) (hts (.fieldLink RX1 31 "PanoramaHouse$Hall" "parts" "I") (by decide +kernel)) (fun _ h9 => h9) rfl dX1_addTest_1 ?_
  refine lv_iconst (v := 1) hx hb dX1_addTest_4 (by decide) ?_
  refine lv_isub hx hb dX1_addTest_5 ?_
  refine lv_topi (fun v_1 ev_1 => ?_)
  have hF := nm_at hF ev_1
  refine lv_istore (lv' := [(4, .int v_1), (0, .ref (a1 0)), (1, .int p1), (2, .int p2), (3, .int p3)]) hx hb dX1_addTest_6 hl (by decide) rfl (fun ls hl => ?_)
  refine lv_iload hx hb dX1_addTest_8 (lv_at hl 0 rfl) ?_
  refine lv_if_lt (tgt := 20) hx hb dX1_addTest_10 (by decide) (fun c_2 => ?_) (fun c_2 => ?_)
  · have hF := ifp hF c_2
    cases hF
    exact hret _ _ _ _ dX1_addTest_20 hP hD hS
  · have hF := ifn hF c_2
    refine lv_iload hx hb dX1_addTest_13 (lv_at hl 0 rfl) ?_
    refine lv_bipush (v := 12) hx hb dX1_addTest_15 (by decide) ?_
    refine lv_icmp_lt (tgt := 21) hx hb dX1_addTest_17 (by decide) (fun c_3 => ?_) (fun c_3 => ?_)
    · have hF := ifp hF c_3
      refine lv_aload_n hx hb dX1_addTest_21 rfl (lv_at hl 1 rfl) ?_
      refine va_get (D := D) (ci := 1) (v := .ref (a1 2)) (C := RX1) (T := TX1) (N := 12) hx hb hts hiX1 hown hK hP 0 rfl rfl 1 (by decide) (hts (.fieldLink RX1 15 "PanoramaHouse$Hall" "testsOfPart" "[I") (by decide +kernel)) (fun _ h9 => h9) rfl dX1_addTest_22 ?_
      refine lv_iload hx hb dX1_addTest_25 (lv_at hl 0 rfl) ?_
      obtain ⟨h_4, hF⟩ := ix_at hF
      refine va_iald hx hb hK hP 2 0 rfl rfl h_4 dX1_addTest_27 ?_
      refine lv_topi (fun v_5 ev_5 => ?_)
      have hF := nm_at hF ev_5
      refine lv_istore (lv' := [(5, .int v_5), (4, .int v_1), (0, .ref (a1 0)), (1, .int p1), (2, .int p2), (3, .int p3)]) hx hb dX1_addTest_28 hl (by decide) rfl (fun ls hl => ?_)
      refine lv_iload hx hb dX1_addTest_30 (lv_at hl 0 rfl) ?_
      refine lv_if_lt (tgt := 41) hx hb dX1_addTest_32 (by decide) (fun c_6 => ?_) (fun c_6 => ?_)
      · have hF := ifp hF c_6
        cases hF
        exact hret _ _ _ _ dX1_addTest_41 hP hD hS
      · have hF := ifn hF c_6
        refine lv_iload hx hb dX1_addTest_35 (lv_at hl 0 rfl) ?_
        refine lv_iconst (v := 3) hx hb dX1_addTest_37 (by decide) ?_
        refine lv_icmp_lt (tgt := 42) hx hb dX1_addTest_38 (by decide) (fun c_7 => ?_) (fun c_7 => ?_)
        · have hF := ifp hF c_7
          refine lv_aload_n hx hb dX1_addTest_42 rfl (lv_at hl 2 rfl) ?_
          refine va_get (D := D) (ci := 1) (v := .ref (a1 3)) (C := RX1) (T := TX1) (N := 12) hx hb hts hiX1 hown hK hP 0 rfl rfl 2 (by decide) (hts (.fieldLink RX1 18 "PanoramaHouse$Hall" "subjectOfTest" "[I") (by decide +kernel)) (fun _ h9 => h9) rfl dX1_addTest_43 ?_
          refine lv_iload hx hb dX1_addTest_46 (lv_at hl 1 rfl) ?_
          refine lv_iconst (v := 3) hx hb dX1_addTest_48 (by decide) ?_
          refine lv_imul hx hb dX1_addTest_49 ?_
          refine lv_iload hx hb dX1_addTest_50 (lv_at hl 0 rfl) ?_
          refine lv_iadd hx hb dX1_addTest_52 ?_
          refine lv_iload_n hx hb dX1_addTest_53 rfl (lv_at hl 3 rfl) ?_
          obtain ⟨h_8, hF⟩ := ix_at hF
          refine va_iast hx hb hK hP hD hS 3 0 rfl rfl h_8 dX1_addTest_54 (fun H locs hP hD hS => ?_)
          obtain ⟨A1_9, eA1_9, hF⟩ := nm_ex hF
          have hP : va_P D vwCl (wX1 C a1 S1 A1_9) H := by rw [eA1_9]; exact hP
          have hD : va_D A (wX1 C a1 S1 A1_9) := by rw [eA1_9]; exact hD
          refine lv_aload_n hx hb dX1_addTest_55 rfl (lv_at hl 2 rfl) ?_
          refine va_get (D := D) (ci := 1) (v := .ref (a1 4)) (C := RX1) (T := TX1) (N := 12) hx hb hts hiX1 hown hK hP 0 rfl rfl 3 (by decide) (hts (.fieldLink RX1 21 "PanoramaHouse$Hall" "signOfTest" "[I") (by decide +kernel)) (fun _ h9 => h9) rfl dX1_addTest_56 ?_
          refine lv_iload hx hb dX1_addTest_59 (lv_at hl 1 rfl) ?_
          refine lv_iconst (v := 3) hx hb dX1_addTest_61 (by decide) ?_
          refine lv_imul hx hb dX1_addTest_62 ?_
          refine lv_iload hx hb dX1_addTest_63 (lv_at hl 0 rfl) ?_
          refine lv_iadd hx hb dX1_addTest_65 ?_
          refine lv_iload_n hx hb dX1_addTest_66 rfl (lv_at hl 4 rfl) ?_
          obtain ⟨h_10, hF⟩ := ix_at hF
          refine va_iast hx hb hK hP hD hS 4 0 rfl rfl h_10 dX1_addTest_67 (fun H locs hP hD hS => ?_)
          obtain ⟨A1_11, eA1_11, hF⟩ := nm_ex hF
          have hP : va_P D vwCl (wX1 C a1 S1 A1_11) H := by rw [eA1_11]; exact hP
          have hD : va_D A (wX1 C a1 S1 A1_11) := by rw [eA1_11]; exact hD
          refine lv_aload_n hx hb dX1_addTest_68 rfl (lv_at hl 2 rfl) ?_
          refine va_get (D := D) (ci := 1) (v := .ref (a1 5)) (C := RX1) (T := TX1) (N := 12) hx hb hts hiX1 hown hK hP 0 rfl rfl 4 (by decide) (hts (.fieldLink RX1 24 "PanoramaHouse$Hall" "numberOfTest" "[I") (by decide +kernel)) (fun _ h9 => h9) rfl dX1_addTest_69 ?_
          refine lv_iload hx hb dX1_addTest_72 (lv_at hl 1 rfl) ?_
          refine lv_iconst (v := 3) hx hb dX1_addTest_74 (by decide) ?_
          refine lv_imul hx hb dX1_addTest_75 ?_
          refine lv_iload hx hb dX1_addTest_76 (lv_at hl 0 rfl) ?_
          refine lv_iadd hx hb dX1_addTest_78 ?_
          refine lv_iload_n hx hb dX1_addTest_79 rfl (lv_at hl 5 rfl) ?_
          obtain ⟨h_12, hF⟩ := ix_at hF
          refine va_iast hx hb hK hP hD hS 5 0 rfl rfl h_12 dX1_addTest_80 (fun H locs hP hD hS => ?_)
          obtain ⟨A1_13, eA1_13, hF⟩ := nm_ex hF
          have hP : va_P D vwCl (wX1 C a1 S1 A1_13) H := by rw [eA1_13]; exact hP
          have hD : va_D A (wX1 C a1 S1 A1_13) := by rw [eA1_13]; exact hD
          refine lv_aload_n hx hb dX1_addTest_81 rfl (lv_at hl 2 rfl) ?_
          refine va_get (D := D) (ci := 1) (v := .ref (a1 2)) (C := RX1) (T := TX1) (N := 12) hx hb hts hiX1 hown hK hP 0 rfl rfl 1 (by decide) (hts (.fieldLink RX1 15 "PanoramaHouse$Hall" "testsOfPart" "[I") (by decide +kernel)) (fun _ h9 => h9) rfl dX1_addTest_82 ?_
          refine lv_iload hx hb dX1_addTest_85 (lv_at hl 1 rfl) ?_
          refine lv_dup2_11 hx hb dX1_addTest_87 rfl rfl ?_
          obtain ⟨h_14, hF⟩ := ix_at hF
          refine va_iald hx hb hK hP 2 0 rfl rfl h_14 dX1_addTest_88 ?_
          refine lv_iconst (v := 1) hx hb dX1_addTest_89 (by decide) ?_
          refine lv_iadd hx hb dX1_addTest_90 ?_
          obtain ⟨h_15, hF⟩ := ix_at hF
          refine va_iast hx hb hK hP hD hS 2 0 rfl rfl h_15 dX1_addTest_91 (fun H locs hP hD hS => ?_)
          obtain ⟨A1_16, eA1_16, hF⟩ := nm_ex hF
          have hP : va_P D vwCl (wX1 C a1 S1 A1_16) H := by rw [eA1_16]; exact hP
          have hD : va_D A (wX1 C a1 S1 A1_16) := by rw [eA1_16]; exact hD
          cases hF
          exact hret _ _ _ _ dX1_addTest_92 hP hD hS
        · have hF := ifn hF c_7
          cases hF
          exact hret _ _ _ _ dX1_addTest_41 hP hD hS
    · have hF := ifn hF c_3
      cases hF
      exact hret _ _ _ _ dX1_addTest_20 hP hD hS
abbrev rmX1_valueOf : Room := { frames := 1, cells := 0, slots := 0, locals := 32 }
set_option maxRecDepth 100000 in
set_option maxHeartbeats 4000000 in
theorem c_X1_valueOf (l : Launch) (K : Kx) (D : va_G) (C : Nat → ClassId) (a1 : Nat → Nat) (S1 : Nat → Int32) (A1 : Nat → Nat → Int32) (p1 : Int32) (p2 : Int32) (p3 : Int32) (z : Int32) (hF : F_X1_valueOf S1 p1 p2 p3 = some z) : MetI l yX1_valueOf wsX1_valueOf rmX1_valueOf K D (tyV C) (wX1 C a1 S1 A1) [.ref (a1 0), .int p1, .int p2, .int p3] (wX1 C a1 S1 A1) z := by
  refine met_int (cc := cX1_valueOf) (maxL := 4) (ty := .int) (by decide +kernel) rfl (Nat.le_of_ble_eq_true rfl) ?_
  intro p e s m below meth c A Q ls ⟨hx, hb, hml, hown, hts, hK, hA, hZ⟩ hP hD hS hl hret
  have hown : s.vm.findClass RX1 = some m.cls := hown
  have hiX1 : ∀ w ∈ u_ws RX1 TX1 12, w ∈ wsX1_valueOf := by decide +kernel
  have hl : lv_has ls 4 [(0, .ref (a1 0)), (1, .int p1), (2, .int p2), (3, .int p3)] := hl
  unfold F_X1_valueOf at hF
  refine lv_iload_n hx hb dX1_valueOf_0 rfl (lv_at hl 1 rfl) ?_
  rcases Decidable.em (p1 = 0) with c_1 | c_1
  · have hF := ifp hF c_1
    refine lv_lookup (off := 27) (tgt := 28) hx hb dX1_valueOf_1 (by decide) (by rw [c_1] <;> rfl) (by decide) ?_
    refine lv_aload_n hx hb dX1_valueOf_28 rfl (lv_at hl 0 rfl) ?_
    refine va_get (D := D) (ci := 1) (v := .int (S1 8)) (C := RX1) (T := TX1) (N := 12) hx hb hts hiX1 hown hK hP 0 rfl rfl 8 (by decide) (hts (.fieldLink RX1 37 "PanoramaHouse$Hall" "weeksGone" "I") (by decide +kernel)) (fun _ h9 => h9) rfl dX1_valueOf_29 ?_
    cases hF
    exact hret _ _ _ _ dX1_valueOf_32 rfl hP hD hS
  · have hF := ifn hF c_1
    rcases Decidable.em (p1 = 1) with c_2 | c_2
    · have hF := ifp hF c_2
      refine lv_lookup (off := 32) (tgt := 33) hx hb dX1_valueOf_1 (by decide) (by rw [c_2] <;> rfl) (by decide) ?_
      refine lv_iload_n hx hb dX1_valueOf_33 rfl (lv_at hl 2 rfl) ?_
      cases hF
      exact hret _ _ _ _ dX1_valueOf_34 rfl hP hD hS
    · have hF := ifn hF c_2
      have ic_1 : (p1).toInt ≠ 0 := fun h => c_1 (Int32.toInt_inj.mp (h.trans (by decide)))
      have ic_2 : (p1).toInt ≠ 1 := fun h => c_2 (Int32.toInt_inj.mp (h.trans (by decide)))
      refine lv_lookup (off := 34) (tgt := 35) hx hb dX1_valueOf_1 (by decide) (show Op.lookupswitch.offset [(0, 27), (1, 32)] 34 (p1).toInt = 34 from by rw [Op.lookupswitch.offset_cons, if_neg (fun h => ic_1 h.symm), Op.lookupswitch.offset_cons, if_neg (fun h => ic_2 h.symm), Op.lookupswitch.offset_nil]) (by decide) ?_
      refine lv_iload_n hx hb dX1_valueOf_35 rfl (lv_at hl 3 rfl) ?_
      cases hF
      exact hret _ _ _ _ dX1_valueOf_36 rfl hP hD hS
abbrev rmX1_holds : Room := { frames := 2, cells := 0, slots := 0, locals := 55 }
set_option maxRecDepth 100000 in
set_option maxHeartbeats 4000000 in
theorem c_X1_holds (l : Launch) (K : Kx) (D : va_G) (C : Nat → ClassId) (a1 : Nat → Nat) (S1 : Nat → Int32) (A1 : Nat → Nat → Int32) (p1 : Int32) (p2 : Int32) (p3 : Int32) (z : Int32) (hF : F_X1_holds S1 A1 p1 p2 p3 = some z) : MetI l yX1_holds wsX1_holds rmX1_holds K D (tyV C) (wX1 C a1 S1 A1) [.ref (a1 0), .int p1, .int p2, .int p3] (wX1 C a1 S1 A1) z := by
  refine met_int (cc := cX1_holds) (maxL := 5) (ty := .boolean) (by decide +kernel) rfl (Nat.le_of_ble_eq_true rfl) ?_
  intro p e s m below meth c A Q ls ⟨hx, hb, hml, hown, hts, hK, hA, hZ⟩ hP hD hS hl hret
  have hown : s.vm.findClass RX1 = some m.cls := hown
  have hiX1 : ∀ w ∈ u_ws RX1 TX1 12, w ∈ wsX1_holds := by decide +kernel
  have hl : lv_has ls 5 [(0, .ref (a1 0)), (1, .int p1), (2, .int p2), (3, .int p3)] := hl
  unfold F_X1_holds at hF
  refine lv_iload_n hx hb dX1_holds_0 rfl (lv_at hl 1 rfl) ?_
  refine lv_if_lt (tgt := 10) hx hb dX1_holds_1 (by decide) (fun c_1 => ?_) (fun c_1 => ?_)
  · have hF := ifp hF c_1
    refine lv_iconst (v := 0) hx hb dX1_holds_10 (by decide) ?_
    cases hF
    exact hret _ _ _ _ dX1_holds_11 nb0 hP hD hS
  · have hF := ifn hF c_1
    refine lv_iload_n hx hb dX1_holds_4 rfl (lv_at hl 1 rfl) ?_
    refine lv_bipush (v := 36) hx hb dX1_holds_5 (by decide) ?_
    refine lv_icmp_lt (tgt := 12) hx hb dX1_holds_7 (by decide) (fun c_2 => ?_) (fun c_2 => ?_)
    · have hF := ifp hF c_2
      refine lv_aload_n hx hb dX1_holds_12 rfl (lv_at hl 0 rfl) ?_
      refine lv_aload_n hx hb dX1_holds_13 rfl (lv_at hl 0 rfl) ?_
      refine va_get (D := D) (ci := 1) (v := .ref (a1 3)) (C := RX1) (T := TX1) (N := 12) hx hb hts hiX1 hown hK hP 0 rfl rfl 2 (by decide) (hts (.fieldLink RX1 18 "PanoramaHouse$Hall" "subjectOfTest" "[I") (by decide +kernel)) (fun _ h9 => h9) rfl dX1_holds_14 ?_
      refine lv_iload_n hx hb dX1_holds_17 rfl (lv_at hl 1 rfl) ?_
      obtain ⟨h_3, hF⟩ := ix_at hF
      refine va_iald hx hb hK hP 3 0 rfl rfl h_3 dX1_holds_18 ?_
      refine lv_iload_n hx hb dX1_holds_19 rfl (lv_at hl 2 rfl) ?_
      refine lv_iload_n hx hb dX1_holds_20 rfl (lv_at hl 3 rfl) ?_
      obtain ⟨z_4, fz_4, hF⟩ := bd_at hF
      refine callV_int ([]) ([]) (w' := wX1 C a1 S1 A1) (As := [.int (A1 2 (p1).toNatClampNeg), .int p2, .int p3]) (rest := []) ⟨hx, hb, hml, hown, hts⟩ hK hA hZ (c_X1_valueOf l K D C a1 S1 A1 (A1 2 (p1).toNatClampNeg) p2 p3 z_4 fz_4) (cwV 3 hts gX1_holds_X1_valueOf rfl rfl rfl (by decide +kernel) ⟨Nat.le_of_ble_eq_true rfl, Nat.le_of_ble_eq_true rfl⟩) 0 rfl rfl rfl rfl hl.1 rfl (Nat.le_of_ble_eq_true rfl) ⟨Nat.zero_le _, Nat.zero_le _⟩ (by simp only [List.append_assoc, List.append_nil, List.nil_append]) (by simp only [List.append_assoc, List.append_nil, List.nil_append]) hP hD hS dX1_holds_21 (fun H locs hP hD hS => ?_)
      refine lv_istore (lv' := [(4, .int z_4), (0, .ref (a1 0)), (1, .int p1), (2, .int p2), (3, .int p3)]) hx hb dX1_holds_24 hl (by decide) rfl (fun ls hl => ?_)
      refine lv_aload_n hx hb dX1_holds_26 rfl (lv_at hl 1 rfl) ?_
      refine va_get (D := D) (ci := 1) (v := .ref (a1 4)) (C := RX1) (T := TX1) (N := 12) hx hb hts hiX1 hown hK hP 0 rfl rfl 3 (by decide) (hts (.fieldLink RX1 21 "PanoramaHouse$Hall" "signOfTest" "[I") (by decide +kernel)) (fun _ h9 => h9) rfl dX1_holds_27 ?_
      refine lv_iload_n hx hb dX1_holds_30 rfl (lv_at hl 2 rfl) ?_
      obtain ⟨h_5, hF⟩ := ix_at hF
      refine va_iald hx hb hK hP 4 0 rfl rfl h_5 dX1_holds_31 ?_
      rcases Decidable.em ((A1 3 (p1).toNatClampNeg) = 60) with c_6 | c_6
      · have hF := ifp hF c_6
        refine lv_lookup (off := 28) (tgt := 60) hx hb dX1_holds_32 (by decide) (by rw [c_6] <;> rfl) (by decide) ?_
        refine lv_iload hx hb dX1_holds_60 (lv_at hl 0 rfl) ?_
        refine lv_aload_n hx hb dX1_holds_62 rfl (lv_at hl 1 rfl) ?_
        refine va_get (D := D) (ci := 1) (v := .ref (a1 5)) (C := RX1) (T := TX1) (N := 12) hx hb hts hiX1 hown hK hP 0 rfl rfl 4 (by decide) (hts (.fieldLink RX1 24 "PanoramaHouse$Hall" "numberOfTest" "[I") (by decide +kernel)) (fun _ h9 => h9) rfl dX1_holds_63 ?_
        refine lv_iload_n hx hb dX1_holds_66 rfl (lv_at hl 2 rfl) ?_
        obtain ⟨h_7, hF⟩ := ix_at hF
        refine va_iald hx hb hK hP 5 0 rfl rfl h_7 dX1_holds_67 ?_
        refine lv_icmp_ge (tgt := 75) hx hb dX1_holds_68 (by decide) (fun c_8 => ?_) (fun c_8 => ?_)
        · have hF := ifp hF c_8
          refine lv_iconst (v := 0) hx hb dX1_holds_75 (by decide) ?_
          cases hF
          exact hret _ _ _ _ dX1_holds_76 nb0 hP hD hS
        · have hF := ifn hF c_8
          refine lv_iconst (v := 1) hx hb dX1_holds_71 (by decide) ?_
          refine lv_goto (tgt := 76) hx hb dX1_holds_72 (by decide) ?_
          cases hF
          exact hret _ _ _ _ dX1_holds_76 nb1 hP hD hS
      · have hF := ifn hF c_6
        rcases Decidable.em ((A1 3 (p1).toNatClampNeg) = 62) with c_9 | c_9
        · have hF := ifp hF c_9
          refine lv_lookup (off := 45) (tgt := 77) hx hb dX1_holds_32 (by decide) (by rw [c_9] <;> rfl) (by decide) ?_
          refine lv_iload hx hb dX1_holds_77 (lv_at hl 0 rfl) ?_
          refine lv_aload_n hx hb dX1_holds_79 rfl (lv_at hl 1 rfl) ?_
          refine va_get (D := D) (ci := 1) (v := .ref (a1 5)) (C := RX1) (T := TX1) (N := 12) hx hb hts hiX1 hown hK hP 0 rfl rfl 4 (by decide) (hts (.fieldLink RX1 24 "PanoramaHouse$Hall" "numberOfTest" "[I") (by decide +kernel)) (fun _ h9 => h9) rfl dX1_holds_80 ?_
          refine lv_iload_n hx hb dX1_holds_83 rfl (lv_at hl 2 rfl) ?_
          obtain ⟨h_10, hF⟩ := ix_at hF
          refine va_iald hx hb hK hP 5 0 rfl rfl h_10 dX1_holds_84 ?_
          refine lv_icmp_le (tgt := 92) hx hb dX1_holds_85 (by decide) (fun c_11 => ?_) (fun c_11 => ?_)
          · have hF := ifp hF c_11
            refine lv_iconst (v := 0) hx hb dX1_holds_92 (by decide) ?_
            cases hF
            exact hret _ _ _ _ dX1_holds_93 nb0 hP hD hS
          · have hF := ifn hF c_11
            refine lv_iconst (v := 1) hx hb dX1_holds_88 (by decide) ?_
            refine lv_goto (tgt := 93) hx hb dX1_holds_89 (by decide) ?_
            cases hF
            exact hret _ _ _ _ dX1_holds_93 nb1 hP hD hS
        · have hF := ifn hF c_9
          have ic_6 : ((A1 3 (p1).toNatClampNeg)).toInt ≠ 60 := fun h => c_6 (Int32.toInt_inj.mp (h.trans (by decide)))
          have ic_9 : ((A1 3 (p1).toNatClampNeg)).toInt ≠ 62 := fun h => c_9 (Int32.toInt_inj.mp (h.trans (by decide)))
          refine lv_lookup (off := 62) (tgt := 94) hx hb dX1_holds_32 (by decide) (show Op.lookupswitch.offset [(60, 28), (62, 45)] 62 ((A1 3 (p1).toNatClampNeg)).toInt = 62 from by rw [Op.lookupswitch.offset_cons, if_neg (fun h => ic_6 h.symm), Op.lookupswitch.offset_cons, if_neg (fun h => ic_9 h.symm), Op.lookupswitch.offset_nil]) (by decide) ?_
          refine lv_iload hx hb dX1_holds_94 (lv_at hl 0 rfl) ?_
          refine lv_aload_n hx hb dX1_holds_96 rfl (lv_at hl 1 rfl) ?_
          refine va_get (D := D) (ci := 1) (v := .ref (a1 5)) (C := RX1) (T := TX1) (N := 12) hx hb hts hiX1 hown hK hP 0 rfl rfl 4 (by decide) (hts (.fieldLink RX1 24 "PanoramaHouse$Hall" "numberOfTest" "[I") (by decide +kernel)) (fun _ h9 => h9) rfl dX1_holds_97 ?_
          refine lv_iload_n hx hb dX1_holds_100 rfl (lv_at hl 2 rfl) ?_
          obtain ⟨h_12, hF⟩ := ix_at hF
          refine va_iald hx hb hK hP 5 0 rfl rfl h_12 dX1_holds_101 ?_
          refine lv_icmp_ne (tgt := 109) hx hb dX1_holds_102 (by decide) (fun c_13 => ?_) (fun c_13 => ?_)
          · have hF := ifn hF c_13
            refine lv_iconst (v := 0) hx hb dX1_holds_109 (by decide) ?_
            cases hF
            exact hret _ _ _ _ dX1_holds_110 nb0 hP hD hS
          · have hF := ifp hF c_13
            refine lv_iconst (v := 1) hx hb dX1_holds_105 (by decide) ?_
            refine lv_goto (tgt := 110) hx hb dX1_holds_106 (by decide) ?_
            cases hF
            exact hret _ _ _ _ dX1_holds_110 nb1 hP hD hS
    · have hF := ifn hF c_2
      refine lv_iconst (v := 0) hx hb dX1_holds_10 (by decide) ?_
      cases hF
      exact hret _ _ _ _ dX1_holds_11 nb0 hP hD hS
abbrev rmX1_allHold : Room := { frames := 3, cells := 0, slots := 0, locals := 79 }
set_option maxRecDepth 100000 in
set_option maxHeartbeats 4000000 in
theorem c_X1_allHold (l : Launch) (K : Kx) (D : va_G) (C : Nat → ClassId) (a1 : Nat → Nat) (S1 : Nat → Int32) (A1 : Nat → Nat → Int32) (p1 : Int32) (p2 : Int32) (p3 : Int32) (z : Int32) (hF : F_X1_allHold S1 A1 p1 p2 p3 = some z) : MetI l yX1_allHold wsX1_allHold rmX1_allHold K D (tyV C) (wX1 C a1 S1 A1) [.ref (a1 0), .int p1, .int p2, .int p3] (wX1 C a1 S1 A1) z := by
  refine met_int (cc := cX1_allHold) (maxL := 5) (ty := .boolean) (by decide +kernel) rfl (Nat.le_of_ble_eq_true rfl) ?_
  intro p e s m below meth c A Q ls ⟨hx, hb, hml, hown, hts, hK, hA, hZ⟩ hP hD hS hl hret
  have hown : s.vm.findClass RX1 = some m.cls := hown
  have hiX1 : ∀ w ∈ u_ws RX1 TX1 12, w ∈ wsX1_allHold := by decide +kernel
  have hl : lv_has ls 5 [(0, .ref (a1 0)), (1, .int p1), (2, .int p2), (3, .int p3)] := hl
  unfold F_X1_allHold at hF
  obtain ⟨J55, eJ55, hF⟩ := nm_ex hF
  have bJ55 : J55 = some z → ∀ (H : Heap) (locs : List Loc) (ls : Array Slot), va_P D vwCl (wX1 C a1 S1 A1) H → va_D A (wX1 C a1 S1 A1) → va_S A s.heap H locs → lv_has ls 5 [] → W p l e rmX1_allHold s m ([.ref (a1 0), .int p1, .int p2, .int p3] : List Value).toArray below meth c H locs 0 0 Q (F0 m 55 ls []) := by
    intro  hF H locs ls hP hD hS hl
    rw [eJ55] at hF
    refine lv_iconst (v := 1) hx hb dX1_allHold_55 (by decide) ?_
    cases hF
    exact hret _ _ _ _ dX1_allHold_56 nb1 hP hD hS
  have bL15 : ∀ (n : Nat) (x1 : Int32) (x2 : Int32) (x3 : Int32) (x4 : Int32), L_X1_allHold_15 S1 A1 J55 n x1 x2 x3 x4 = some z → ∀ (H : Heap) (locs : List Loc) (ls : Array Slot), va_P D vwCl (wX1 C a1 S1 A1) H → va_D A (wX1 C a1 S1 A1) → va_S A s.heap H locs → lv_has ls 5 [(0, .ref (a1 0)), (1, .int x1), (2, .int x2), (3, .int x3), (4, .int x4)] → W p l e rmX1_allHold s m ([.ref (a1 0), .int p1, .int p2, .int p3] : List Value).toArray below meth c H locs 0 0 Q (F0 m 15 ls []) := by
    intro n
    induction n with
    | zero => intro x1 x2 x3 x4 hF; rw [L_X1_allHold_15.eq_1] at hF; cases hF
    | succ n ih15 =>
      intro x1 x2 x3 x4 hF H locs ls hP hD hS hl
      rw [L_X1_allHold_15.eq_2] at hF
      refine lv_iload hx hb dX1_allHold_15 (lv_at hl 4 rfl) ?_
      refine lv_aload_n hx hb dX1_allHold_17 rfl (lv_at hl 0 rfl) ?_
      refine va_get (D := D) (ci := 1) (v := .ref (a1 2)) (C := RX1) (T := TX1) (N := 12) hx hb hts hiX1 hown hK hP 0 rfl rfl 1 (by decide) (hts (.fieldLink RX1 15 "PanoramaHouse$Hall" "testsOfPart" "[I") (by decide +kernel)) (fun _ h9 => h9) rfl dX1_allHold_18 ?_
      refine lv_iload_n hx hb dX1_allHold_21 rfl (lv_at hl 1 rfl) ?_
      obtain ⟨h_1, hF⟩ := ix_at hF
      refine va_iald hx hb hK hP 2 0 rfl rfl h_1 dX1_allHold_22 ?_
      refine lv_icmp_ge (tgt := 55) hx hb dX1_allHold_23 (by decide) (fun c_2 => ?_) (fun c_2 => ?_)
      · have hF := ifp hF c_2
        exact bJ55  hF _ _ _ hP hD hS (lv_sub hl [] rfl)
      · have hF := ifn hF c_2
        refine lv_iload hx hb dX1_allHold_26 (lv_at hl 4 rfl) ?_
        refine lv_iconst (v := 3) hx hb dX1_allHold_28 (by decide) ?_
        refine lv_icmp_ge (tgt := 55) hx hb dX1_allHold_29 (by decide) (fun c_3 => ?_) (fun c_3 => ?_)
        · have hF := ifp hF c_3
          exact bJ55  hF _ _ _ hP hD hS (lv_sub hl [] rfl)
        · have hF := ifn hF c_3
          refine lv_aload_n hx hb dX1_allHold_32 rfl (lv_at hl 0 rfl) ?_
          refine lv_iload_n hx hb dX1_allHold_33 rfl (lv_at hl 1 rfl) ?_
          refine lv_iconst (v := 3) hx hb dX1_allHold_34 (by decide) ?_
          refine lv_imul hx hb dX1_allHold_35 ?_
          refine lv_iload hx hb dX1_allHold_36 (lv_at hl 4 rfl) ?_
          refine lv_iadd hx hb dX1_allHold_38 ?_
          refine lv_iload_n hx hb dX1_allHold_39 rfl (lv_at hl 2 rfl) ?_
          refine lv_iload_n hx hb dX1_allHold_40 rfl (lv_at hl 3 rfl) ?_
          obtain ⟨z_4, fz_4, hF⟩ := bd_at hF
          refine callV_int ([]) ([]) (w' := wX1 C a1 S1 A1) (As := [.int ((x1 * 3) + x4), .int x2, .int x3]) (rest := []) ⟨hx, hb, hml, hown, hts⟩ hK hA hZ (c_X1_holds l K D C a1 S1 A1 ((x1 * 3) + x4) x2 x3 z_4 fz_4) (cwV 3 hts gX1_allHold_X1_holds rfl rfl rfl (by decide +kernel) ⟨Nat.le_of_ble_eq_true rfl, Nat.le_of_ble_eq_true rfl⟩) 0 rfl rfl rfl rfl hl.1 rfl (Nat.le_of_ble_eq_true rfl) ⟨Nat.zero_le _, Nat.zero_le _⟩ (by simp only [List.append_assoc, List.append_nil, List.nil_append]) (by simp only [List.append_assoc, List.append_nil, List.nil_append]) hP hD hS dX1_allHold_41 (fun H locs hP hD hS => ?_)
          refine lv_if_ne (tgt := 49) hx hb dX1_allHold_44 (by decide) (fun c_5 => ?_) (fun c_5 => ?_)
          · have hF := ifn hF c_5
            obtain ⟨v_6, ev_6⟩ : ∃ y : Int32, y = x4 + 1 := ⟨_, rfl⟩
            have hF := nm_at hF ev_6
            refine lv_iinc (v := v_6) (lv' := [(4, .int v_6), (0, .ref (a1 0)), (1, .int x1), (2, .int x2), (3, .int x3)]) hx hb dX1_allHold_49 hl (k := 4) rfl (by rw [ev_6]; rfl) (by decide) rfl (fun ls hl => ?_)
            refine lv_goto (tgt := 15) hx hb dX1_allHold_52 (by decide) ?_
            exact ih15 x1 x2 x3 v_6 hF _ _ _ hP hD hS (lv_sub hl [1, 2, 3, 4, 0] rfl)
          · have hF := ifp hF c_5
            refine lv_iconst (v := 0) hx hb dX1_allHold_47 (by decide) ?_
            cases hF
            exact hret _ _ _ _ dX1_allHold_48 nb0 hP hD hS
  refine lv_iload_n hx hb dX1_allHold_0 rfl (lv_at hl 1 rfl) ?_
  refine lv_if_lt (tgt := 10) hx hb dX1_allHold_1 (by decide) (fun c_7 => ?_) (fun c_7 => ?_)
  · have hF := ifp hF c_7
    refine lv_iconst (v := 0) hx hb dX1_allHold_10 (by decide) ?_
    cases hF
    exact hret _ _ _ _ dX1_allHold_11 nb0 hP hD hS
  · have hF := ifn hF c_7
    refine lv_iload_n hx hb dX1_allHold_4 rfl (lv_at hl 1 rfl) ?_
    refine lv_bipush (v := 12) hx hb dX1_allHold_5 (by decide) ?_
    refine lv_icmp_lt (tgt := 12) hx hb dX1_allHold_7 (by decide) (fun c_8 => ?_) (fun c_8 => ?_)
    · have hF := ifp hF c_8
      refine lv_iconst (v := 0) hx hb dX1_allHold_12 (by decide) ?_
      refine lv_istore (lv' := [(4, .int 0), (0, .ref (a1 0)), (1, .int p1), (2, .int p2), (3, .int p3)]) hx hb dX1_allHold_13 hl (by decide) rfl (fun ls hl => ?_)
      exact bL15 FU p1 p2 p3 0 hF _ _ _ hP hD hS (lv_sub hl [1, 2, 3, 4, 0] rfl)
    · have hF := ifn hF c_8
      refine lv_iconst (v := 0) hx hb dX1_allHold_10 (by decide) ?_
      cases hF
      exact hret _ _ _ _ dX1_allHold_11 nb0 hP hD hS
abbrev rmX1_shareFor : Room := { frames := 4, cells := 0, slots := 0, locals := 103 }
set_option maxRecDepth 100000 in
set_option maxHeartbeats 4000000 in
theorem c_X1_shareFor (l : Launch) (K : Kx) (D : va_G) (C : Nat → ClassId) (a1 : Nat → Nat) (S1 : Nat → Int32) (A1 : Nat → Nat → Int32) (p1 : Int32) (p2 : Int32) (z : Int32) (hF : F_X1_shareFor S1 A1 p1 p2 = some z) : MetI l yX1_shareFor wsX1_shareFor rmX1_shareFor K D (tyV C) (wX1 C a1 S1 A1) [.ref (a1 0), .int p1, .int p2] (wX1 C a1 S1 A1) z := by
  refine met_int (cc := cX1_shareFor) (maxL := 4) (ty := .int) (by decide +kernel) rfl (Nat.le_of_ble_eq_true rfl) ?_
  intro p e s m below meth c A Q ls ⟨hx, hb, hml, hown, hts, hK, hA, hZ⟩ hP hD hS hl hret
  have hown : s.vm.findClass RX1 = some m.cls := hown
  have hiX1 : ∀ w ∈ u_ws RX1 TX1 12, w ∈ wsX1_shareFor := by decide +kernel
  have hl : lv_has ls 4 [(0, .ref (a1 0)), (1, .int p1), (2, .int p2)] := hl
  unfold F_X1_shareFor at hF
  obtain ⟨J39, eJ39, hF⟩ := nm_ex hF
  have bJ39 : J39 = some z → ∀ (H : Heap) (locs : List Loc) (ls : Array Slot), va_P D vwCl (wX1 C a1 S1 A1) H → va_D A (wX1 C a1 S1 A1) → va_S A s.heap H locs → lv_has ls 4 [] → W p l e rmX1_shareFor s m ([.ref (a1 0), .int p1, .int p2] : List Value).toArray below meth c H locs 0 0 Q (F0 m 39 ls []) := by
    intro  hF H locs ls hP hD hS hl
    rw [eJ39] at hF
    refine lv_bipush (v := 50) hx hb dX1_shareFor_39 (by decide) ?_
    cases hF
    exact hret _ _ _ _ dX1_shareFor_41 rfl hP hD hS
  have bL2 : ∀ (n : Nat) (x1 : Int32) (x2 : Int32) (x3 : Int32), L_X1_shareFor_2 S1 A1 J39 n x1 x2 x3 = some z → ∀ (H : Heap) (locs : List Loc) (ls : Array Slot), va_P D vwCl (wX1 C a1 S1 A1) H → va_D A (wX1 C a1 S1 A1) → va_S A s.heap H locs → lv_has ls 4 [(0, .ref (a1 0)), (1, .int x1), (2, .int x2), (3, .int x3)] → W p l e rmX1_shareFor s m ([.ref (a1 0), .int p1, .int p2] : List Value).toArray below meth c H locs 0 0 Q (F0 m 2 ls []) := by
    intro n
    induction n with
    | zero => intro x1 x2 x3 hF; rw [L_X1_shareFor_2.eq_1] at hF; cases hF
    | succ n ih2 =>
      intro x1 x2 x3 hF H locs ls hP hD hS hl
      rw [L_X1_shareFor_2.eq_2] at hF
      refine lv_iload_n hx hb dX1_shareFor_2 rfl (lv_at hl 3 rfl) ?_
      refine lv_aload_n hx hb dX1_shareFor_3 rfl (lv_at hl 0 rfl) ?_
      refine va_get (D := D) (ci := 1) (v := .int (S1 5)) (C := RX1) (T := TX1) (N := 12) hx hb hts hiX1 hown hK hP 0 rfl rfl 5 (by decide) (hts (.fieldLink RX1 31 "PanoramaHouse$Hall" "parts" "I") (by decide +kernel)) (fun _ h9 => h9) rfl dX1_shareFor_4 ?_
      refine lv_icmp_ge (tgt := 39) hx hb dX1_shareFor_7 (by decide) (fun c_1 => ?_) (fun c_1 => ?_)
      · have hF := ifp hF c_1
        exact bJ39  hF _ _ _ hP hD hS (lv_sub hl [] rfl)
      · have hF := ifn hF c_1
        refine lv_iload_n hx hb dX1_shareFor_10 rfl (lv_at hl 3 rfl) ?_
        refine lv_bipush (v := 12) hx hb dX1_shareFor_11 (by decide) ?_
        refine lv_icmp_ge (tgt := 39) hx hb dX1_shareFor_13 (by decide) (fun c_2 => ?_) (fun c_2 => ?_)
        · have hF := ifp hF c_2
          exact bJ39  hF _ _ _ hP hD hS (lv_sub hl [] rfl)
        · have hF := ifn hF c_2
          refine lv_aload_n hx hb dX1_shareFor_16 rfl (lv_at hl 0 rfl) ?_
          refine lv_iload_n hx hb dX1_shareFor_17 rfl (lv_at hl 3 rfl) ?_
          refine lv_iload_n hx hb dX1_shareFor_18 rfl (lv_at hl 1 rfl) ?_
          refine lv_iload_n hx hb dX1_shareFor_19 rfl (lv_at hl 2 rfl) ?_
          obtain ⟨z_3, fz_3, hF⟩ := bd_at hF
          refine callV_int ([]) ([]) (w' := wX1 C a1 S1 A1) (As := [.int x3, .int x1, .int x2]) (rest := []) ⟨hx, hb, hml, hown, hts⟩ hK hA hZ (c_X1_allHold l K D C a1 S1 A1 x3 x1 x2 z_3 fz_3) (cwV 3 hts gX1_shareFor_X1_allHold rfl rfl rfl (by decide +kernel) ⟨Nat.le_of_ble_eq_true rfl, Nat.le_of_ble_eq_true rfl⟩) 0 rfl rfl rfl rfl hl.1 rfl (Nat.le_of_ble_eq_true rfl) ⟨Nat.zero_le _, Nat.zero_le _⟩ (by simp only [List.append_assoc, List.append_nil, List.nil_append]) (by simp only [List.append_assoc, List.append_nil, List.nil_append]) hP hD hS dX1_shareFor_20 (fun H locs hP hD hS => ?_)
          refine lv_if_eq (tgt := 33) hx hb dX1_shareFor_23 (by decide) (fun c_4 => ?_) (fun c_4 => ?_)
          · have hF := ifp hF c_4
            obtain ⟨v_5, ev_5⟩ : ∃ y : Int32, y = x3 + 1 := ⟨_, rfl⟩
            have hF := nm_at hF ev_5
            refine lv_iinc (v := v_5) (lv' := [(3, .int v_5), (0, .ref (a1 0)), (1, .int x1), (2, .int x2)]) hx hb dX1_shareFor_33 hl (k := 3) rfl (by rw [ev_5]; rfl) (by decide) rfl (fun ls hl => ?_)
            refine lv_goto (tgt := 2) hx hb dX1_shareFor_36 (by decide) ?_
            exact ih2 x1 x2 v_5 hF _ _ _ hP hD hS (lv_sub hl [1, 2, 3, 0] rfl)
          · have hF := ifn hF c_4
            refine lv_aload_n hx hb dX1_shareFor_26 rfl (lv_at hl 0 rfl) ?_
            refine va_get (D := D) (ci := 1) (v := .ref (a1 1)) (C := RX1) (T := TX1) (N := 12) hx hb hts hiX1 hown hK hP 0 rfl rfl 0 (by decide) (hts (.fieldLink RX1 9 "PanoramaHouse$Hall" "shareOfPart" "[I") (by decide +kernel)) (fun _ h9 => h9) rfl dX1_shareFor_27 ?_
            refine lv_iload_n hx hb dX1_shareFor_30 rfl (lv_at hl 3 rfl) ?_
            obtain ⟨h_6, hF⟩ := ix_at hF
            refine va_iald hx hb hK hP 1 0 rfl rfl h_6 dX1_shareFor_31 ?_
            cases hF
            exact hret _ _ _ _ dX1_shareFor_32 rfl hP hD hS
  refine lv_iconst (v := 0) hx hb dX1_shareFor_0 (by decide) ?_
  refine lv_istore_n (lv' := [(3, .int 0), (0, .ref (a1 0)), (1, .int p1), (2, .int p2)]) hx hb dX1_shareFor_1 rfl hl (by decide) rfl (fun ls hl => ?_)
  exact bL2 FU p1 p2 0 hF _ _ _ hP hD hS (lv_sub hl [1, 2, 3, 0] rfl)
abbrev rmX1_passWeek : Room := { frames := 5, cells := 0, slots := 0, locals := 126 }
set_option maxRecDepth 100000 in
set_option maxHeartbeats 4000000 in
theorem c_X1_passWeek (l : Launch) (K : Kx) (D : va_G) (C : Nat → ClassId) (a1 : Nat → Nat) (S1 : Nat → Int32) (A1 : Nat → Nat → Int32) (p1 : Int32) (p2 : Int32) (z : Int32 × (Nat → Int32)) (hF : F_X1_passWeek S1 A1 p1 p2 = some z) : MetI l yX1_passWeek wsX1_passWeek rmX1_passWeek K D (tyV C) (wX1 C a1 S1 A1) [.ref (a1 0), .int p1, .int p2] (wX1 C a1 z.2 A1) z.1 := by
  refine met_int (cc := cX1_passWeek) (maxL := 5) (ty := .int) (by decide +kernel) rfl (Nat.le_of_ble_eq_true rfl) ?_
  intro p e s m below meth c A Q ls ⟨hx, hb, hml, hown, hts, hK, hA, hZ⟩ hP hD hS hl hret
  have hown : s.vm.findClass RX1 = some m.cls := hown
  have hiX1 : ∀ w ∈ u_ws RX1 TX1 12, w ∈ wsX1_passWeek := by decide +kernel
  have hl : lv_has ls 5 [(0, .ref (a1 0)), (1, .int p1), (2, .int p2)] := hl
  unfold F_X1_passWeek at hF
  refine lv_aload_n hx hb dX1_passWeek_0 rfl (lv_at hl 0 rfl) ?_
  refine va_get (D := D) (ci := 1) (v := .int (S1 8)) (C := RX1) (T := TX1) (N := 12) hx hb hts hiX1 hown hK hP 0 rfl rfl 8 (by decide) (hts (.fieldLink RX1 37 "PanoramaHouse$Hall" "weeksGone" "I") (by decide +kernel)) (fun _ h9 => h9) rfl dX1_passWeek_1 ?_
  refine lv_aload_n hx hb dX1_passWeek_4 rfl (lv_at hl 0 rfl) ?_
  refine va_get (D := D) (ci := 1) (v := .int (S1 6)) (C := RX1) (T := TX1) (N := 12) hx hb hts hiX1 hown hK hP 0 rfl rfl 6 (by decide) (hts (.fieldLink RX1 27 "PanoramaHouse$Hall" "weeks" "I") (by decide +kernel)) (fun _ h9 => h9) rfl dX1_passWeek_5 ?_
  refine lv_icmp_lt (tgt := 13) hx hb dX1_passWeek_8 (by decide) (fun c_1 => ?_) (fun c_1 => ?_)
  · have hF := ifp hF c_1
    refine lv_aload_n hx hb dX1_passWeek_13 rfl (lv_at hl 0 rfl) ?_
    refine lv_dup hx hb dX1_passWeek_14 rfl ?_
    refine va_get (D := D) (ci := 1) (v := .int (S1 8)) (C := RX1) (T := TX1) (N := 12) hx hb hts hiX1 hown hK hP 0 rfl rfl 8 (by decide) (hts (.fieldLink RX1 37 "PanoramaHouse$Hall" "weeksGone" "I") (by decide +kernel)) (fun _ h9 => h9) rfl dX1_passWeek_15 ?_
    refine lv_iconst (v := 1) hx hb dX1_passWeek_18 (by decide) ?_
    refine lv_iadd hx hb dX1_passWeek_19 ?_
    refine va_put (D := D) (ci := 1) (v := .int ((S1 8) + 1)) (ty := .int) (C := RX1) (T := TX1) (N := 12) hx hb hts hiX1 tyX1 tyX1_ok nmX1 hown hK hP hD hS 0 rfl rfl 8 (by decide) (hts (.fieldLink RX1 37 "PanoramaHouse$Hall" "weeksGone" "I") (by decide +kernel)) (fun _ h9 => h9) rfl (by decide +kernel) rfl rfl (Nat.le_of_ble_eq_true rfl) dX1_passWeek_20 (fun H locs hP hD hS => ?_)
    obtain ⟨S1_2, eS1_2, hF⟩ := nm_ex hF
    have hP : va_P D vwCl (wX1 C a1 S1_2 A1) H := by rw [eS1_2]; exact hP
    have hD : va_D A (wX1 C a1 S1_2 A1) := by rw [eS1_2]; exact hD
    refine lv_iload_n hx hb dX1_passWeek_23 rfl (lv_at hl 2 rfl) ?_
    refine lv_aload_n hx hb dX1_passWeek_24 rfl (lv_at hl 0 rfl) ?_
    refine va_get (D := D) (ci := 1) (v := .int (S1_2 7)) (C := RX1) (T := TX1) (N := 12) hx hb hts hiX1 hown hK hP 0 rfl rfl 7 (by decide) (hts (.fieldLink RX1 34 "PanoramaHouse$Hall" "rent" "I") (by decide +kernel)) (fun _ h9 => h9) rfl dX1_passWeek_25 ?_
    refine lv_iload_n hx hb dX1_passWeek_28 rfl (lv_at hl 2 rfl) ?_
    refine va_mmin hx hb (hml.trans hl.1.symm) hown (hts (.methodLink RX1 40 Lib.Math.min.name) (by decide +kernel)) (hts (.static Lib.Math.min.name) (by decide +kernel)) (hts (.initialized "java/lang/Math") (by decide +kernel)) (hts (.code Lib.Math.min.name Lib.Math.min.code 2 (some .int)) (by decide +kernel)) (Nat.le_of_ble_eq_true rfl) (Nat.le_of_ble_eq_true rfl) (Nat.zero_le _) (Nat.zero_le _) dX1_passWeek_29 ?_
    refine lv_topi (fun v_3 ev_3 => ?_)
    have hF := nm_at hF ev_3
    refine lv_isub hx hb dX1_passWeek_32 ?_
    refine lv_topi (fun v_4 ev_4 => ?_)
    have hF := nm_at hF ev_4
    refine lv_istore_n (lv' := [(3, .int v_4), (0, .ref (a1 0)), (1, .int p1), (2, .int p2)]) hx hb dX1_passWeek_33 rfl hl (by decide) rfl (fun ls hl => ?_)
    refine lv_iload_n hx hb dX1_passWeek_34 rfl (lv_at hl 0 rfl) ?_
    refine lv_aload_n hx hb dX1_passWeek_35 rfl (lv_at hl 1 rfl) ?_
    refine lv_iload_n hx hb dX1_passWeek_36 rfl (lv_at hl 2 rfl) ?_
    refine lv_iload_n hx hb dX1_passWeek_37 rfl (lv_at hl 3 rfl) ?_
    obtain ⟨z_5, fz_5, hF⟩ := bd_at hF
    refine callV_int ([]) ([]) (w' := wX1 C a1 S1_2 A1) (As := [.int p1, .int p2]) (rest := [.int v_4]) ⟨hx, hb, hml, hown, hts⟩ hK hA hZ (c_X1_shareFor l K D C a1 S1_2 A1 p1 p2 z_5 fz_5) (cwV 2 hts gX1_passWeek_X1_shareFor rfl rfl rfl (by decide +kernel) ⟨Nat.le_of_ble_eq_true rfl, Nat.le_of_ble_eq_true rfl⟩) 0 rfl rfl rfl rfl hl.1 rfl (Nat.le_of_ble_eq_true rfl) ⟨Nat.zero_le _, Nat.zero_le _⟩ (by simp only [List.append_assoc, List.append_nil, List.nil_append]) (by simp only [List.append_assoc, List.append_nil, List.nil_append]) hP hD hS dX1_passWeek_38 (fun H locs hP hD hS => ?_)
    refine lv_imul hx hb dX1_passWeek_41 ?_
    refine lv_bipush (v := 100) hx hb dX1_passWeek_42 (by decide) ?_
    refine lv_idiv hx hb dX1_passWeek_44 (by decide) ?_
    refine lv_topi (fun v_6 ev_6 => ?_)
    have hF := nm_at hF ev_6
    refine lv_istore (lv' := [(4, .int v_6), (3, .int v_4), (0, .ref (a1 0)), (1, .int p1), (2, .int p2)]) hx hb dX1_passWeek_45 hl (by decide) rfl (fun ls hl => ?_)
    refine lv_aload_n hx hb dX1_passWeek_47 rfl (lv_at hl 2 rfl) ?_
    refine lv_dup hx hb dX1_passWeek_48 rfl ?_
    refine va_get (D := D) (ci := 1) (v := .int (S1_2 9)) (C := RX1) (T := TX1) (N := 12) hx hb hts hiX1 hown hK hP 0 rfl rfl 9 (by decide) (hts (.fieldLink RX1 49 "PanoramaHouse$Hall" "toHouse" "I") (by decide +kernel)) (fun _ h9 => h9) rfl dX1_passWeek_49 ?_
    refine lv_iload hx hb dX1_passWeek_52 (lv_at hl 0 rfl) ?_
    refine lv_iadd hx hb dX1_passWeek_54 ?_
    refine va_put (D := D) (ci := 1) (v := .int ((S1_2 9) + v_6)) (ty := .int) (C := RX1) (T := TX1) (N := 12) hx hb hts hiX1 tyX1 tyX1_ok nmX1 hown hK hP hD hS 0 rfl rfl 9 (by decide) (hts (.fieldLink RX1 49 "PanoramaHouse$Hall" "toHouse" "I") (by decide +kernel)) (fun _ h9 => h9) rfl (by decide +kernel) rfl rfl (Nat.le_of_ble_eq_true rfl) dX1_passWeek_55 (fun H locs hP hD hS => ?_)
    obtain ⟨S1_7, eS1_7, hF⟩ := nm_ex hF
    have hP : va_P D vwCl (wX1 C a1 S1_7 A1) H := by rw [eS1_7]; exact hP
    have hD : va_D A (wX1 C a1 S1_7 A1) := by rw [eS1_7]; exact hD
    refine lv_aload_n hx hb dX1_passWeek_58 rfl (lv_at hl 2 rfl) ?_
    refine lv_dup hx hb dX1_passWeek_59 rfl ?_
    refine va_get (D := D) (ci := 1) (v := .int (S1_7 10)) (C := RX1) (T := TX1) (N := 12) hx hb hts hiX1 hown hK hP 0 rfl rfl 10 (by decide) (hts (.fieldLink RX1 52 "PanoramaHouse$Hall" "toHall" "I") (by decide +kernel)) (fun _ h9 => h9) rfl dX1_passWeek_60 ?_
    refine lv_iload_n hx hb dX1_passWeek_63 rfl (lv_at hl 4 rfl) ?_
    refine lv_iload hx hb dX1_passWeek_64 (lv_at hl 0 rfl) ?_
    refine lv_isub hx hb dX1_passWeek_66 ?_
    refine lv_iadd hx hb dX1_passWeek_67 ?_
    refine va_put (D := D) (ci := 1) (v := .int ((S1_7 10) + (p2 - v_6))) (ty := .int) (C := RX1) (T := TX1) (N := 12) hx hb hts hiX1 tyX1 tyX1_ok nmX1 hown hK hP hD hS 0 rfl rfl 10 (by decide) (hts (.fieldLink RX1 52 "PanoramaHouse$Hall" "toHall" "I") (by decide +kernel)) (fun _ h9 => h9) rfl (by decide +kernel) rfl rfl (Nat.le_of_ble_eq_true rfl) dX1_passWeek_68 (fun H locs hP hD hS => ?_)
    obtain ⟨S1_8, eS1_8, hF⟩ := nm_ex hF
    have hP : va_P D vwCl (wX1 C a1 S1_8 A1) H := by rw [eS1_8]; exact hP
    have hD : va_D A (wX1 C a1 S1_8 A1) := by rw [eS1_8]; exact hD
    refine lv_aload_n hx hb dX1_passWeek_71 rfl (lv_at hl 2 rfl) ?_
    refine lv_dup hx hb dX1_passWeek_72 rfl ?_
    refine va_get (D := D) (ci := 1) (v := .int (S1_8 11)) (C := RX1) (T := TX1) (N := 12) hx hb hts hiX1 hown hK hP 0 rfl rfl 11 (by decide) (hts (.fieldLink RX1 55 "PanoramaHouse$Hall" "visitors" "I") (by decide +kernel)) (fun _ h9 => h9) rfl dX1_passWeek_73 ?_
    refine lv_iload_n hx hb dX1_passWeek_76 rfl (lv_at hl 3 rfl) ?_
    refine lv_iadd hx hb dX1_passWeek_77 ?_
    refine va_put (D := D) (ci := 1) (v := .int ((S1_8 11) + p1)) (ty := .int) (C := RX1) (T := TX1) (N := 12) hx hb hts hiX1 tyX1 tyX1_ok nmX1 hown hK hP hD hS 0 rfl rfl 11 (by decide) (hts (.fieldLink RX1 55 "PanoramaHouse$Hall" "visitors" "I") (by decide +kernel)) (fun _ h9 => h9) rfl (by decide +kernel) rfl rfl (Nat.le_of_ble_eq_true rfl) dX1_passWeek_78 (fun H locs hP hD hS => ?_)
    obtain ⟨S1_9, eS1_9, hF⟩ := nm_ex hF
    have hP : va_P D vwCl (wX1 C a1 S1_9 A1) H := by rw [eS1_9]; exact hP
    have hD : va_D A (wX1 C a1 S1_9 A1) := by rw [eS1_9]; exact hD
    refine lv_iload hx hb dX1_passWeek_81 (lv_at hl 0 rfl) ?_
    cases hF
    exact hret _ _ _ _ dX1_passWeek_83 rfl hP hD hS
  · have hF := ifn hF c_1
    refine lv_iconst (v := -1) hx hb dX1_passWeek_11 (by decide) ?_
    cases hF
    exact hret _ _ _ _ dX1_passWeek_12 rfl hP hD hS
abbrev rmX1_tell : Room := { frames := 1, cells := 0, slots := 0, locals := 32 }
set_option maxRecDepth 100000 in
set_option maxHeartbeats 4000000 in
theorem c_X1_tell (l : Launch) (K : Kx) (D : va_G) (C : Nat → ClassId) (a1 : Nat → Nat) (S1 : Nat → Int32) (A1 : Nat → Nat → Int32) (p1 : Int32) (z : Int32) (hF : F_X1_tell S1 p1 = some z) : MetI l yX1_tell wsX1_tell rmX1_tell K D (tyV C) (wX1 C a1 S1 A1) [.ref (a1 0), .int p1] (wX1 C a1 S1 A1) z := by
  refine met_int (cc := cX1_tell) (maxL := 2) (ty := .int) (by decide +kernel) rfl (Nat.le_of_ble_eq_true rfl) ?_
  intro p e s m below meth c A Q ls ⟨hx, hb, hml, hown, hts, hK, hA, hZ⟩ hP hD hS hl hret
  have hown : s.vm.findClass RX1 = some m.cls := hown
  have hiX1 : ∀ w ∈ u_ws RX1 TX1 12, w ∈ wsX1_tell := by decide +kernel
  have hl : lv_has ls 2 [(0, .ref (a1 0)), (1, .int p1)] := hl
  unfold F_X1_tell at hF
  refine lv_iload_n hx hb dX1_tell_0 rfl (lv_at hl 1 rfl) ?_
  rcases Decidable.em (p1 = 0) with c_1 | c_1
  · have hF := ifp hF c_1
    refine lv_tableIn (tgt := 40) hx hb dX1_tell_1 (by rw [c_1]; decide) (by rw [c_1]; decide) (by rw [c_1]; rfl) (by decide) ?_
    refine lv_aload_n hx hb dX1_tell_40 rfl (lv_at hl 0 rfl) ?_
    refine va_get (D := D) (ci := 1) (v := .int (S1 6)) (C := RX1) (T := TX1) (N := 12) hx hb hts hiX1 hown hK hP 0 rfl rfl 6 (by decide) (hts (.fieldLink RX1 27 "PanoramaHouse$Hall" "weeks" "I") (by decide +kernel)) (fun _ h9 => h9) rfl dX1_tell_41 ?_
    cases hF
    exact hret _ _ _ _ dX1_tell_44 rfl hP hD hS
  · have hF := ifn hF c_1
    rcases Decidable.em (p1 = 1) with c_2 | c_2
    · have hF := ifp hF c_2
      refine lv_tableIn (tgt := 45) hx hb dX1_tell_1 (by rw [c_2]; decide) (by rw [c_2]; decide) (by rw [c_2]; rfl) (by decide) ?_
      refine lv_aload_n hx hb dX1_tell_45 rfl (lv_at hl 0 rfl) ?_
      refine va_get (D := D) (ci := 1) (v := .int (S1 8)) (C := RX1) (T := TX1) (N := 12) hx hb hts hiX1 hown hK hP 0 rfl rfl 8 (by decide) (hts (.fieldLink RX1 37 "PanoramaHouse$Hall" "weeksGone" "I") (by decide +kernel)) (fun _ h9 => h9) rfl dX1_tell_46 ?_
      cases hF
      exact hret _ _ _ _ dX1_tell_49 rfl hP hD hS
    · have hF := ifn hF c_2
      rcases Decidable.em (p1 = 2) with c_3 | c_3
      · have hF := ifp hF c_3
        refine lv_tableIn (tgt := 50) hx hb dX1_tell_1 (by rw [c_3]; decide) (by rw [c_3]; decide) (by rw [c_3]; rfl) (by decide) ?_
        refine lv_aload_n hx hb dX1_tell_50 rfl (lv_at hl 0 rfl) ?_
        refine va_get (D := D) (ci := 1) (v := .int (S1 9)) (C := RX1) (T := TX1) (N := 12) hx hb hts hiX1 hown hK hP 0 rfl rfl 9 (by decide) (hts (.fieldLink RX1 49 "PanoramaHouse$Hall" "toHouse" "I") (by decide +kernel)) (fun _ h9 => h9) rfl dX1_tell_51 ?_
        cases hF
        exact hret _ _ _ _ dX1_tell_54 rfl hP hD hS
      · have hF := ifn hF c_3
        rcases Decidable.em (p1 = 3) with c_4 | c_4
        · have hF := ifp hF c_4
          refine lv_tableIn (tgt := 55) hx hb dX1_tell_1 (by rw [c_4]; decide) (by rw [c_4]; decide) (by rw [c_4]; rfl) (by decide) ?_
          refine lv_aload_n hx hb dX1_tell_55 rfl (lv_at hl 0 rfl) ?_
          refine va_get (D := D) (ci := 1) (v := .int (S1 10)) (C := RX1) (T := TX1) (N := 12) hx hb hts hiX1 hown hK hP 0 rfl rfl 10 (by decide) (hts (.fieldLink RX1 52 "PanoramaHouse$Hall" "toHall" "I") (by decide +kernel)) (fun _ h9 => h9) rfl dX1_tell_56 ?_
          cases hF
          exact hret _ _ _ _ dX1_tell_59 rfl hP hD hS
        · have hF := ifn hF c_4
          rcases Decidable.em (p1 = 4) with c_5 | c_5
          · have hF := ifp hF c_5
            refine lv_tableIn (tgt := 60) hx hb dX1_tell_1 (by rw [c_5]; decide) (by rw [c_5]; decide) (by rw [c_5]; rfl) (by decide) ?_
            refine lv_aload_n hx hb dX1_tell_60 rfl (lv_at hl 0 rfl) ?_
            refine va_get (D := D) (ci := 1) (v := .int (S1 11)) (C := RX1) (T := TX1) (N := 12) hx hb hts hiX1 hown hK hP 0 rfl rfl 11 (by decide) (hts (.fieldLink RX1 55 "PanoramaHouse$Hall" "visitors" "I") (by decide +kernel)) (fun _ h9 => h9) rfl dX1_tell_61 ?_
            cases hF
            exact hret _ _ _ _ dX1_tell_64 rfl hP hD hS
          · have hF := ifn hF c_5
            rcases Decidable.em (p1 = 5) with c_6 | c_6
            · have hF := ifp hF c_6
              refine lv_tableIn (tgt := 65) hx hb dX1_tell_1 (by rw [c_6]; decide) (by rw [c_6]; decide) (by rw [c_6]; rfl) (by decide) ?_
              refine lv_aload_n hx hb dX1_tell_65 rfl (lv_at hl 0 rfl) ?_
              refine va_get (D := D) (ci := 1) (v := .int (S1 7)) (C := RX1) (T := TX1) (N := 12) hx hb hts hiX1 hown hK hP 0 rfl rfl 7 (by decide) (hts (.fieldLink RX1 34 "PanoramaHouse$Hall" "rent" "I") (by decide +kernel)) (fun _ h9 => h9) rfl dX1_tell_66 ?_
              cases hF
              exact hret _ _ _ _ dX1_tell_69 rfl hP hD hS
            · have hF := ifn hF c_6
              have ic_1 : (p1).toInt ≠ 0 := fun h => c_1 (Int32.toInt_inj.mp (h.trans (by decide)))
              have ic_2 : (p1).toInt ≠ 1 := fun h => c_2 (Int32.toInt_inj.mp (h.trans (by decide)))
              have ic_3 : (p1).toInt ≠ 2 := fun h => c_3 (Int32.toInt_inj.mp (h.trans (by decide)))
              have ic_4 : (p1).toInt ≠ 3 := fun h => c_4 (Int32.toInt_inj.mp (h.trans (by decide)))
              have ic_5 : (p1).toInt ≠ 4 := fun h => c_5 (Int32.toInt_inj.mp (h.trans (by decide)))
              have ic_6 : (p1).toInt ≠ 5 := fun h => c_6 (Int32.toInt_inj.mp (h.trans (by decide)))
              refine lv_tableOut (tgt := 70) hx hb dX1_tell_1 (by omega) (by decide) ?_
              refine lv_iconst (v := -1) hx hb dX1_tell_70 (by decide) ?_
              cases hF
              exact hret _ _ _ _ dX1_tell_71 rfl hP hD hS
