abbrev rmX5_mark : Room := { frames := 6, cells := 0, slots := 0, locals := 166 }
set_option maxRecDepth 100000 in
set_option maxHeartbeats 4000000 in
theorem c_X5_mark (l : Launch) (K : Kx) (D : va_G) (C : Nat → ClassId) (a5 : Nat → Nat) (S5 : Nat → Int32) (a4 : Nat → Nat) (A4 : Nat → Nat → Int32) (a0 : Nat → Nat) (a2 : Nat → Nat) (a3 : Nat → Nat) (h5 : Nat) (d5 : Nat) (p1 : Int32) (p2 : Int32) (p3 : Int32) (p4 : Int32) (z : Int32 × (Nat → Nat → Int32)) (hF : F_X5_mark A4 p1 p2 p3 p4 = some z) : MetI l yX5_mark wsX5_mark rmX5_mark K D (tyV C) (wX5 C a5 a0 a2 a3 a4 h5 d5 S5 ++ wX4 C a4 A4) [.ref (a5 0), .int p1, .int p2, .int p3, .int p4] (wX5 C a5 a0 a2 a3 a4 h5 d5 S5 ++ wX4 C a4 z.2) z.1 := by
  refine met_int (cc := cX5_mark) (maxL := 5) (ty := .boolean) (by decide +kernel) rfl (Nat.le_of_ble_eq_true rfl) ?_
  intro p e s m below meth c A Q ls ⟨hx, hb, hml, hown, hts, hK, hA, hZ⟩ hP hD hS hl hret
  have hown : s.vm.findClass RX5 = some m.cls := hown
  have hiX5 : ∀ w ∈ u_ws RX5 TX5 8, w ∈ wsX5_mark := by decide +kernel
  have hl : lv_has ls 5 [(0, .ref (a5 0)), (1, .int p1), (2, .int p2), (3, .int p3), (4, .int p4)] := hl
  unfold F_X5_mark at hF
  refine lv_aload_n hx hb dX5_mark_0 rfl (lv_at hl 0 rfl) ?_
  refine va_get (D := D) (ci := 5) (v := .ref (a4 0)) (C := RX5) (T := TX5) (N := 8) hx hb hts hiX5 hown hK hP 0 rfl rfl 0 (by decide) (hts (.fieldLink RX5 10 "PanoramaHouse" "round" "LPanoramaHouse$Round;") (by decide +kernel)) (fun _ h9 => h9) rfl dX5_mark_1 ?_
  refine lv_iload_n hx hb dX5_mark_4 rfl (lv_at hl 1 rfl) ?_
  refine lv_iload_n hx hb dX5_mark_5 rfl (lv_at hl 2 rfl) ?_
  refine lv_iload_n hx hb dX5_mark_6 rfl (lv_at hl 3 rfl) ?_
  refine lv_iload hx hb dX5_mark_7 (lv_at hl 4 rfl) ?_
  obtain ⟨z_1, fz_1, hF⟩ := bd_at hF
  refine callV_int (wX5 C a5 a0 a2 a3 a4 h5 d5 S5) ([]) (w' := wX5 C a5 a0 a2 a3 a4 h5 d5 S5 ++ wX4 C a4 z_1.2) (As := [.int p1, .int p2, .int p3, .int p4]) (rest := []) ⟨hx, hb, hml, hown, hts⟩ hK hA hZ (c_X4_setMark l K D C a4 A4 p1 p2 p3 p4 z_1 fz_1) (cwV 4 hts gX5_mark_X4_setMark rfl rfl rfl (by decide +kernel) ⟨Nat.le_of_ble_eq_true rfl, Nat.le_of_ble_eq_true rfl⟩) 0 rfl rfl rfl rfl hl.1 rfl (Nat.le_of_ble_eq_true rfl) ⟨Nat.zero_le _, Nat.zero_le _⟩ (by simp only [List.append_assoc, List.append_nil, List.nil_append]) (by simp only [List.append_assoc, List.append_nil, List.nil_append]) hP hD hS dX5_mark_9 (fun H locs hP hD hS => ?_)
  obtain ⟨b_2, hF⟩ := zb_at hF
  cases hF
  exact hret _ _ _ _ dX5_mark_12 b_2 hP hD hS
abbrev rmX5_line : Room := { frames := 7, cells := 0, slots := 0, locals := 194 }
set_option maxRecDepth 100000 in
set_option maxHeartbeats 4000000 in
theorem c_X5_line (l : Launch) (K : Kx) (D : va_G) (C : Nat → ClassId) (a5 : Nat → Nat) (S5 : Nat → Int32) (a4 : Nat → Nat) (A4 : Nat → Nat → Int32) (a0 : Nat → Nat) (a2 : Nat → Nat) (a3 : Nat → Nat) (h5 : Nat) (d5 : Nat) (p1 : Int32) (p2 : Int32) (p3 : Int32) (p4 : Int32) (p5 : Int32) (p6 : Int32) (z : Int32 × (Nat → Nat → Int32)) (hF : F_X5_line A4 p1 p2 p3 p4 p5 p6 = some z) : MetI l yX5_line wsX5_line rmX5_line K D (tyV C) (wX5 C a5 a0 a2 a3 a4 h5 d5 S5 ++ wX4 C a4 A4) [.ref (a5 0), .int p1, .int p2, .int p3, .int p4, .int p5, .int p6] (wX5 C a5 a0 a2 a3 a4 h5 d5 S5 ++ wX4 C a4 z.2) z.1 := by
  refine met_int (cc := cX5_line) (maxL := 7) (ty := .int) (by decide +kernel) rfl (Nat.le_of_ble_eq_true rfl) ?_
  intro p e s m below meth c A Q ls ⟨hx, hb, hml, hown, hts, hK, hA, hZ⟩ hP hD hS hl hret
  have hown : s.vm.findClass RX5 = some m.cls := hown
  have hiX5 : ∀ w ∈ u_ws RX5 TX5 8, w ∈ wsX5_line := by decide +kernel
  have hl : lv_has ls 7 [(0, .ref (a5 0)), (1, .int p1), (2, .int p2), (3, .int p3), (4, .int p4), (5, .int p5), (6, .int p6)] := hl
  unfold F_X5_line at hF
  refine lv_aload_n hx hb dX5_line_0 rfl (lv_at hl 0 rfl) ?_
  refine va_get (D := D) (ci := 5) (v := .ref (a4 0)) (C := RX5) (T := TX5) (N := 8) hx hb hts hiX5 hown hK hP 0 rfl rfl 0 (by decide) (hts (.fieldLink RX5 10 "PanoramaHouse" "round" "LPanoramaHouse$Round;") (by decide +kernel)) (fun _ h9 => h9) rfl dX5_line_1 ?_
  refine lv_iload_n hx hb dX5_line_4 rfl (lv_at hl 1 rfl) ?_
  refine lv_iload_n hx hb dX5_line_5 rfl (lv_at hl 2 rfl) ?_
  refine lv_iload_n hx hb dX5_line_6 rfl (lv_at hl 3 rfl) ?_
  refine lv_iload hx hb dX5_line_7 (lv_at hl 4 rfl) ?_
  refine lv_iload hx hb dX5_line_9 (lv_at hl 5 rfl) ?_
  refine lv_iload hx hb dX5_line_11 (lv_at hl 6 rfl) ?_
  obtain ⟨z_1, fz_1, hF⟩ := bd_at hF
  refine callV_int (wX5 C a5 a0 a2 a3 a4 h5 d5 S5) ([]) (w' := wX5 C a5 a0 a2 a3 a4 h5 d5 S5 ++ wX4 C a4 z_1.2) (As := [.int p1, .int p2, .int p3, .int p4, .int p5, .int p6]) (rest := []) ⟨hx, hb, hml, hown, hts⟩ hK hA hZ (c_X4_drawLine l K D C a4 A4 p1 p2 p3 p4 p5 p6 z_1 fz_1) (cwV 6 hts gX5_line_X4_drawLine rfl rfl rfl (by decide +kernel) ⟨Nat.le_of_ble_eq_true rfl, Nat.le_of_ble_eq_true rfl⟩) 0 rfl rfl rfl rfl hl.1 rfl (Nat.le_of_ble_eq_true rfl) ⟨Nat.zero_le _, Nat.zero_le _⟩ (by simp only [List.append_assoc, List.append_nil, List.nil_append]) (by simp only [List.append_assoc, List.append_nil, List.nil_append]) hP hD hS dX5_line_13 (fun H locs hP hD hS => ?_)
  cases hF
  exact hret _ _ _ _ dX5_line_16 rfl hP hD hS
abbrev rmX5_stands : Room := { frames := 3, cells := 0, slots := 0, locals := 75 }
set_option maxRecDepth 100000 in
set_option maxHeartbeats 4000000 in
theorem c_X5_stands (l : Launch) (K : Kx) (D : va_G) (C : Nat → ClassId) (a5 : Nat → Nat) (S5 : Nat → Int32) (a0 : Nat → Nat) (a2 : Nat → Nat) (a3 : Nat → Nat) (a4 : Nat → Nat) (h5 : Nat) (d5 : Nat) (p1 : Int32) (p2 : Int32) (p3 : Int32) (p4 : Int32) (z : Int32) (hF : F_X5_stands p1 p2 p3 p4 = some z) : MetI l yX5_stands wsX5_stands rmX5_stands K D (tyV C) (wX5 C a5 a0 a2 a3 a4 h5 d5 S5) [.ref (a5 0), .int p1, .int p2, .int p3, .int p4] (wX5 C a5 a0 a2 a3 a4 h5 d5 S5) z := by
  refine met_int (cc := cX5_stands) (maxL := 5) (ty := .int) (by decide +kernel) rfl (Nat.le_of_ble_eq_true rfl) ?_
  intro p e s m below meth c A Q ls ⟨hx, hb, hml, hown, hts, hK, hA, hZ⟩ hP hD hS hl hret
  have hown : s.vm.findClass RX5 = some m.cls := hown
  have hl : lv_has ls 5 [(0, .ref (a5 0)), (1, .int p1), (2, .int p2), (3, .int p3), (4, .int p4)] := hl
  unfold F_X5_stands at hF
  refine lv_iload_n hx hb dX5_stands_0 rfl (lv_at hl 1 rfl) ?_
  refine lv_iload_n hx hb dX5_stands_1 rfl (lv_at hl 2 rfl) ?_
  refine lv_iload_n hx hb dX5_stands_2 rfl (lv_at hl 3 rfl) ?_
  obtain ⟨z_1, fz_1, hF⟩ := bd_at hF
  refine callS_int (As := [.int p1, .int p2, .int p3]) (rest := []) ⟨hx, hb, hml, hown, hts⟩ hK hA hZ (c_X4_isMark l K D C p1 p2 p3 z_1 fz_1) (va_cwS 3 hts gX5_stands_X4_isMark rfl rfl rfl (by decide +kernel) ⟨Nat.le_of_ble_eq_true rfl, Nat.le_of_ble_eq_true rfl⟩) rfl hl.1 rfl (Nat.le_of_ble_eq_true rfl) ⟨Nat.zero_le _, Nat.zero_le _⟩ hP hS dX5_stands_3 (fun H locs hP hS => ?_)
  refine lv_if_ne (tgt := 11) hx hb dX5_stands_6 (by decide) (fun c_2 => ?_) (fun c_2 => ?_)
  · have hF := ifn hF c_2
    refine lv_iload hx hb dX5_stands_11 (lv_at hl 4 rfl) ?_
    rcases Decidable.em (p4 = 0) with c_3 | c_3
    · have hF := ifp hF c_3
      refine lv_lookup (off := 27) (tgt := 40) hx hb dX5_stands_13 (by decide) (by rw [c_3] <;> rfl) (by decide) ?_
      refine lv_iload_n hx hb dX5_stands_40 rfl (lv_at hl 1 rfl) ?_
      refine lv_iload_n hx hb dX5_stands_41 rfl (lv_at hl 2 rfl) ?_
      obtain ⟨z_4, fz_4, hF⟩ := bd_at hF
      refine callS_int (As := [.int p1, .int p2]) (rest := []) ⟨hx, hb, hml, hown, hts⟩ hK hA hZ (c_X4_columnOf l K D C p1 p2 z_4 fz_4) (va_cwS 2 hts gX5_stands_X4_columnOf rfl rfl rfl (by decide +kernel) ⟨Nat.le_of_ble_eq_true rfl, Nat.le_of_ble_eq_true rfl⟩) rfl hl.1 rfl (Nat.le_of_ble_eq_true rfl) ⟨Nat.zero_le _, Nat.zero_le _⟩ hP hS dX5_stands_42 (fun H locs hP hS => ?_)
      cases hF
      exact hret _ _ _ _ dX5_stands_45 rfl hP hD hS
    · have hF := ifn hF c_3
      rcases Decidable.em (p4 = 1) with c_5 | c_5
      · have hF := ifp hF c_5
        refine lv_lookup (off := 33) (tgt := 46) hx hb dX5_stands_13 (by decide) (by rw [c_5] <;> rfl) (by decide) ?_
        refine lv_iload_n hx hb dX5_stands_46 rfl (lv_at hl 2 rfl) ?_
        refine lv_iload_n hx hb dX5_stands_47 rfl (lv_at hl 3 rfl) ?_
        obtain ⟨z_6, fz_6, hF⟩ := bd_at hF
        refine callS_int (As := [.int p2, .int p3]) (rest := []) ⟨hx, hb, hml, hown, hts⟩ hK hA hZ (c_X4_rowOf l K D C p2 p3 z_6 fz_6) (va_cwS 2 hts gX5_stands_X4_rowOf rfl rfl rfl (by decide +kernel) ⟨Nat.le_of_ble_eq_true rfl, Nat.le_of_ble_eq_true rfl⟩) rfl hl.1 rfl (Nat.le_of_ble_eq_true rfl) ⟨Nat.zero_le _, Nat.zero_le _⟩ hP hS dX5_stands_48 (fun H locs hP hS => ?_)
        cases hF
        exact hret _ _ _ _ dX5_stands_51 rfl hP hD hS
      · have hF := ifn hF c_5
        have ic_3 : (p4).toInt ≠ 0 := fun h => c_3 (Int32.toInt_inj.mp (h.trans (by decide)))
        have ic_5 : (p4).toInt ≠ 1 := fun h => c_5 (Int32.toInt_inj.mp (h.trans (by decide)))
        refine lv_lookup (off := 39) (tgt := 52) hx hb dX5_stands_13 (by decide) (show Op.lookupswitch.offset [(0, 27), (1, 33)] 39 (p4).toInt = 39 from by rw [Op.lookupswitch.offset_cons, if_neg (fun h => ic_3 h.symm), Op.lookupswitch.offset_cons, if_neg (fun h => ic_5 h.symm), Op.lookupswitch.offset_nil]) (by decide) ?_
        refine lv_iconst (v := -1) hx hb dX5_stands_52 (by decide) ?_
        cases hF
        exact hret _ _ _ _ dX5_stands_53 rfl hP hD hS
  · have hF := ifp hF c_2
    refine lv_iconst (v := -1) hx hb dX5_stands_9 (by decide) ?_
    cases hF
    exact hret _ _ _ _ dX5_stands_10 rfl hP hD hS
abbrev rmX5_colour : Room := { frames := 6, cells := 0, slots := 0, locals := 160 }
set_option maxRecDepth 100000 in
set_option maxHeartbeats 4000000 in
theorem c_X5_colour (l : Launch) (K : Kx) (D : va_G) (C : Nat → ClassId) (a5 : Nat → Nat) (S5 : Nat → Int32) (a4 : Nat → Nat) (A4 : Nat → Nat → Int32) (a0 : Nat → Nat) (a2 : Nat → Nat) (a3 : Nat → Nat) (h5 : Nat) (d5 : Nat) (p1 : Int32) (p2 : Int32) (z : Int32) (hF : F_X5_colour A4 p1 p2 = some z) : MetI l yX5_colour wsX5_colour rmX5_colour K D (tyV C) (wX5 C a5 a0 a2 a3 a4 h5 d5 S5 ++ wX4 C a4 A4) [.ref (a5 0), .int p1, .int p2] (wX5 C a5 a0 a2 a3 a4 h5 d5 S5 ++ wX4 C a4 A4) z := by
  refine met_int (cc := cX5_colour) (maxL := 3) (ty := .int) (by decide +kernel) rfl (Nat.le_of_ble_eq_true rfl) ?_
  intro p e s m below meth c A Q ls ⟨hx, hb, hml, hown, hts, hK, hA, hZ⟩ hP hD hS hl hret
  have hown : s.vm.findClass RX5 = some m.cls := hown
  have hiX5 : ∀ w ∈ u_ws RX5 TX5 8, w ∈ wsX5_colour := by decide +kernel
  have hl : lv_has ls 3 [(0, .ref (a5 0)), (1, .int p1), (2, .int p2)] := hl
  unfold F_X5_colour at hF
  refine lv_iload_n hx hb dX5_colour_0 rfl (lv_at hl 1 rfl) ?_
  refine lv_iload_n hx hb dX5_colour_1 rfl (lv_at hl 2 rfl) ?_
  obtain ⟨z_1, fz_1, hF⟩ := bd_at hF
  refine callS_int (As := [.int p1, .int p2]) (rest := []) ⟨hx, hb, hml, hown, hts⟩ hK hA hZ (c_X4_isPlace l K D C p1 p2 z_1 fz_1) (va_cwS 2 hts gX5_colour_X4_isPlace rfl rfl rfl (by decide +kernel) ⟨Nat.le_of_ble_eq_true rfl, Nat.le_of_ble_eq_true rfl⟩) rfl hl.1 rfl (Nat.le_of_ble_eq_true rfl) ⟨Nat.zero_le _, Nat.zero_le _⟩ hP hS dX5_colour_2 (fun H locs hP hS => ?_)
  refine lv_if_ne (tgt := 10) hx hb dX5_colour_5 (by decide) (fun c_2 => ?_) (fun c_2 => ?_)
  · have hF := ifn hF c_2
    refine lv_aload_n hx hb dX5_colour_10 rfl (lv_at hl 0 rfl) ?_
    refine va_get (D := D) (ci := 5) (v := .ref (a4 0)) (C := RX5) (T := TX5) (N := 8) hx hb hts hiX5 hown hK hP 0 rfl rfl 0 (by decide) (hts (.fieldLink RX5 10 "PanoramaHouse" "round" "LPanoramaHouse$Round;") (by decide +kernel)) (fun _ h9 => h9) rfl dX5_colour_11 ?_
    refine lv_iload_n hx hb dX5_colour_14 rfl (lv_at hl 1 rfl) ?_
    refine lv_iload_n hx hb dX5_colour_15 rfl (lv_at hl 2 rfl) ?_
    obtain ⟨z_3, fz_3, hF⟩ := bd_at hF
    refine callV_int (wX5 C a5 a0 a2 a3 a4 h5 d5 S5) ([]) (w' := wX5 C a5 a0 a2 a3 a4 h5 d5 S5 ++ wX4 C a4 A4) (As := [.int p1, .int p2]) (rest := []) ⟨hx, hb, hml, hown, hts⟩ hK hA hZ (c_X4_colourAt l K D C a4 A4 p1 p2 z_3 fz_3) (cwV 2 hts gX5_colour_X4_colourAt rfl rfl rfl (by decide +kernel) ⟨Nat.le_of_ble_eq_true rfl, Nat.le_of_ble_eq_true rfl⟩) 0 rfl rfl rfl rfl hl.1 rfl (Nat.le_of_ble_eq_true rfl) ⟨Nat.zero_le _, Nat.zero_le _⟩ (by simp only [List.append_assoc, List.append_nil, List.nil_append]) (by simp only [List.append_assoc, List.append_nil, List.nil_append]) hP hD hS dX5_colour_16 (fun H locs hP hD hS => ?_)
    cases hF
    exact hret _ _ _ _ dX5_colour_19 rfl hP hD hS
  · have hF := ifp hF c_2
    refine lv_iconst (v := -1) hx hb dX5_colour_8 (by decide) ?_
    cases hF
    exact hret _ _ _ _ dX5_colour_9 rfl hP hD hS
abbrev rmX5_from : Room := { frames := 5, cells := 0, slots := 0, locals := 137 }
set_option maxRecDepth 100000 in
set_option maxHeartbeats 4000000 in
theorem c_X5_from (l : Launch) (K : Kx) (D : va_G) (C : Nat → ClassId) (a5 : Nat → Nat) (S5 : Nat → Int32) (a4 : Nat → Nat) (A4 : Nat → Nat → Int32) (a0 : Nat → Nat) (a2 : Nat → Nat) (a3 : Nat → Nat) (h5 : Nat) (d5 : Nat) (p1 : Int32) (p2 : Int32) (z : Int32) (hF : F_X5_from A4 p1 p2 = some z) : MetI l yX5_from wsX5_from rmX5_from K D (tyV C) (wX5 C a5 a0 a2 a3 a4 h5 d5 S5 ++ wX4 C a4 A4) [.ref (a5 0), .int p1, .int p2] (wX5 C a5 a0 a2 a3 a4 h5 d5 S5 ++ wX4 C a4 A4) z := by
  refine met_int (cc := cX5_from) (maxL := 3) (ty := .int) (by decide +kernel) rfl (Nat.le_of_ble_eq_true rfl) ?_
  intro p e s m below meth c A Q ls ⟨hx, hb, hml, hown, hts, hK, hA, hZ⟩ hP hD hS hl hret
  have hown : s.vm.findClass RX5 = some m.cls := hown
  have hiX5 : ∀ w ∈ u_ws RX5 TX5 8, w ∈ wsX5_from := by decide +kernel
  have hl : lv_has ls 3 [(0, .ref (a5 0)), (1, .int p1), (2, .int p2)] := hl
  unfold F_X5_from at hF
  refine lv_iload_n hx hb dX5_from_0 rfl (lv_at hl 1 rfl) ?_
  refine lv_iload_n hx hb dX5_from_1 rfl (lv_at hl 2 rfl) ?_
  obtain ⟨z_1, fz_1, hF⟩ := bd_at hF
  refine callS_int (As := [.int p1, .int p2]) (rest := []) ⟨hx, hb, hml, hown, hts⟩ hK hA hZ (c_X4_isPlace l K D C p1 p2 z_1 fz_1) (va_cwS 2 hts gX5_from_X4_isPlace rfl rfl rfl (by decide +kernel) ⟨Nat.le_of_ble_eq_true rfl, Nat.le_of_ble_eq_true rfl⟩) rfl hl.1 rfl (Nat.le_of_ble_eq_true rfl) ⟨Nat.zero_le _, Nat.zero_le _⟩ hP hS dX5_from_2 (fun H locs hP hS => ?_)
  refine lv_if_ne (tgt := 10) hx hb dX5_from_5 (by decide) (fun c_2 => ?_) (fun c_2 => ?_)
  · have hF := ifn hF c_2
    refine lv_aload_n hx hb dX5_from_10 rfl (lv_at hl 0 rfl) ?_
    refine va_get (D := D) (ci := 5) (v := .ref (a4 0)) (C := RX5) (T := TX5) (N := 8) hx hb hts hiX5 hown hK hP 0 rfl rfl 0 (by decide) (hts (.fieldLink RX5 10 "PanoramaHouse" "round" "LPanoramaHouse$Round;") (by decide +kernel)) (fun _ h9 => h9) rfl dX5_from_11 ?_
    refine lv_iload_n hx hb dX5_from_14 rfl (lv_at hl 1 rfl) ?_
    refine lv_iload_n hx hb dX5_from_15 rfl (lv_at hl 2 rfl) ?_
    obtain ⟨z_3, fz_3, hF⟩ := bd_at hF
    refine callV_int (wX5 C a5 a0 a2 a3 a4 h5 d5 S5) ([]) (w' := wX5 C a5 a0 a2 a3 a4 h5 d5 S5 ++ wX4 C a4 A4) (As := [.int p1, .int p2]) (rest := []) ⟨hx, hb, hml, hown, hts⟩ hK hA hZ (c_X4_viewAt l K D C a4 A4 p1 p2 z_3 fz_3) (cwV 2 hts gX5_from_X4_viewAt rfl rfl rfl (by decide +kernel) ⟨Nat.le_of_ble_eq_true rfl, Nat.le_of_ble_eq_true rfl⟩) 0 rfl rfl rfl rfl hl.1 rfl (Nat.le_of_ble_eq_true rfl) ⟨Nat.zero_le _, Nat.zero_le _⟩ (by simp only [List.append_assoc, List.append_nil, List.nil_append]) (by simp only [List.append_assoc, List.append_nil, List.nil_append]) hP hD hS dX5_from_16 (fun H locs hP hD hS => ?_)
    cases hF
    exact hret _ _ _ _ dX5_from_19 rfl hP hD hS
  · have hF := ifp hF c_2
    refine lv_iconst (v := -1) hx hb dX5_from_8 (by decide) ?_
    cases hF
    exact hret _ _ _ _ dX5_from_9 rfl hP hD hS
abbrev rmX5_seam : Room := { frames := 5, cells := 0, slots := 0, locals := 136 }
set_option maxRecDepth 100000 in
set_option maxHeartbeats 4000000 in
theorem c_X5_seam (l : Launch) (K : Kx) (D : va_G) (C : Nat → ClassId) (a5 : Nat → Nat) (S5 : Nat → Int32) (a4 : Nat → Nat) (A4 : Nat → Nat → Int32) (a0 : Nat → Nat) (a2 : Nat → Nat) (a3 : Nat → Nat) (h5 : Nat) (d5 : Nat) (p1 : Int32) (z : Int32) (hF : F_X5_seam A4 p1 = some z) : MetI l yX5_seam wsX5_seam rmX5_seam K D (tyV C) (wX5 C a5 a0 a2 a3 a4 h5 d5 S5 ++ wX4 C a4 A4) [.ref (a5 0), .int p1] (wX5 C a5 a0 a2 a3 a4 h5 d5 S5 ++ wX4 C a4 A4) z := by
  refine met_int (cc := cX5_seam) (maxL := 2) (ty := .int) (by decide +kernel) rfl (Nat.le_of_ble_eq_true rfl) ?_
  intro p e s m below meth c A Q ls ⟨hx, hb, hml, hown, hts, hK, hA, hZ⟩ hP hD hS hl hret
  have hown : s.vm.findClass RX5 = some m.cls := hown
  have hiX5 : ∀ w ∈ u_ws RX5 TX5 8, w ∈ wsX5_seam := by decide +kernel
  have hl : lv_has ls 2 [(0, .ref (a5 0)), (1, .int p1)] := hl
  unfold F_X5_seam at hF
  refine lv_aload_n hx hb dX5_seam_0 rfl (lv_at hl 0 rfl) ?_
  refine va_get (D := D) (ci := 5) (v := .ref (a4 0)) (C := RX5) (T := TX5) (N := 8) hx hb hts hiX5 hown hK hP 0 rfl rfl 0 (by decide) (hts (.fieldLink RX5 10 "PanoramaHouse" "round" "LPanoramaHouse$Round;") (by decide +kernel)) (fun _ h9 => h9) rfl dX5_seam_1 ?_
  refine lv_iload_n hx hb dX5_seam_4 rfl (lv_at hl 1 rfl) ?_
  obtain ⟨z_1, fz_1, hF⟩ := bd_at hF
  refine callV_int (wX5 C a5 a0 a2 a3 a4 h5 d5 S5) ([]) (w' := wX5 C a5 a0 a2 a3 a4 h5 d5 S5 ++ wX4 C a4 A4) (As := [.int p1]) (rest := []) ⟨hx, hb, hml, hown, hts⟩ hK hA hZ (c_X4_quarrelsBehind l K D C a4 A4 p1 z_1 fz_1) (cwV 1 hts gX5_seam_X4_quarrelsBehind rfl rfl rfl (by decide +kernel) ⟨Nat.le_of_ble_eq_true rfl, Nat.le_of_ble_eq_true rfl⟩) 0 rfl rfl rfl rfl hl.1 rfl (Nat.le_of_ble_eq_true rfl) ⟨Nat.zero_le _, Nat.zero_le _⟩ (by simp only [List.append_assoc, List.append_nil, List.nil_append]) (by simp only [List.append_assoc, List.append_nil, List.nil_append]) hP hD hS dX5_seam_5 (fun H locs hP hD hS => ?_)
  cases hF
  exact hret _ _ _ _ dX5_seam_8 rfl hP hD hS
abbrev rmX5_gang : Room := { frames := 2, cells := 0, slots := 0, locals := 53 }
set_option maxRecDepth 100000 in
set_option maxHeartbeats 4000000 in
theorem c_X5_gang (l : Launch) (K : Kx) (D : va_G) (C : Nat → ClassId) (a5 : Nat → Nat) (S5 : Nat → Int32) (a2 : Nat → Nat) (S2 : Nat → Int32) (A2 : Nat → Nat → Int32) (a0 : Nat → Nat) (a3 : Nat → Nat) (a4 : Nat → Nat) (h5 : Nat) (d5 : Nat) (p1 : Int32) (z : Int32 × (Nat → Int32) × (Nat → Nat → Int32)) (hF : F_X5_gang S2 A2 p1 = some z) : MetI l yX5_gang wsX5_gang rmX5_gang K D (tyV C) (wX5 C a5 a0 a2 a3 a4 h5 d5 S5 ++ wX2 C a2 a4 S2 A2) [.ref (a5 0), .int p1] (wX5 C a5 a0 a2 a3 a4 h5 d5 S5 ++ wX2 C a2 a4 z.2.1 z.2.2) z.1 := by
  refine met_int (cc := cX5_gang) (maxL := 2) (ty := .int) (by decide +kernel) rfl (Nat.le_of_ble_eq_true rfl) ?_
  intro p e s m below meth c A Q ls ⟨hx, hb, hml, hown, hts, hK, hA, hZ⟩ hP hD hS hl hret
  have hown : s.vm.findClass RX5 = some m.cls := hown
  have hiX5 : ∀ w ∈ u_ws RX5 TX5 8, w ∈ wsX5_gang := by decide +kernel
  have hl : lv_has ls 2 [(0, .ref (a5 0)), (1, .int p1)] := hl
  unfold F_X5_gang at hF
  refine lv_aload_n hx hb dX5_gang_0 rfl (lv_at hl 0 rfl) ?_
  refine va_get (D := D) (ci := 5) (v := .ref (a2 0)) (C := RX5) (T := TX5) (N := 8) hx hb hts hiX5 hown hK hP 0 rfl rfl 1 (by decide) (hts (.fieldLink RX5 21 "PanoramaHouse" "paintwork" "LPanoramaHouse$Paintwork;") (by decide +kernel)) (fun _ h9 => h9) rfl dX5_gang_1 ?_
  refine lv_iload_n hx hb dX5_gang_4 rfl (lv_at hl 1 rfl) ?_
  obtain ⟨z_1, fz_1, hF⟩ := bd_at hF
  refine callV_int (wX5 C a5 a0 a2 a3 a4 h5 d5 S5) ([]) (w' := wX5 C a5 a0 a2 a3 a4 h5 d5 S5 ++ wX2 C a2 a4 z_1.2.1 z_1.2.2) (As := [.int p1]) (rest := []) ⟨hx, hb, hml, hown, hts⟩ hK hA hZ (c_X2_hire l K D C a2 S2 A2 a4 p1 z_1 fz_1) (cwV 1 hts gX5_gang_X2_hire rfl rfl rfl (by decide +kernel) ⟨Nat.le_of_ble_eq_true rfl, Nat.le_of_ble_eq_true rfl⟩) 0 rfl rfl rfl rfl hl.1 rfl (Nat.le_of_ble_eq_true rfl) ⟨Nat.zero_le _, Nat.zero_le _⟩ (by simp only [List.append_assoc, List.append_nil, List.nil_append]) (by simp only [List.append_assoc, List.append_nil, List.nil_append]) hP hD hS dX5_gang_5 (fun H locs hP hD hS => ?_)
  cases hF
  exact hret _ _ _ _ dX5_gang_8 rfl hP hD hS
abbrev rmX5_put : Room := { frames := 5, cells := 0, slots := 0, locals := 118 }
set_option maxRecDepth 100000 in
set_option maxHeartbeats 4000000 in
theorem c_X5_put (l : Launch) (K : Kx) (D : va_G) (C : Nat → ClassId) (a5 : Nat → Nat) (S5 : Nat → Int32) (a2 : Nat → Nat) (S2 : Nat → Int32) (A2 : Nat → Nat → Int32) (a4 : Nat → Nat) (A4 : Nat → Nat → Int32) (a0 : Nat → Nat) (a3 : Nat → Nat) (h5 : Nat) (d5 : Nat) (p1 : Int32) (p2 : Int32) (z : Int32 × (Nat → Nat → Int32)) (hF : F_X5_put S2 A2 A4 p1 p2 = some z) : MetI l yX5_put wsX5_put rmX5_put K D (tyV C) (wX5 C a5 a0 a2 a3 a4 h5 d5 S5 ++ wX2 C a2 a4 S2 A2 ++ wX4 C a4 A4) [.ref (a5 0), .int p1, .int p2] (wX5 C a5 a0 a2 a3 a4 h5 d5 S5 ++ wX2 C a2 a4 S2 z.2 ++ wX4 C a4 A4) z.1 := by
  refine met_int (cc := cX5_put) (maxL := 3) (ty := .int) (by decide +kernel) rfl (Nat.le_of_ble_eq_true rfl) ?_
  intro p e s m below meth c A Q ls ⟨hx, hb, hml, hown, hts, hK, hA, hZ⟩ hP hD hS hl hret
  have hown : s.vm.findClass RX5 = some m.cls := hown
  have hiX5 : ∀ w ∈ u_ws RX5 TX5 8, w ∈ wsX5_put := by decide +kernel
  have hl : lv_has ls 3 [(0, .ref (a5 0)), (1, .int p1), (2, .int p2)] := hl
  unfold F_X5_put at hF
  refine lv_aload_n hx hb dX5_put_0 rfl (lv_at hl 0 rfl) ?_
  refine va_get (D := D) (ci := 5) (v := .ref (a2 0)) (C := RX5) (T := TX5) (N := 8) hx hb hts hiX5 hown hK hP 0 rfl rfl 1 (by decide) (hts (.fieldLink RX5 21 "PanoramaHouse" "paintwork" "LPanoramaHouse$Paintwork;") (by decide +kernel)) (fun _ h9 => h9) rfl dX5_put_1 ?_
  refine lv_iload_n hx hb dX5_put_4 rfl (lv_at hl 1 rfl) ?_
  refine lv_iload_n hx hb dX5_put_5 rfl (lv_at hl 2 rfl) ?_
  obtain ⟨z_1, fz_1, hF⟩ := bd_at hF
  refine callV_int (wX5 C a5 a0 a2 a3 a4 h5 d5 S5) ([]) (w' := wX5 C a5 a0 a2 a3 a4 h5 d5 S5 ++ wX2 C a2 a4 S2 z_1.2 ++ wX4 C a4 A4) (As := [.int p1, .int p2]) (rest := []) ⟨hx, hb, hml, hown, hts⟩ hK hA hZ (c_X2_beginCoat l K D C a2 S2 A2 a4 A4 p1 p2 z_1 fz_1) (cwV 2 hts gX5_put_X2_beginCoat rfl rfl rfl (by decide +kernel) ⟨Nat.le_of_ble_eq_true rfl, Nat.le_of_ble_eq_true rfl⟩) 0 rfl rfl rfl rfl hl.1 rfl (Nat.le_of_ble_eq_true rfl) ⟨Nat.zero_le _, Nat.zero_le _⟩ (by simp only [List.append_assoc, List.append_nil, List.nil_append]) (by simp only [List.append_assoc, List.append_nil, List.nil_append]) hP hD hS dX5_put_6 (fun H locs hP hD hS => ?_)
  cases hF
  exact hret _ _ _ _ dX5_put_9 rfl hP hD hS
abbrev rmX5_day : Room := { frames := 5, cells := 0, slots := 0, locals := 118 }
set_option maxRecDepth 100000 in
set_option maxHeartbeats 4000000 in
theorem c_X5_day (l : Launch) (K : Kx) (D : va_G) (C : Nat → ClassId) (a5 : Nat → Nat) (S5 : Nat → Int32) (a2 : Nat → Nat) (S2 : Nat → Int32) (A2 : Nat → Nat → Int32) (a0 : Nat → Nat) (a3 : Nat → Nat) (a4 : Nat → Nat) (h5 : Nat) (d5 : Nat) (z : Int32 × (Nat → Int32) × (Nat → Nat → Int32)) (hF : F_X5_day S2 A2 = some z) : MetI l yX5_day wsX5_day rmX5_day K D (tyV C) (wX5 C a5 a0 a2 a3 a4 h5 d5 S5 ++ wX2 C a2 a4 S2 A2) [.ref (a5 0)] (wX5 C a5 a0 a2 a3 a4 h5 d5 S5 ++ wX2 C a2 a4 z.2.1 z.2.2) z.1 := by
  refine met_int (cc := cX5_day) (maxL := 1) (ty := .int) (by decide +kernel) rfl (Nat.le_of_ble_eq_true rfl) ?_
  intro p e s m below meth c A Q ls ⟨hx, hb, hml, hown, hts, hK, hA, hZ⟩ hP hD hS hl hret
  have hown : s.vm.findClass RX5 = some m.cls := hown
  have hiX5 : ∀ w ∈ u_ws RX5 TX5 8, w ∈ wsX5_day := by decide +kernel
  have hl : lv_has ls 1 [(0, .ref (a5 0))] := hl
  unfold F_X5_day at hF
  refine lv_aload_n hx hb dX5_day_0 rfl (lv_at hl 0 rfl) ?_
  refine va_get (D := D) (ci := 5) (v := .ref (a2 0)) (C := RX5) (T := TX5) (N := 8) hx hb hts hiX5 hown hK hP 0 rfl rfl 1 (by decide) (hts (.fieldLink RX5 21 "PanoramaHouse" "paintwork" "LPanoramaHouse$Paintwork;") (by decide +kernel)) (fun _ h9 => h9) rfl dX5_day_1 ?_
  obtain ⟨z_1, fz_1, hF⟩ := bd_at hF
  refine callV_int (wX5 C a5 a0 a2 a3 a4 h5 d5 S5) ([]) (w' := wX5 C a5 a0 a2 a3 a4 h5 d5 S5 ++ wX2 C a2 a4 z_1.2.1 z_1.2.2) (As := []) (rest := []) ⟨hx, hb, hml, hown, hts⟩ hK hA hZ (c_X2_passDay l K D C a2 S2 A2 a4 z_1 fz_1) (cwV 0 hts gX5_day_X2_passDay rfl rfl rfl (by decide +kernel) ⟨Nat.le_of_ble_eq_true rfl, Nat.le_of_ble_eq_true rfl⟩) 0 rfl rfl rfl rfl hl.1 rfl (Nat.le_of_ble_eq_true rfl) ⟨Nat.zero_le _, Nat.zero_le _⟩ (by simp only [List.append_assoc, List.append_nil, List.nil_append]) (by simp only [List.append_assoc, List.append_nil, List.nil_append]) hP hD hS dX5_day_4 (fun H locs hP hD hS => ?_)
  cases hF
  exact hret _ _ _ _ dX5_day_7 rfl hP hD hS
abbrev rmX5_square : Room := { frames := 5, cells := 0, slots := 0, locals := 116 }
set_option maxRecDepth 100000 in
set_option maxHeartbeats 4000000 in
theorem c_X5_square (l : Launch) (K : Kx) (D : va_G) (C : Nat → ClassId) (a5 : Nat → Nat) (S5 : Nat → Int32) (a2 : Nat → Nat) (S2 : Nat → Int32) (A2 : Nat → Nat → Int32) (a4 : Nat → Nat) (A4 : Nat → Nat → Int32) (a0 : Nat → Nat) (a3 : Nat → Nat) (h5 : Nat) (d5 : Nat) (p1 : Int32) (p2 : Int32) (z : Int32) (hF : F_X5_square A2 A4 p1 p2 = some z) : MetI l yX5_square wsX5_square rmX5_square K D (tyV C) (wX5 C a5 a0 a2 a3 a4 h5 d5 S5 ++ wX2 C a2 a4 S2 A2 ++ wX4 C a4 A4) [.ref (a5 0), .int p1, .int p2] (wX5 C a5 a0 a2 a3 a4 h5 d5 S5 ++ wX2 C a2 a4 S2 A2 ++ wX4 C a4 A4) z := by
  refine met_int (cc := cX5_square) (maxL := 3) (ty := .int) (by decide +kernel) rfl (Nat.le_of_ble_eq_true rfl) ?_
  intro p e s m below meth c A Q ls ⟨hx, hb, hml, hown, hts, hK, hA, hZ⟩ hP hD hS hl hret
  have hown : s.vm.findClass RX5 = some m.cls := hown
  have hiX5 : ∀ w ∈ u_ws RX5 TX5 8, w ∈ wsX5_square := by decide +kernel
  have hl : lv_has ls 3 [(0, .ref (a5 0)), (1, .int p1), (2, .int p2)] := hl
  unfold F_X5_square at hF
  refine lv_aload_n hx hb dX5_square_0 rfl (lv_at hl 0 rfl) ?_
  refine va_get (D := D) (ci := 5) (v := .ref (a2 0)) (C := RX5) (T := TX5) (N := 8) hx hb hts hiX5 hown hK hP 0 rfl rfl 1 (by decide) (hts (.fieldLink RX5 21 "PanoramaHouse" "paintwork" "LPanoramaHouse$Paintwork;") (by decide +kernel)) (fun _ h9 => h9) rfl dX5_square_1 ?_
  refine lv_iload_n hx hb dX5_square_4 rfl (lv_at hl 1 rfl) ?_
  refine lv_iload_n hx hb dX5_square_5 rfl (lv_at hl 2 rfl) ?_
  obtain ⟨z_1, fz_1, hF⟩ := bd_at hF
  refine callV_int (wX5 C a5 a0 a2 a3 a4 h5 d5 S5) ([]) (w' := wX5 C a5 a0 a2 a3 a4 h5 d5 S5 ++ wX2 C a2 a4 S2 A2 ++ wX4 C a4 A4) (As := [.int p1, .int p2]) (rest := []) ⟨hx, hb, hml, hown, hts⟩ hK hA hZ (c_X2_tellSquare l K D C a2 S2 A2 a4 A4 p1 p2 z_1 fz_1) (cwV 2 hts gX5_square_X2_tellSquare rfl rfl rfl (by decide +kernel) ⟨Nat.le_of_ble_eq_true rfl, Nat.le_of_ble_eq_true rfl⟩) 0 rfl rfl rfl rfl hl.1 rfl (Nat.le_of_ble_eq_true rfl) ⟨Nat.zero_le _, Nat.zero_le _⟩ (by simp only [List.append_assoc, List.append_nil, List.nil_append]) (by simp only [List.append_assoc, List.append_nil, List.nil_append]) hP hD hS dX5_square_6 (fun H locs hP hD hS => ?_)
  cases hF
  exact hret _ _ _ _ dX5_square_9 rfl hP hD hS
abbrev rmX5_least : Room := { frames := 14, cells := 0, slots := 0, locals := 361 }
set_option maxRecDepth 100000 in
set_option maxHeartbeats 4000000 in
theorem c_X5_least (l : Launch) (K : Kx) (D : va_G) (C : Nat → ClassId) (a5 : Nat → Nat) (S5 : Nat → Int32) (a2 : Nat → Nat) (S2 : Nat → Int32) (A2 : Nat → Nat → Int32) (a4 : Nat → Nat) (A4 : Nat → Nat → Int32) (a0 : Nat → Nat) (a3 : Nat → Nat) (h5 : Nat) (d5 : Nat) (p1 : Int32) (p2 : Int32) (p3 : Int32) (z : Int32 × (Nat → Nat → Int32)) (hF : F_X5_least S2 A2 A4 p1 p2 p3 = some z) : MetI l yX5_least wsX5_least rmX5_least K D (tyV C) (wX5 C a5 a0 a2 a3 a4 h5 d5 S5 ++ wX2 C a2 a4 S2 A2 ++ wX4 C a4 A4) [.ref (a5 0), .int p1, .int p2, .int p3] (wX5 C a5 a0 a2 a3 a4 h5 d5 S5 ++ wX2 C a2 a4 S2 z.2 ++ wX4 C a4 A4) z.1 := by
  refine met_int (cc := cX5_least) (maxL := 4) (ty := .int) (by decide +kernel) rfl (Nat.le_of_ble_eq_true rfl) ?_
  intro p e s m below meth c A Q ls ⟨hx, hb, hml, hown, hts, hK, hA, hZ⟩ hP hD hS hl hret
  have hown : s.vm.findClass RX5 = some m.cls := hown
  have hiX5 : ∀ w ∈ u_ws RX5 TX5 8, w ∈ wsX5_least := by decide +kernel
  have hl : lv_has ls 4 [(0, .ref (a5 0)), (1, .int p1), (2, .int p2), (3, .int p3)] := hl
  unfold F_X5_least at hF
  refine lv_aload_n hx hb dX5_least_0 rfl (lv_at hl 0 rfl) ?_
  refine va_get (D := D) (ci := 5) (v := .ref (a2 0)) (C := RX5) (T := TX5) (N := 8) hx hb hts hiX5 hown hK hP 0 rfl rfl 1 (by decide) (hts (.fieldLink RX5 21 "PanoramaHouse" "paintwork" "LPanoramaHouse$Paintwork;") (by decide +kernel)) (fun _ h9 => h9) rfl dX5_least_1 ?_
  refine lv_iload_n hx hb dX5_least_4 rfl (lv_at hl 1 rfl) ?_
  refine lv_iload_n hx hb dX5_least_5 rfl (lv_at hl 2 rfl) ?_
  refine lv_iload_n hx hb dX5_least_6 rfl (lv_at hl 3 rfl) ?_
  obtain ⟨z_1, fz_1, hF⟩ := bd_at hF
  refine callV_int (wX5 C a5 a0 a2 a3 a4 h5 d5 S5) ([]) (w' := wX5 C a5 a0 a2 a3 a4 h5 d5 S5 ++ wX2 C a2 a4 S2 z_1.2 ++ wX4 C a4 A4) (As := [.int p1, .int p2, .int p3]) (rest := []) ⟨hx, hb, hml, hown, hts⟩ hK hA hZ (c_X2_leastDays l K D C a2 S2 A2 a4 A4 p1 p2 p3 z_1 fz_1) (cwV 3 hts gX5_least_X2_leastDays rfl rfl rfl (by decide +kernel) ⟨Nat.le_of_ble_eq_true rfl, Nat.le_of_ble_eq_true rfl⟩) 0 rfl rfl rfl rfl hl.1 rfl (Nat.le_of_ble_eq_true rfl) ⟨Nat.zero_le _, Nat.zero_le _⟩ (by simp only [List.append_assoc, List.append_nil, List.nil_append]) (by simp only [List.append_assoc, List.append_nil, List.nil_append]) hP hD hS dX5_least_7 (fun H locs hP hD hS => ?_)
  cases hF
  exact hret _ _ _ _ dX5_least_10 rfl hP hD hS
abbrev rmX5_feed : Room := { frames := 3, cells := 0, slots := 0, locals := 79 }
set_option maxRecDepth 100000 in
set_option maxHeartbeats 4000000 in
theorem c_X5_feed (l : Launch) (K : Kx) (D : va_G) (C : Nat → ClassId) (a5 : Nat → Nat) (S5 : Nat → Int32) (a0 : Nat → Nat) (S0 : Nat → Int32) (A0 : Nat → Nat → Int32) (a2 : Nat → Nat) (a3 : Nat → Nat) (a4 : Nat → Nat) (h5 : Nat) (d5 : Nat) (p1 : Int32) (p2 : Int32) (p3 : Int32) (p4 : Int32) (p5 : Int32) (z : Int32 × (Nat → Int32) × (Nat → Nat → Int32)) (hF : F_X5_feed S0 A0 p1 p2 p3 p4 p5 = some z) : MetI l yX5_feed wsX5_feed rmX5_feed K D (tyV C) (wX5 C a5 a0 a2 a3 a4 h5 d5 S5 ++ wX0 C a0 S0 A0) [.ref (a5 0), .int p1, .int p2, .int p3, .int p4, .int p5] (wX5 C a5 a0 a2 a3 a4 h5 d5 S5 ++ wX0 C a0 z.2.1 z.2.2) z.1 := by
  refine met_int (cc := cX5_feed) (maxL := 6) (ty := .int) (by decide +kernel) rfl (Nat.le_of_ble_eq_true rfl) ?_
  intro p e s m below meth c A Q ls ⟨hx, hb, hml, hown, hts, hK, hA, hZ⟩ hP hD hS hl hret
  have hown : s.vm.findClass RX5 = some m.cls := hown
  have hiX5 : ∀ w ∈ u_ws RX5 TX5 8, w ∈ wsX5_feed := by decide +kernel
  have hl : lv_has ls 6 [(0, .ref (a5 0)), (1, .int p1), (2, .int p2), (3, .int p3), (4, .int p4), (5, .int p5)] := hl
  unfold F_X5_feed at hF
  refine lv_aload_n hx hb dX5_feed_0 rfl (lv_at hl 0 rfl) ?_
  refine va_get (D := D) (ci := 5) (v := .ref (a0 0)) (C := RX5) (T := TX5) (N := 8) hx hb hts hiX5 hown hK hP 0 rfl rfl 2 (by decide) (hts (.fieldLink RX5 28 "PanoramaHouse" "reader" "LPanoramaHouse$ContractReader;") (by decide +kernel)) (fun _ h9 => h9) rfl dX5_feed_1 ?_
  refine lv_iload_n hx hb dX5_feed_4 rfl (lv_at hl 1 rfl) ?_
  refine lv_iload_n hx hb dX5_feed_5 rfl (lv_at hl 2 rfl) ?_
  refine lv_iload_n hx hb dX5_feed_6 rfl (lv_at hl 3 rfl) ?_
  refine lv_iload hx hb dX5_feed_7 (lv_at hl 4 rfl) ?_
  refine lv_iload hx hb dX5_feed_9 (lv_at hl 5 rfl) ?_
  obtain ⟨z_1, fz_1, hF⟩ := bd_at hF
  refine callV_int (wX5 C a5 a0 a2 a3 a4 h5 d5 S5) ([]) (w' := wX5 C a5 a0 a2 a3 a4 h5 d5 S5 ++ wX0 C a0 z_1.2.1 z_1.2.2) (As := [.int p1, .int p2, .int p3, .int p4, .int p5]) (rest := []) ⟨hx, hb, hml, hown, hts⟩ hK hA hZ (c_X0_takeBytes l K D C a0 S0 A0 p1 p2 p3 p4 p5 z_1 fz_1) (cwV 5 hts gX5_feed_X0_takeBytes rfl rfl rfl (by decide +kernel) ⟨Nat.le_of_ble_eq_true rfl, Nat.le_of_ble_eq_true rfl⟩) 0 rfl rfl rfl rfl hl.1 rfl (Nat.le_of_ble_eq_true rfl) ⟨Nat.zero_le _, Nat.zero_le _⟩ (by simp only [List.append_assoc, List.append_nil, List.nil_append]) (by simp only [List.append_assoc, List.append_nil, List.nil_append]) hP hD hS dX5_feed_11 (fun H locs hP hD hS => ?_)
  cases hF
  exact hret _ _ _ _ dX5_feed_14 rfl hP hD hS
abbrev rmX5_fault : Room := { frames := 1, cells := 0, slots := 0, locals := 32 }
set_option maxRecDepth 100000 in
set_option maxHeartbeats 4000000 in
theorem c_X5_fault (l : Launch) (K : Kx) (D : va_G) (C : Nat → ClassId) (a5 : Nat → Nat) (S5 : Nat → Int32) (a0 : Nat → Nat) (a2 : Nat → Nat) (a3 : Nat → Nat) (a4 : Nat → Nat) (h5 : Nat) (d5 : Nat) (z : Int32) (hF : F_X5_fault S5 = some z) : MetI l yX5_fault wsX5_fault rmX5_fault K D (tyV C) (wX5 C a5 a0 a2 a3 a4 h5 d5 S5) [.ref (a5 0)] (wX5 C a5 a0 a2 a3 a4 h5 d5 S5) z := by
  refine met_int (cc := cX5_fault) (maxL := 1) (ty := .int) (by decide +kernel) rfl (Nat.le_of_ble_eq_true rfl) ?_
  intro p e s m below meth c A Q ls ⟨hx, hb, hml, hown, hts, hK, hA, hZ⟩ hP hD hS hl hret
  have hown : s.vm.findClass RX5 = some m.cls := hown
  have hiX5 : ∀ w ∈ u_ws RX5 TX5 8, w ∈ wsX5_fault := by decide +kernel
  have hl : lv_has ls 1 [(0, .ref (a5 0))] := hl
  unfold F_X5_fault at hF
  refine lv_aload_n hx hb dX5_fault_0 rfl (lv_at hl 0 rfl) ?_
  refine va_get (D := D) (ci := 5) (v := .int (S5 7)) (C := RX5) (T := TX5) (N := 8) hx hb hts hiX5 hown hK hP 0 rfl rfl 7 (by decide) (hts (.fieldLink RX5 54 "PanoramaHouse" "faultPlace" "I") (by decide +kernel)) (fun _ h9 => h9) rfl dX5_fault_1 ?_
  cases hF
  exact hret _ _ _ _ dX5_fault_4 rfl hP hD hS
abbrev rmX5_room : Room := { frames := 2, cells := 0, slots := 0, locals := 53 }
set_option maxRecDepth 100000 in
set_option maxHeartbeats 4000000 in
theorem c_X5_room (l : Launch) (K : Kx) (D : va_G) (C : Nat → ClassId) (a5 : Nat → Nat) (S5 : Nat → Int32) (a3 : Nat → Nat) (S3 : Nat → Int32) (A3 : Nat → Nat → Int32) (a0 : Nat → Nat) (a2 : Nat → Nat) (a4 : Nat → Nat) (h5 : Nat) (d5 : Nat) (p1 : Int32) (z : Int32 × (Nat → Int32)) (hF : F_X5_room S3 p1 = some z) : MetI l yX5_room wsX5_room rmX5_room K D (tyV C) (wX5 C a5 a0 a2 a3 a4 h5 d5 S5 ++ wX3 C a3 S3 A3) [.ref (a5 0), .int p1] (wX5 C a5 a0 a2 a3 a4 h5 d5 S5 ++ wX3 C a3 z.2 A3) z.1 := by
  refine met_int (cc := cX5_room) (maxL := 2) (ty := .boolean) (by decide +kernel) rfl (Nat.le_of_ble_eq_true rfl) ?_
  intro p e s m below meth c A Q ls ⟨hx, hb, hml, hown, hts, hK, hA, hZ⟩ hP hD hS hl hret
  have hown : s.vm.findClass RX5 = some m.cls := hown
  have hiX5 : ∀ w ∈ u_ws RX5 TX5 8, w ∈ wsX5_room := by decide +kernel
  have hl : lv_has ls 2 [(0, .ref (a5 0)), (1, .int p1)] := hl
  unfold F_X5_room at hF
  refine lv_aload_n hx hb dX5_room_0 rfl (lv_at hl 0 rfl) ?_
  refine va_get (D := D) (ci := 5) (v := .ref (a3 0)) (C := RX5) (T := TX5) (N := 8) hx hb hts hiX5 hown hK hP 0 rfl rfl 4 (by decide) (hts (.fieldLink RX5 41 "PanoramaHouse" "platform" "LPanoramaHouse$Platform;") (by decide +kernel)) (fun _ h9 => h9) rfl dX5_room_1 ?_
  refine lv_iload_n hx hb dX5_room_4 rfl (lv_at hl 1 rfl) ?_
  obtain ⟨z_1, fz_1, hF⟩ := bd_at hF
  refine callV_int (wX5 C a5 a0 a2 a3 a4 h5 d5 S5) ([]) (w' := wX5 C a5 a0 a2 a3 a4 h5 d5 S5 ++ wX3 C a3 z_1.2 A3) (As := [.int p1]) (rest := []) ⟨hx, hb, hml, hown, hts⟩ hK hA hZ (c_X3_setRoom l K D C a3 S3 A3 p1 z_1 fz_1) (cwV 1 hts gX5_room_X3_setRoom rfl rfl rfl (by decide +kernel) ⟨Nat.le_of_ble_eq_true rfl, Nat.le_of_ble_eq_true rfl⟩) 0 rfl rfl rfl rfl hl.1 rfl (Nat.le_of_ble_eq_true rfl) ⟨Nat.zero_le _, Nat.zero_le _⟩ (by simp only [List.append_assoc, List.append_nil, List.nil_append]) (by simp only [List.append_assoc, List.append_nil, List.nil_append]) hP hD hS dX5_room_5 (fun H locs hP hD hS => ?_)
  obtain ⟨b_2, hF⟩ := zb_at hF
  cases hF
  exact hret _ _ _ _ dX5_room_8 b_2 hP hD hS
abbrev rmX5_minute : Room := { frames := 3, cells := 0, slots := 0, locals := 78 }
set_option maxRecDepth 100000 in
set_option maxHeartbeats 4000000 in
theorem c_X5_minute (l : Launch) (K : Kx) (D : va_G) (C : Nat → ClassId) (a5 : Nat → Nat) (S5 : Nat → Int32) (a3 : Nat → Nat) (S3 : Nat → Int32) (A3 : Nat → Nat → Int32) (a0 : Nat → Nat) (a2 : Nat → Nat) (a4 : Nat → Nat) (h5 : Nat) (d5 : Nat) (p1 : Int32) (z : Int32 × (Nat → Int32) × (Nat → Nat → Int32)) (hF : F_X5_minute S3 A3 p1 = some z) : MetI l yX5_minute wsX5_minute rmX5_minute K D (tyV C) (wX5 C a5 a0 a2 a3 a4 h5 d5 S5 ++ wX3 C a3 S3 A3) [.ref (a5 0), .int p1] (wX5 C a5 a0 a2 a3 a4 h5 d5 S5 ++ wX3 C a3 z.2.1 z.2.2) z.1 := by
  refine met_int (cc := cX5_minute) (maxL := 2) (ty := .int) (by decide +kernel) rfl (Nat.le_of_ble_eq_true rfl) ?_
  intro p e s m below meth c A Q ls ⟨hx, hb, hml, hown, hts, hK, hA, hZ⟩ hP hD hS hl hret
  have hown : s.vm.findClass RX5 = some m.cls := hown
  have hiX5 : ∀ w ∈ u_ws RX5 TX5 8, w ∈ wsX5_minute := by decide +kernel
  have hl : lv_has ls 2 [(0, .ref (a5 0)), (1, .int p1)] := hl
  unfold F_X5_minute at hF
  refine lv_aload_n hx hb dX5_minute_0 rfl (lv_at hl 0 rfl) ?_
  refine va_get (D := D) (ci := 5) (v := .ref (a3 0)) (C := RX5) (T := TX5) (N := 8) hx hb hts hiX5 hown hK hP 0 rfl rfl 4 (by decide) (hts (.fieldLink RX5 41 "PanoramaHouse" "platform" "LPanoramaHouse$Platform;") (by decide +kernel)) (fun _ h9 => h9) rfl dX5_minute_1 ?_
  refine lv_iload_n hx hb dX5_minute_4 rfl (lv_at hl 1 rfl) ?_
  obtain ⟨z_1, fz_1, hF⟩ := bd_at hF
  refine callV_int (wX5 C a5 a0 a2 a3 a4 h5 d5 S5) ([]) (w' := wX5 C a5 a0 a2 a3 a4 h5 d5 S5 ++ wX3 C a3 z_1.2.1 z_1.2.2) (As := [.int p1]) (rest := []) ⟨hx, hb, hml, hown, hts⟩ hK hA hZ (c_X3_passMinute l K D C a3 S3 A3 p1 z_1 fz_1) (cwV 1 hts gX5_minute_X3_passMinute rfl rfl rfl (by decide +kernel) ⟨Nat.le_of_ble_eq_true rfl, Nat.le_of_ble_eq_true rfl⟩) 0 rfl rfl rfl rfl hl.1 rfl (Nat.le_of_ble_eq_true rfl) ⟨Nat.zero_le _, Nat.zero_le _⟩ (by simp only [List.append_assoc, List.append_nil, List.nil_append]) (by simp only [List.append_assoc, List.append_nil, List.nil_append]) hP hD hS dX5_minute_5 (fun H locs hP hD hS => ?_)
  cases hF
  exact hret _ _ _ _ dX5_minute_8 rfl hP hD hS
abbrev rmX5_crowd : Room := { frames := 2, cells := 0, slots := 0, locals := 53 }
set_option maxRecDepth 100000 in
set_option maxHeartbeats 4000000 in
theorem c_X5_crowd (l : Launch) (K : Kx) (D : va_G) (C : Nat → ClassId) (a5 : Nat → Nat) (S5 : Nat → Int32) (a3 : Nat → Nat) (S3 : Nat → Int32) (A3 : Nat → Nat → Int32) (a0 : Nat → Nat) (a2 : Nat → Nat) (a4 : Nat → Nat) (h5 : Nat) (d5 : Nat) (p1 : Int32) (z : Int32) (hF : F_X5_crowd S3 p1 = some z) : MetI l yX5_crowd wsX5_crowd rmX5_crowd K D (tyV C) (wX5 C a5 a0 a2 a3 a4 h5 d5 S5 ++ wX3 C a3 S3 A3) [.ref (a5 0), .int p1] (wX5 C a5 a0 a2 a3 a4 h5 d5 S5 ++ wX3 C a3 S3 A3) z := by
  refine met_int (cc := cX5_crowd) (maxL := 2) (ty := .int) (by decide +kernel) rfl (Nat.le_of_ble_eq_true rfl) ?_
  intro p e s m below meth c A Q ls ⟨hx, hb, hml, hown, hts, hK, hA, hZ⟩ hP hD hS hl hret
  have hown : s.vm.findClass RX5 = some m.cls := hown
  have hiX5 : ∀ w ∈ u_ws RX5 TX5 8, w ∈ wsX5_crowd := by decide +kernel
  have hl : lv_has ls 2 [(0, .ref (a5 0)), (1, .int p1)] := hl
  unfold F_X5_crowd at hF
  refine lv_aload_n hx hb dX5_crowd_0 rfl (lv_at hl 0 rfl) ?_
  refine va_get (D := D) (ci := 5) (v := .ref (a3 0)) (C := RX5) (T := TX5) (N := 8) hx hb hts hiX5 hown hK hP 0 rfl rfl 4 (by decide) (hts (.fieldLink RX5 41 "PanoramaHouse" "platform" "LPanoramaHouse$Platform;") (by decide +kernel)) (fun _ h9 => h9) rfl dX5_crowd_1 ?_
  refine lv_iload_n hx hb dX5_crowd_4 rfl (lv_at hl 1 rfl) ?_
  obtain ⟨z_1, fz_1, hF⟩ := bd_at hF
  refine callV_int (wX5 C a5 a0 a2 a3 a4 h5 d5 S5) ([]) (w' := wX5 C a5 a0 a2 a3 a4 h5 d5 S5 ++ wX3 C a3 S3 A3) (As := [.int p1]) (rest := []) ⟨hx, hb, hml, hown, hts⟩ hK hA hZ (c_X3_tell l K D C a3 S3 A3 p1 z_1 fz_1) (cwV 1 hts gX5_crowd_X3_tell rfl rfl rfl (by decide +kernel) ⟨Nat.le_of_ble_eq_true rfl, Nat.le_of_ble_eq_true rfl⟩) 0 rfl rfl rfl rfl hl.1 rfl (Nat.le_of_ble_eq_true rfl) ⟨Nat.zero_le _, Nat.zero_le _⟩ (by simp only [List.append_assoc, List.append_nil, List.nil_append]) (by simp only [List.append_assoc, List.append_nil, List.nil_append]) hP hD hS dX5_crowd_5 (fun H locs hP hD hS => ?_)
  cases hF
  exact hret _ _ _ _ dX5_crowd_8 rfl hP hD hS
abbrev rmX5_count : Room := { frames := 2, cells := 0, slots := 0, locals := 54 }
set_option maxRecDepth 100000 in
set_option maxHeartbeats 4000000 in
theorem c_X5_count (l : Launch) (K : Kx) (D : va_G) (C : Nat → ClassId) (a5 : Nat → Nat) (S5 : Nat → Int32) (a2 : Nat → Nat) (S2 : Nat → Int32) (A2 : Nat → Nat → Int32) (a4 : Nat → Nat) (A4 : Nat → Nat → Int32) (a0 : Nat → Nat) (S0 : Nat → Int32) (A0 : Nat → Nat → Int32) (a3 : Nat → Nat) (h5 : Nat) (d5 : Nat) (p1 : Int32) (z : Int32) (hF : F_X5_count S5 S2 A2 A4 S0 p1 = some z) : MetI l yX5_count wsX5_count rmX5_count K D (tyV C) (wX5 C a5 a0 a2 a3 a4 h5 d5 S5 ++ wX2 C a2 a4 S2 A2 ++ wX4 C a4 A4 ++ wX0 C a0 S0 A0) [.ref (a5 0), .int p1] (wX5 C a5 a0 a2 a3 a4 h5 d5 S5 ++ wX2 C a2 a4 S2 A2 ++ wX4 C a4 A4 ++ wX0 C a0 S0 A0) z := by
  refine met_int (cc := cX5_count) (maxL := 2) (ty := .int) (by decide +kernel) rfl (Nat.le_of_ble_eq_true rfl) ?_
  intro p e s m below meth c A Q ls ⟨hx, hb, hml, hown, hts, hK, hA, hZ⟩ hP hD hS hl hret
  have hown : s.vm.findClass RX5 = some m.cls := hown
  have hiX5 : ∀ w ∈ u_ws RX5 TX5 8, w ∈ wsX5_count := by decide +kernel
  have hl : lv_has ls 2 [(0, .ref (a5 0)), (1, .int p1)] := hl
  unfold F_X5_count at hF
  refine lv_iload_n hx hb dX5_count_0 rfl (lv_at hl 1 rfl) ?_
  rcases Decidable.em (p1 = 0) with c_1 | c_1
  · have hF := ifp hF c_1
    refine lv_tableIn (tgt := 40) hx hb dX5_count_1 (by rw [c_1]; decide) (by rw [c_1]; decide) (by rw [c_1]; rfl) (by decide) ?_
    refine lv_aload_n hx hb dX5_count_40 rfl (lv_at hl 0 rfl) ?_
    refine va_get (D := D) (ci := 5) (v := .ref (a2 0)) (C := RX5) (T := TX5) (N := 8) hx hb hts hiX5 hown hK hP 0 rfl rfl 1 (by decide) (hts (.fieldLink RX5 21 "PanoramaHouse" "paintwork" "LPanoramaHouse$Paintwork;") (by decide +kernel)) (fun _ h9 => h9) rfl dX5_count_41 ?_
    obtain ⟨z_2, fz_2, hF⟩ := bd_at hF
    refine callV_int (wX5 C a5 a0 a2 a3 a4 h5 d5 S5) (wX4 C a4 A4 ++ wX0 C a0 S0 A0) (w' := wX5 C a5 a0 a2 a3 a4 h5 d5 S5 ++ wX2 C a2 a4 S2 A2 ++ wX4 C a4 A4 ++ wX0 C a0 S0 A0) (As := []) (rest := []) ⟨hx, hb, hml, hown, hts⟩ hK hA hZ (c_X2_today l K D C a2 S2 A2 a4 z_2 fz_2) (cwV 0 hts gX5_count_X2_today rfl rfl rfl (by decide +kernel) ⟨Nat.le_of_ble_eq_true rfl, Nat.le_of_ble_eq_true rfl⟩) 0 rfl rfl rfl rfl hl.1 rfl (Nat.le_of_ble_eq_true rfl) ⟨Nat.zero_le _, Nat.zero_le _⟩ (by simp only [List.append_assoc, List.append_nil, List.nil_append]) (by simp only [List.append_assoc, List.append_nil, List.nil_append]) hP hD hS dX5_count_44 (fun H locs hP hD hS => ?_)
    cases hF
    exact hret _ _ _ _ dX5_count_47 rfl hP hD hS
  · have hF := ifn hF c_1
    rcases Decidable.em (p1 = 1) with c_3 | c_3
    · have hF := ifp hF c_3
      refine lv_tableIn (tgt := 48) hx hb dX5_count_1 (by rw [c_3]; decide) (by rw [c_3]; decide) (by rw [c_3]; rfl) (by decide) ?_
      refine lv_aload_n hx hb dX5_count_48 rfl (lv_at hl 0 rfl) ?_
      refine va_get (D := D) (ci := 5) (v := .ref (a2 0)) (C := RX5) (T := TX5) (N := 8) hx hb hts hiX5 hown hK hP 0 rfl rfl 1 (by decide) (hts (.fieldLink RX5 21 "PanoramaHouse" "paintwork" "LPanoramaHouse$Paintwork;") (by decide +kernel)) (fun _ h9 => h9) rfl dX5_count_49 ?_
      obtain ⟨z_4, fz_4, hF⟩ := bd_at hF
      refine callV_int (wX5 C a5 a0 a2 a3 a4 h5 d5 S5) (wX4 C a4 A4 ++ wX0 C a0 S0 A0) (w' := wX5 C a5 a0 a2 a3 a4 h5 d5 S5 ++ wX2 C a2 a4 S2 A2 ++ wX4 C a4 A4 ++ wX0 C a0 S0 A0) (As := []) (rest := []) ⟨hx, hb, hml, hown, hts⟩ hK hA hZ (c_X2_gangs l K D C a2 S2 A2 a4 z_4 fz_4) (cwV 0 hts gX5_count_X2_gangs rfl rfl rfl (by decide +kernel) ⟨Nat.le_of_ble_eq_true rfl, Nat.le_of_ble_eq_true rfl⟩) 0 rfl rfl rfl rfl hl.1 rfl (Nat.le_of_ble_eq_true rfl) ⟨Nat.zero_le _, Nat.zero_le _⟩ (by simp only [List.append_assoc, List.append_nil, List.nil_append]) (by simp only [List.append_assoc, List.append_nil, List.nil_append]) hP hD hS dX5_count_52 (fun H locs hP hD hS => ?_)
      cases hF
      exact hret _ _ _ _ dX5_count_55 rfl hP hD hS
    · have hF := ifn hF c_3
      rcases Decidable.em (p1 = 2) with c_5 | c_5
      · have hF := ifp hF c_5
        refine lv_tableIn (tgt := 56) hx hb dX5_count_1 (by rw [c_5]; decide) (by rw [c_5]; decide) (by rw [c_5]; rfl) (by decide) ?_
        refine lv_aload_n hx hb dX5_count_56 rfl (lv_at hl 0 rfl) ?_
        refine va_get (D := D) (ci := 5) (v := .int (S5 6)) (C := RX5) (T := TX5) (N := 8) hx hb hts hiX5 hown hK hP 0 rfl rfl 6 (by decide) (hts (.fieldLink RX5 50 "PanoramaHouse" "hallsMade" "I") (by decide +kernel)) (fun _ h9 => h9) rfl dX5_count_57 ?_
        cases hF
        exact hret _ _ _ _ dX5_count_60 rfl hP hD hS
      · have hF := ifn hF c_5
        rcases Decidable.em (p1 = 3) with c_6 | c_6
        · have hF := ifp hF c_6
          refine lv_tableIn (tgt := 61) hx hb dX5_count_1 (by rw [c_6]; decide) (by rw [c_6]; decide) (by rw [c_6]; rfl) (by decide) ?_
          refine lv_aload_n hx hb dX5_count_61 rfl (lv_at hl 0 rfl) ?_
          refine va_get (D := D) (ci := 5) (v := .ref (a0 0)) (C := RX5) (T := TX5) (N := 8) hx hb hts hiX5 hown hK hP 0 rfl rfl 2 (by decide) (hts (.fieldLink RX5 28 "PanoramaHouse" "reader" "LPanoramaHouse$ContractReader;") (by decide +kernel)) (fun _ h9 => h9) rfl dX5_count_62 ?_
          obtain ⟨z_7, fz_7, hF⟩ := bd_at hF
          refine callV_int (wX5 C a5 a0 a2 a3 a4 h5 d5 S5 ++ wX2 C a2 a4 S2 A2 ++ wX4 C a4 A4) ([]) (w' := wX5 C a5 a0 a2 a3 a4 h5 d5 S5 ++ wX2 C a2 a4 S2 A2 ++ wX4 C a4 A4 ++ wX0 C a0 S0 A0) (As := []) (rest := []) ⟨hx, hb, hml, hown, hts⟩ hK hA hZ (c_X0_bytes l K D C a0 S0 A0 z_7 fz_7) (cwV 0 hts gX5_count_X0_bytes rfl rfl rfl (by decide +kernel) ⟨Nat.le_of_ble_eq_true rfl, Nat.le_of_ble_eq_true rfl⟩) 0 rfl rfl rfl rfl hl.1 rfl (Nat.le_of_ble_eq_true rfl) ⟨Nat.zero_le _, Nat.zero_le _⟩ (by simp only [List.append_assoc, List.append_nil, List.nil_append]) (by simp only [List.append_assoc, List.append_nil, List.nil_append]) hP hD hS dX5_count_65 (fun H locs hP hD hS => ?_)
          cases hF
          exact hret _ _ _ _ dX5_count_68 rfl hP hD hS
        · have hF := ifn hF c_6
          rcases Decidable.em (p1 = 4) with c_8 | c_8
          · have hF := ifp hF c_8
            refine lv_tableIn (tgt := 69) hx hb dX5_count_1 (by rw [c_8]; decide) (by rw [c_8]; decide) (by rw [c_8]; rfl) (by decide) ?_
            refine lv_aload_n hx hb dX5_count_69 rfl (lv_at hl 0 rfl) ?_
            refine va_get (D := D) (ci := 5) (v := .ref (a4 0)) (C := RX5) (T := TX5) (N := 8) hx hb hts hiX5 hown hK hP 0 rfl rfl 0 (by decide) (hts (.fieldLink RX5 10 "PanoramaHouse" "round" "LPanoramaHouse$Round;") (by decide +kernel)) (fun _ h9 => h9) rfl dX5_count_70 ?_
            obtain ⟨z_9, fz_9, hF⟩ := bd_at hF
            refine callV_int (wX5 C a5 a0 a2 a3 a4 h5 d5 S5 ++ wX2 C a2 a4 S2 A2) (wX0 C a0 S0 A0) (w' := wX5 C a5 a0 a2 a3 a4 h5 d5 S5 ++ wX2 C a2 a4 S2 A2 ++ wX4 C a4 A4 ++ wX0 C a0 S0 A0) (As := []) (rest := []) ⟨hx, hb, hml, hown, hts⟩ hK hA hZ (c_X4_colouredPlaces l K D C a4 A4 z_9 fz_9) (cwV 0 hts gX5_count_X4_colouredPlaces rfl rfl rfl (by decide +kernel) ⟨Nat.le_of_ble_eq_true rfl, Nat.le_of_ble_eq_true rfl⟩) 0 rfl rfl rfl rfl hl.1 rfl (Nat.le_of_ble_eq_true rfl) ⟨Nat.zero_le _, Nat.zero_le _⟩ (by simp only [List.append_assoc, List.append_nil, List.nil_append]) (by simp only [List.append_assoc, List.append_nil, List.nil_append]) hP hD hS dX5_count_73 (fun H locs hP hD hS => ?_)
            cases hF
            exact hret _ _ _ _ dX5_count_76 rfl hP hD hS
          · have hF := ifn hF c_8
            rcases Decidable.em (p1 = 5) with c_10 | c_10
            · have hF := ifp hF c_10
              refine lv_tableIn (tgt := 77) hx hb dX5_count_1 (by rw [c_10]; decide) (by rw [c_10]; decide) (by rw [c_10]; rfl) (by decide) ?_
              refine lv_aload_n hx hb dX5_count_77 rfl (lv_at hl 0 rfl) ?_
              refine va_get (D := D) (ci := 5) (v := .ref (a2 0)) (C := RX5) (T := TX5) (N := 8) hx hb hts hiX5 hown hK hP 0 rfl rfl 1 (by decide) (hts (.fieldLink RX5 21 "PanoramaHouse" "paintwork" "LPanoramaHouse$Paintwork;") (by decide +kernel)) (fun _ h9 => h9) rfl dX5_count_78 ?_
              obtain ⟨z_11, fz_11, hF⟩ := bd_at hF
              refine callV_int (wX5 C a5 a0 a2 a3 a4 h5 d5 S5) (wX4 C a4 A4 ++ wX0 C a0 S0 A0) (w' := wX5 C a5 a0 a2 a3 a4 h5 d5 S5 ++ wX2 C a2 a4 S2 A2 ++ wX4 C a4 A4 ++ wX0 C a0 S0 A0) (As := []) (rest := []) ⟨hx, hb, hml, hown, hts⟩ hK hA hZ (c_X2_finishedSquares l K D C a2 S2 A2 a4 z_11 fz_11) (cwV 0 hts gX5_count_X2_finishedSquares rfl rfl rfl (by decide +kernel) ⟨Nat.le_of_ble_eq_true rfl, Nat.le_of_ble_eq_true rfl⟩) 0 rfl rfl rfl rfl hl.1 rfl (Nat.le_of_ble_eq_true rfl) ⟨Nat.zero_le _, Nat.zero_le _⟩ (by simp only [List.append_assoc, List.append_nil, List.nil_append]) (by simp only [List.append_assoc, List.append_nil, List.nil_append]) hP hD hS dX5_count_81 (fun H locs hP hD hS => ?_)
              cases hF
              exact hret _ _ _ _ dX5_count_84 rfl hP hD hS
            · have hF := ifn hF c_10
              have ic_1 : (p1).toInt ≠ 0 := fun h => c_1 (Int32.toInt_inj.mp (h.trans (by decide)))
              have ic_3 : (p1).toInt ≠ 1 := fun h => c_3 (Int32.toInt_inj.mp (h.trans (by decide)))
              have ic_5 : (p1).toInt ≠ 2 := fun h => c_5 (Int32.toInt_inj.mp (h.trans (by decide)))
              have ic_6 : (p1).toInt ≠ 3 := fun h => c_6 (Int32.toInt_inj.mp (h.trans (by decide)))
              have ic_8 : (p1).toInt ≠ 4 := fun h => c_8 (Int32.toInt_inj.mp (h.trans (by decide)))
              have ic_10 : (p1).toInt ≠ 5 := fun h => c_10 (Int32.toInt_inj.mp (h.trans (by decide)))
              refine lv_tableOut (tgt := 85) hx hb dX5_count_1 (by omega) (by decide) ?_
              refine lv_iconst (v := -1) hx hb dX5_count_85 (by decide) ?_
              cases hF
              exact hret _ _ _ _ dX5_count_86 rfl hP hD hS
