abbrev rmX6_isIn : Room := { frames := 1, cells := 0, slots := 0, locals := 32 }
set_option maxRecDepth 100000 in
set_option maxHeartbeats 4000000 in
theorem c_X6_isIn (l : Launch) (K : Kx) (D : va_G) (C : Nat → ClassId) (p1 : Int32) (p2 : Int32) (p3 : Int32) (z : Int32) (hF : F_X6_isIn p1 p2 p3 = some z) : MetI l yX6_isIn wsX6_isIn rmX6_isIn K D (tyV C) (([] : va_W)) [.int p1, .int p2, .int p3] (([] : va_W)) z := by
  refine met_int (cc := cX6_isIn) (maxL := 3) (ty := .boolean) (by decide +kernel) rfl (Nat.le_of_ble_eq_true rfl) ?_
  intro p e s m below meth c A Q ls ⟨hx, hb, hml, hown, hts, hK, hA, hZ⟩ hP hD hS hl hret
  have hown : s.vm.findClass RX6 = some m.cls := hown
  have hl : lv_has ls 3 [(0, .int p1), (1, .int p2), (2, .int p3)] := hl
  unfold F_X6_isIn at hF
  refine lv_iload_n hx hb dX6_isIn_0 rfl (lv_at hl 0 rfl) ?_
  refine lv_iload_n hx hb dX6_isIn_1 rfl (lv_at hl 1 rfl) ?_
  refine lv_icmp_lt (tgt := 14) hx hb dX6_isIn_2 (by decide) (fun c_1 => ?_) (fun c_1 => ?_)
  · have hF := ifp hF c_1
    refine lv_iconst (v := 0) hx hb dX6_isIn_14 (by decide) ?_
    cases hF
    exact hret _ _ _ _ dX6_isIn_15 nb0 hP hD hS
  · have hF := ifn hF c_1
    refine lv_iload_n hx hb dX6_isIn_5 rfl (lv_at hl 0 rfl) ?_
    refine lv_iload_n hx hb dX6_isIn_6 rfl (lv_at hl 2 rfl) ?_
    refine lv_icmp_gt (tgt := 14) hx hb dX6_isIn_7 (by decide) (fun c_2 => ?_) (fun c_2 => ?_)
    · have hF := ifp hF c_2
      refine lv_iconst (v := 0) hx hb dX6_isIn_14 (by decide) ?_
      cases hF
      exact hret _ _ _ _ dX6_isIn_15 nb0 hP hD hS
    · have hF := ifn hF c_2
      refine lv_iconst (v := 1) hx hb dX6_isIn_10 (by decide) ?_
      refine lv_goto (tgt := 15) hx hb dX6_isIn_11 (by decide) ?_
      cases hF
      exact hret _ _ _ _ dX6_isIn_15 nb1 hP hD hS
abbrev rmX6_isMark : Room := { frames := 2, cells := 0, slots := 0, locals := 54 }
set_option maxRecDepth 100000 in
set_option maxHeartbeats 4000000 in
theorem c_X6_isMark (l : Launch) (K : Kx) (D : va_G) (C : Nat → ClassId) (p1 : Int32) (p2 : Int32) (p3 : Int32) (z : Int32) (hF : F_X6_isMark p1 p2 p3 = some z) : MetI l yX6_isMark wsX6_isMark rmX6_isMark K D (tyV C) (([] : va_W)) [.int p1, .int p2, .int p3] (([] : va_W)) z := by
  refine met_int (cc := cX6_isMark) (maxL := 3) (ty := .boolean) (by decide +kernel) rfl (Nat.le_of_ble_eq_true rfl) ?_
  intro p e s m below meth c A Q ls ⟨hx, hb, hml, hown, hts, hK, hA, hZ⟩ hP hD hS hl hret
  have hown : s.vm.findClass RX6 = some m.cls := hown
  have hl : lv_has ls 3 [(0, .int p1), (1, .int p2), (2, .int p3)] := hl
  unfold F_X6_isMark at hF
  refine lv_iload_n hx hb dX6_isMark_0 rfl (lv_at hl 0 rfl) ?_
  refine lv_iconst (v := 0) hx hb dX6_isMark_1 (by decide) ?_
  refine lv_bipush (v := 11) hx hb dX6_isMark_2 (by decide) ?_
  obtain ⟨z_1, fz_1, hF⟩ := bd_at hF
  refine callS_int (As := [.int p1, .int 0, .int 11]) (rest := []) ⟨hx, hb, hml, hown, hts⟩ hK hA hZ (c_X6_isIn l K D C p1 0 11 z_1 fz_1) (va_cwS 3 hts gX6_isMark_X6_isIn rfl rfl rfl (by decide +kernel) ⟨Nat.le_of_ble_eq_true rfl, Nat.le_of_ble_eq_true rfl⟩) rfl hl.1 rfl (Nat.le_of_ble_eq_true rfl) ⟨Nat.zero_le _, Nat.zero_le _⟩ hP hS dX6_isMark_4 (fun H locs hP hS => ?_)
  refine lv_if_eq (tgt := 34) hx hb dX6_isMark_7 (by decide) (fun c_2 => ?_) (fun c_2 => ?_)
  · have hF := ifp hF c_2
    refine lv_iconst (v := 0) hx hb dX6_isMark_34 (by decide) ?_
    cases hF
    exact hret _ _ _ _ dX6_isMark_35 nb0 hP hD hS
  · have hF := ifn hF c_2
    refine lv_iload_n hx hb dX6_isMark_10 rfl (lv_at hl 1 rfl) ?_
    refine lv_iconst (v := 0) hx hb dX6_isMark_11 (by decide) ?_
    refine lv_bipush (v := 39) hx hb dX6_isMark_12 (by decide) ?_
    obtain ⟨z_3, fz_3, hF⟩ := bd_at hF
    refine callS_int (As := [.int p2, .int 0, .int 39]) (rest := []) ⟨hx, hb, hml, hown, hts⟩ hK hA hZ (c_X6_isIn l K D C p2 0 39 z_3 fz_3) (va_cwS 3 hts gX6_isMark_X6_isIn rfl rfl rfl (by decide +kernel) ⟨Nat.le_of_ble_eq_true rfl, Nat.le_of_ble_eq_true rfl⟩) rfl hl.1 rfl (Nat.le_of_ble_eq_true rfl) ⟨Nat.zero_le _, Nat.zero_le _⟩ hP hS dX6_isMark_14 (fun H locs hP hS => ?_)
    refine lv_if_eq (tgt := 34) hx hb dX6_isMark_17 (by decide) (fun c_4 => ?_) (fun c_4 => ?_)
    · have hF := ifp hF c_4
      refine lv_iconst (v := 0) hx hb dX6_isMark_34 (by decide) ?_
      cases hF
      exact hret _ _ _ _ dX6_isMark_35 nb0 hP hD hS
    · have hF := ifn hF c_4
      refine lv_iload_n hx hb dX6_isMark_20 rfl (lv_at hl 2 rfl) ?_
      refine lv_iconst (v := 0) hx hb dX6_isMark_21 (by decide) ?_
      refine lv_bipush (v := 19) hx hb dX6_isMark_22 (by decide) ?_
      obtain ⟨z_5, fz_5, hF⟩ := bd_at hF
      refine callS_int (As := [.int p3, .int 0, .int 19]) (rest := []) ⟨hx, hb, hml, hown, hts⟩ hK hA hZ (c_X6_isIn l K D C p3 0 19 z_5 fz_5) (va_cwS 3 hts gX6_isMark_X6_isIn rfl rfl rfl (by decide +kernel) ⟨Nat.le_of_ble_eq_true rfl, Nat.le_of_ble_eq_true rfl⟩) rfl hl.1 rfl (Nat.le_of_ble_eq_true rfl) ⟨Nat.zero_le _, Nat.zero_le _⟩ hP hS dX6_isMark_24 (fun H locs hP hS => ?_)
      refine lv_if_eq (tgt := 34) hx hb dX6_isMark_27 (by decide) (fun c_6 => ?_) (fun c_6 => ?_)
      · have hF := ifp hF c_6
        refine lv_iconst (v := 0) hx hb dX6_isMark_34 (by decide) ?_
        cases hF
        exact hret _ _ _ _ dX6_isMark_35 nb0 hP hD hS
      · have hF := ifn hF c_6
        refine lv_iconst (v := 1) hx hb dX6_isMark_30 (by decide) ?_
        refine lv_goto (tgt := 35) hx hb dX6_isMark_31 (by decide) ?_
        cases hF
        exact hret _ _ _ _ dX6_isMark_35 nb1 hP hD hS
abbrev rmX6_puts : Room := { frames := 1, cells := 0, slots := 0, locals := 32 }
set_option maxRecDepth 100000 in
set_option maxHeartbeats 4000000 in
theorem c_X6_puts (l : Launch) (K : Kx) (D : va_G) (C : Nat → ClassId) (a6 : Nat → Nat) (S6 : Nat → Int32) (A6 : Nat → Nat → Int32) (G6 : Nat → Nat → Int64) (p1 : Int32) (p2 : Int32) (p3 : Int32) (p4 : Int32) (z : (Nat → Nat → Int32)) (hF : F_X6_puts A6 p1 p2 p3 p4 = some z) : MetV l yX6_puts wsX6_puts rmX6_puts K D (tyV C) (wX6 C a6 S6 A6 G6) [.ref (a6 0), .int p1, .int p2, .int p3, .int p4] (wX6 C a6 S6 z G6) := by
  refine met_void (cc := cX6_puts) (maxL := 5) (by decide +kernel) rfl (Nat.le_of_ble_eq_true rfl) ?_
  intro p e s m below meth c A Q ls ⟨hx, hb, hml, hown, hts, hK, hA, hZ⟩ hP hD hS hl hret
  have hown : s.vm.findClass RX6 = some m.cls := hown
  have hiX6 : ∀ w ∈ u_ws RX6 TX6 42, w ∈ wsX6_puts := by decide +kernel
  have hl : lv_has ls 5 [(0, .ref (a6 0)), (1, .int p1), (2, .int p2), (3, .int p3), (4, .int p4)] := hl
  unfold F_X6_puts at hF
  refine lv_aload_n hx hb dX6_puts_0 rfl (lv_at hl 0 rfl) ?_
  refine va_get (D := D) (ci := 6) (v := .ref (a6 1)) (C := RX6) (T := TX6) (N := 42) hx hb hts hiX6 hown hK hP 0 rfl rfl 0 (by decide) (hts (.fieldLink RX6 7 "PanoramaHouseModel" "marks" "[B") (by decide +kernel)) (fun _ h9 => h9) rfl dX6_puts_1 ?_
  refine lv_iload_n hx hb dX6_puts_4 rfl (lv_at hl 1 rfl) ?_
  refine lv_bipush (v := 40) hx hb dX6_puts_5 (by decide) ?_
  refine lv_imul hx hb dX6_puts_7 ?_
  refine lv_iload_n hx hb dX6_puts_8 rfl (lv_at hl 2 rfl) ?_
  refine lv_iadd hx hb dX6_puts_9 ?_
  refine lv_bipush (v := 20) hx hb dX6_puts_10 (by decide) ?_
  refine lv_imul hx hb dX6_puts_12 ?_
  refine lv_iload_n hx hb dX6_puts_13 rfl (lv_at hl 3 rfl) ?_
  refine lv_iadd hx hb dX6_puts_14 ?_
  refine lv_iload hx hb dX6_puts_15 (lv_at hl 4 rfl) ?_
  refine lv_i2b (v := (p4).toInt8.toInt32) hx hb dX6_puts_17 rfl ?_
  obtain ⟨h_1, hF⟩ := ix_at hF
  refine va_bast hx hb hK hP hD hS 1 1 rfl rfl h_1 dX6_puts_18 (fun H locs hP hD hS => ?_)
  obtain ⟨A6_2, eA6_2, hF⟩ := nm_ex hF
  have hP : va_P D vwCl (wX6 C a6 S6 A6_2 G6) H := by rw [eA6_2]; exact hP
  have hD : va_D A (wX6 C a6 S6 A6_2 G6) := by rw [eA6_2]; exact hD
  refine lv_aload_n hx hb dX6_puts_19 rfl (lv_at hl 0 rfl) ?_
  refine va_get (D := D) (ci := 6) (v := .ref (a6 3)) (C := RX6) (T := TX6) (N := 42) hx hb hts hiX6 hown hK hP 0 rfl rfl 2 (by decide) (hts (.fieldLink RX6 17 "PanoramaHouseModel" "isLaid" "[Z") (by decide +kernel)) (fun _ h9 => h9) rfl dX6_puts_20 ?_
  refine lv_iload_n hx hb dX6_puts_23 rfl (lv_at hl 1 rfl) ?_
  refine lv_iconst (v := 0) hx hb dX6_puts_24 (by decide) ?_
  obtain ⟨h_3, hF⟩ := ix_at hF
  refine va_zast hx hb hK hP hD hS 3 2 rfl rfl h_3 dX6_puts_25 (fun H locs hP hD hS => ?_)
  obtain ⟨A6_4, eA6_4, hF⟩ := nm_ex hF
  have hP : va_P D vwCl (wX6 C a6 S6 A6_4 G6) H := by rw [eA6_4]; exact hP
  have hD : va_D A (wX6 C a6 S6 A6_4 G6) := by rw [eA6_4]; exact hD
  cases hF
  exact hret _ _ _ _ dX6_puts_26 hP hD hS
abbrev rmX6_mark : Room := { frames := 3, cells := 0, slots := 0, locals := 76 }
set_option maxRecDepth 100000 in
set_option maxHeartbeats 4000000 in
theorem c_X6_mark (l : Launch) (K : Kx) (D : va_G) (C : Nat → ClassId) (a6 : Nat → Nat) (S6 : Nat → Int32) (A6 : Nat → Nat → Int32) (G6 : Nat → Nat → Int64) (p1 : Int32) (p2 : Int32) (p3 : Int32) (p4 : Int32) (z : Int32 × (Nat → Nat → Int32)) (hF : F_X6_mark A6 p1 p2 p3 p4 = some z) : MetI l yX6_mark wsX6_mark rmX6_mark K D (tyV C) (wX6 C a6 S6 A6 G6) [.ref (a6 0), .int p1, .int p2, .int p3, .int p4] (wX6 C a6 S6 z.2 G6) z.1 := by
  refine met_int (cc := cX6_mark) (maxL := 5) (ty := .boolean) (by decide +kernel) rfl (Nat.le_of_ble_eq_true rfl) ?_
  intro p e s m below meth c A Q ls ⟨hx, hb, hml, hown, hts, hK, hA, hZ⟩ hP hD hS hl hret
  have hown : s.vm.findClass RX6 = some m.cls := hown
  have hl : lv_has ls 5 [(0, .ref (a6 0)), (1, .int p1), (2, .int p2), (3, .int p3), (4, .int p4)] := hl
  unfold F_X6_mark at hF
  refine lv_iload_n hx hb dX6_mark_0 rfl (lv_at hl 1 rfl) ?_
  refine lv_iload_n hx hb dX6_mark_1 rfl (lv_at hl 2 rfl) ?_
  refine lv_iload_n hx hb dX6_mark_2 rfl (lv_at hl 3 rfl) ?_
  obtain ⟨z_1, fz_1, hF⟩ := bd_at hF
  refine callS_int (As := [.int p1, .int p2, .int p3]) (rest := []) ⟨hx, hb, hml, hown, hts⟩ hK hA hZ (c_X6_isMark l K D C p1 p2 p3 z_1 fz_1) (va_cwS 3 hts gX6_mark_X6_isMark rfl rfl rfl (by decide +kernel) ⟨Nat.le_of_ble_eq_true rfl, Nat.le_of_ble_eq_true rfl⟩) rfl hl.1 rfl (Nat.le_of_ble_eq_true rfl) ⟨Nat.zero_le _, Nat.zero_le _⟩ hP hS dX6_mark_3 (fun H locs hP hS => ?_)
  refine lv_if_eq (tgt := 20) hx hb dX6_mark_6 (by decide) (fun c_2 => ?_) (fun c_2 => ?_)
  · have hF := ifp hF c_2
    refine lv_iconst (v := 0) hx hb dX6_mark_20 (by decide) ?_
    cases hF
    exact hret _ _ _ _ dX6_mark_21 nb0 hP hD hS
  · have hF := ifn hF c_2
    refine lv_iload hx hb dX6_mark_9 (lv_at hl 4 rfl) ?_
    refine lv_iconst (v := 0) hx hb dX6_mark_11 (by decide) ?_
    refine lv_bipush (v := 7) hx hb dX6_mark_12 (by decide) ?_
    obtain ⟨z_3, fz_3, hF⟩ := bd_at hF
    refine callS_int (As := [.int p4, .int 0, .int 7]) (rest := []) ⟨hx, hb, hml, hown, hts⟩ hK hA hZ (c_X6_isIn l K D C p4 0 7 z_3 fz_3) (va_cwS 3 hts gX6_mark_X6_isIn rfl rfl rfl (by decide +kernel) ⟨Nat.le_of_ble_eq_true rfl, Nat.le_of_ble_eq_true rfl⟩) rfl hl.1 rfl (Nat.le_of_ble_eq_true rfl) ⟨Nat.zero_le _, Nat.zero_le _⟩ hP hS dX6_mark_14 (fun H locs hP hS => ?_)
    refine lv_if_ne (tgt := 22) hx hb dX6_mark_17 (by decide) (fun c_4 => ?_) (fun c_4 => ?_)
    · have hF := ifn hF c_4
      refine lv_aload_n hx hb dX6_mark_22 rfl (lv_at hl 0 rfl) ?_
      refine lv_iload_n hx hb dX6_mark_23 rfl (lv_at hl 1 rfl) ?_
      refine lv_iload_n hx hb dX6_mark_24 rfl (lv_at hl 2 rfl) ?_
      refine lv_iload_n hx hb dX6_mark_25 rfl (lv_at hl 3 rfl) ?_
      refine lv_iload hx hb dX6_mark_26 (lv_at hl 4 rfl) ?_
      obtain ⟨z_5, fz_5, hF⟩ := bd_at hF
      refine callV_void ([]) ([]) (w' := wX6 C a6 S6 z_5 G6) (As := [.int p1, .int p2, .int p3, .int p4]) (rest := []) ⟨hx, hb, hml, hown, hts⟩ hK hA hZ (c_X6_puts l K D C a6 S6 A6 G6 p1 p2 p3 p4 z_5 fz_5) (cwV 4 hts gX6_mark_X6_puts rfl rfl rfl (by decide +kernel) ⟨Nat.le_of_ble_eq_true rfl, Nat.le_of_ble_eq_true rfl⟩) 0 rfl rfl rfl rfl hl.1 rfl (Nat.le_of_ble_eq_true rfl) ⟨Nat.zero_le _, Nat.zero_le _⟩ (by simp only [List.append_assoc, List.append_nil, List.nil_append]) (by simp only [List.append_assoc, List.append_nil, List.nil_append]) hP hD hS dX6_mark_28 (fun H locs hP hD hS => ?_)
      refine lv_iconst (v := 1) hx hb dX6_mark_31 (by decide) ?_
      cases hF
      exact hret _ _ _ _ dX6_mark_32 nb1 hP hD hS
    · have hF := ifp hF c_4
      refine lv_iconst (v := 0) hx hb dX6_mark_20 (by decide) ?_
      cases hF
      exact hret _ _ _ _ dX6_mark_21 nb0 hP hD hS
abbrev rmX6_line : Room := { frames := 3, cells := 0, slots := 0, locals := 76 }
set_option maxRecDepth 100000 in
set_option maxHeartbeats 4000000 in
theorem c_X6_line (l : Launch) (K : Kx) (D : va_G) (C : Nat → ClassId) (a6 : Nat → Nat) (S6 : Nat → Int32) (A6 : Nat → Nat → Int32) (G6 : Nat → Nat → Int64) (p1 : Int32) (p2 : Int32) (p3 : Int32) (p4 : Int32) (p5 : Int32) (p6 : Int32) (z : Int32 × (Nat → Nat → Int32)) (hF : F_X6_line A6 p1 p2 p3 p4 p5 p6 = some z) : MetI l yX6_line wsX6_line rmX6_line K D (tyV C) (wX6 C a6 S6 A6 G6) [.ref (a6 0), .int p1, .int p2, .int p3, .int p4, .int p5, .int p6] (wX6 C a6 S6 z.2 G6) z.1 := by
  refine met_int (cc := cX6_line) (maxL := 9) (ty := .int) (by decide +kernel) rfl (Nat.le_of_ble_eq_true rfl) ?_
  intro p e s m below meth c A Q ls ⟨hx, hb, hml, hown, hts, hK, hA, hZ⟩ hP hD hS hl hret
  have hown : s.vm.findClass RX6 = some m.cls := hown
  have hl : lv_has ls 9 [(0, .ref (a6 0)), (1, .int p1), (2, .int p2), (3, .int p3), (4, .int p4), (5, .int p5), (6, .int p6)] := hl
  unfold F_X6_line at hF
  obtain ⟨J121, eJ121, hF⟩ := nm_ex hF
  have bJ121 : ∀ (x7 : Int32) (A6 : Nat → Nat → Int32), J121 x7 A6 = some z → ∀ (H : Heap) (locs : List Loc) (ls : Array Slot), va_P D vwCl (wX6 C a6 S6 A6 G6) H → va_D A (wX6 C a6 S6 A6 G6) → va_S A s.heap H locs → lv_has ls 9 [(7, .int x7)] → W p l e rmX6_line s m ([.ref (a6 0), .int p1, .int p2, .int p3, .int p4, .int p5, .int p6] : List Value).toArray below meth c H locs 0 0 Q (F0 m 121 ls []) := by
    intro x7 A6 hF H locs ls hP hD hS hl
    rw [eJ121] at hF
    refine lv_iload hx hb dX6_line_121 (lv_at hl 0 rfl) ?_
    refine lv_iconst (v := 1) hx hb dX6_line_123 (by decide) ?_
    refine lv_iadd hx hb dX6_line_124 ?_
    cases hF
    exact hret _ _ _ _ dX6_line_125 rfl hP hD hS
  have bL55 : ∀ (n : Nat) (x1 : Int32) (x2 : Int32) (x3 : Int32) (x4 : Int32) (x5 : Int32) (x6 : Int32) (x7 : Int32) (x8 : Int32) (A6 : Nat → Nat → Int32), L_X6_line_55 J121 n x1 x2 x3 x4 x5 x6 x7 x8 A6 = some z → ∀ (H : Heap) (locs : List Loc) (ls : Array Slot), va_P D vwCl (wX6 C a6 S6 A6 G6) H → va_D A (wX6 C a6 S6 A6 G6) → va_S A s.heap H locs → lv_has ls 9 [(0, .ref (a6 0)), (1, .int x1), (2, .int x2), (3, .int x3), (4, .int x4), (5, .int x5), (6, .int x6), (7, .int x7), (8, .int x8)] → W p l e rmX6_line s m ([.ref (a6 0), .int p1, .int p2, .int p3, .int p4, .int p5, .int p6] : List Value).toArray below meth c H locs 0 0 Q (F0 m 55 ls []) := by
    intro n
    induction n with
    | zero => intro x1 x2 x3 x4 x5 x6 x7 x8 A6 hF; rw [L_X6_line_55.eq_1] at hF; cases hF
    | succ n ih55 =>
      intro x1 x2 x3 x4 x5 x6 x7 x8 A6 hF H locs ls hP hD hS hl
      rw [L_X6_line_55.eq_2] at hF
      obtain ⟨J109, eJ109, hF⟩ := nm_ex hF
      have bJ109 : ∀ (x1 : Int32) (x2 : Int32) (x3 : Int32) (x4 : Int32) (x5 : Int32) (x6 : Int32) (x7 : Int32) (x8 : Int32) (y0 : Int32) (y1 : Int32) (y2 : Int32) (y3 : Int32) (A6 : Nat → Nat → Int32), J109 x1 x2 x3 x4 x5 x6 x7 x8 y0 y1 y2 y3 A6 = some z → ∀ (H : Heap) (locs : List Loc) (ls : Array Slot), va_P D vwCl (wX6 C a6 S6 A6 G6) H → va_D A (wX6 C a6 S6 A6 G6) → va_S A s.heap H locs → lv_has ls 9 [(0, .ref (a6 0)), (1, .int x1), (2, .int x2), (3, .int x3), (4, .int x4), (5, .int x5), (6, .int x6), (7, .int x7), (8, .int x8)] → W p l e rmX6_line s m ([.ref (a6 0), .int p1, .int p2, .int p3, .int p4, .int p5, .int p6] : List Value).toArray below meth c H locs 0 0 Q (F0 m 109 ls [.int y0, .int y1, .int y2, .int y3, .ref (a6 0)]) := by
        intro x1 x2 x3 x4 x5 x6 x7 x8 y0 y1 y2 y3 A6 hF H locs ls hP hD hS hl
        rw [eJ109] at hF
        refine lv_iadd hx hb dX6_line_109 ?_
        refine lv_iload hx hb dX6_line_110 (lv_at hl 6 rfl) ?_
        obtain ⟨z_1, fz_1, hF⟩ := bd_at hF
        refine callV_void ([]) ([]) (w' := wX6 C a6 S6 z_1 G6) (As := [.int y3, .int y2, .int (y1 + y0), .int x6]) (rest := []) ⟨hx, hb, hml, hown, hts⟩ hK hA hZ (c_X6_puts l K D C a6 S6 A6 G6 y3 y2 (y1 + y0) x6 z_1 fz_1) (cwV 4 hts gX6_line_X6_puts rfl rfl rfl (by decide +kernel) ⟨Nat.le_of_ble_eq_true rfl, Nat.le_of_ble_eq_true rfl⟩) 0 rfl rfl rfl rfl hl.1 rfl (Nat.le_of_ble_eq_true rfl) ⟨Nat.zero_le _, Nat.zero_le _⟩ (by simp only [List.append_assoc, List.append_nil, List.nil_append]) (by simp only [List.append_assoc, List.append_nil, List.nil_append]) hP hD hS dX6_line_112 (fun H locs hP hD hS => ?_)
        obtain ⟨v_2, ev_2⟩ : ∃ y : Int32, y = x8 + 1 := ⟨_, rfl⟩
        have hF := nm_at hF ev_2
        refine lv_iinc (v := v_2) (lv' := [(8, .int v_2), (0, .ref (a6 0)), (1, .int x1), (2, .int x2), (3, .int x3), (4, .int x4), (5, .int x5), (6, .int x6), (7, .int x7)]) hx hb dX6_line_115 hl (k := 8) rfl (by rw [ev_2]; rfl) (by decide) rfl (fun ls hl => ?_)
        refine lv_goto (tgt := 55) hx hb dX6_line_118 (by decide) ?_
        exact ih55 x1 x2 x3 x4 x5 x6 x7 v_2 z_1 hF _ _ _ hP hD hS (lv_sub hl [1, 2, 3, 4, 5, 6, 7, 8, 0] rfl)
      obtain ⟨J86, eJ86, hF⟩ := nm_ex hF
      have bJ86 : ∀ (x1 : Int32) (x2 : Int32) (x3 : Int32) (x4 : Int32) (x5 : Int32) (x6 : Int32) (x7 : Int32) (x8 : Int32) (y0 : Int32) (y1 : Int32) (y2 : Int32) (A6 : Nat → Nat → Int32), J86 x1 x2 x3 x4 x5 x6 x7 x8 y0 y1 y2 A6 = some z → ∀ (H : Heap) (locs : List Loc) (ls : Array Slot), va_P D vwCl (wX6 C a6 S6 A6 G6) H → va_D A (wX6 C a6 S6 A6 G6) → va_S A s.heap H locs → lv_has ls 9 [(0, .ref (a6 0)), (1, .int x1), (2, .int x2), (3, .int x3), (4, .int x4), (5, .int x5), (6, .int x6), (7, .int x7), (8, .int x8)] → W p l e rmX6_line s m ([.ref (a6 0), .int p1, .int p2, .int p3, .int p4, .int p5, .int p6] : List Value).toArray below meth c H locs 0 0 Q (F0 m 86 ls [.int y0, .int y1, .int y2, .ref (a6 0)]) := by
        intro x1 x2 x3 x4 x5 x6 x7 x8 y0 y1 y2 A6 hF H locs ls hP hD hS hl
        rw [eJ86] at hF
        refine lv_iadd hx hb dX6_line_86 ?_
        refine lv_iload_n hx hb dX6_line_87 rfl (lv_at hl 3 rfl) ?_
        refine lv_iload hx hb dX6_line_88 (lv_at hl 7 rfl) ?_
        refine lv_if_ne (tgt := 97) hx hb dX6_line_90 (by decide) (fun c_3 => ?_) (fun c_3 => ?_)
        · have hF := ifn hF c_3
          refine lv_iload hx hb dX6_line_97 (lv_at hl 8 rfl) ?_
          refine lv_iload hx hb dX6_line_99 (lv_at hl 5 rfl) ?_
          refine lv_iload_n hx hb dX6_line_101 rfl (lv_at hl 3 rfl) ?_
          refine lv_isub hx hb dX6_line_102 ?_
          refine lv_imul hx hb dX6_line_103 ?_
          refine lv_iload hx hb dX6_line_104 (lv_at hl 7 rfl) ?_
          obtain ⟨z_4, fz_4, hF⟩ := bd_at hF
          refine callS_int (As := [.int (x8 * (x5 - x3)), .int x7]) (rest := [.int x3, .int (y1 + y0), .int y2, .ref (a6 0)]) ⟨hx, hb, hml, hown, hts⟩ hK hA hZ (c_J9_floorDiv_7cf53 l K D C (x8 * (x5 - x3)) x7 z_4 fz_4) (va_cwS 2 hts gX6_line_J9_floorDiv_7cf53 rfl rfl rfl (by decide +kernel) ⟨Nat.le_of_ble_eq_true rfl, Nat.le_of_ble_eq_true rfl⟩) rfl hl.1 rfl (Nat.le_of_ble_eq_true rfl) ⟨Nat.zero_le _, Nat.zero_le _⟩ hP hS dX6_line_106 (fun H locs hP hS => ?_)
          exact bJ109 x1 x2 x3 x4 x5 x6 x7 x8 z_4 x3 (y1 + y0) y2 A6 hF _ _ _ hP hD hS (lv_sub hl [0, 1, 2, 3, 4, 5, 6, 7, 8] rfl)
        · have hF := ifp hF c_3
          refine lv_iconst (v := 0) hx hb dX6_line_93 (by decide) ?_
          refine lv_goto (tgt := 109) hx hb dX6_line_94 (by decide) ?_
          exact bJ109 x1 x2 x3 x4 x5 x6 x7 x8 0 x3 (y1 + y0) y2 A6 hF _ _ _ hP hD hS (lv_sub hl [0, 1, 2, 3, 4, 5, 6, 7, 8] rfl)
      refine lv_iload hx hb dX6_line_55 (lv_at hl 8 rfl) ?_
      refine lv_iload hx hb dX6_line_57 (lv_at hl 7 rfl) ?_
      refine lv_icmp_gt (tgt := 121) hx hb dX6_line_59 (by decide) (fun c_5 => ?_) (fun c_5 => ?_)
      · have hF := ifp hF c_5
        exact bJ121 x7 A6 hF _ _ _ hP hD hS (lv_sub hl [7] rfl)
      · have hF := ifn hF c_5
        refine lv_aload_n hx hb dX6_line_62 rfl (lv_at hl 0 rfl) ?_
        refine lv_iload_n hx hb dX6_line_63 rfl (lv_at hl 1 rfl) ?_
        refine lv_iload_n hx hb dX6_line_64 rfl (lv_at hl 2 rfl) ?_
        refine lv_iload hx hb dX6_line_65 (lv_at hl 7 rfl) ?_
        refine lv_if_ne (tgt := 74) hx hb dX6_line_67 (by decide) (fun c_6 => ?_) (fun c_6 => ?_)
        · have hF := ifn hF c_6
          refine lv_iload hx hb dX6_line_74 (lv_at hl 8 rfl) ?_
          refine lv_iload hx hb dX6_line_76 (lv_at hl 4 rfl) ?_
          refine lv_iload_n hx hb dX6_line_78 rfl (lv_at hl 2 rfl) ?_
          refine lv_isub hx hb dX6_line_79 ?_
          refine lv_imul hx hb dX6_line_80 ?_
          refine lv_iload hx hb dX6_line_81 (lv_at hl 7 rfl) ?_
          obtain ⟨z_7, fz_7, hF⟩ := bd_at hF
          refine callS_int (As := [.int (x8 * (x4 - x2)), .int x7]) (rest := [.int x2, .int x1, .ref (a6 0)]) ⟨hx, hb, hml, hown, hts⟩ hK hA hZ (c_J9_floorDiv_7cf53 l K D C (x8 * (x4 - x2)) x7 z_7 fz_7) (va_cwS 2 hts gX6_line_J9_floorDiv_7cf53 rfl rfl rfl (by decide +kernel) ⟨Nat.le_of_ble_eq_true rfl, Nat.le_of_ble_eq_true rfl⟩) rfl hl.1 rfl (Nat.le_of_ble_eq_true rfl) ⟨Nat.zero_le _, Nat.zero_le _⟩ hP hS dX6_line_83 (fun H locs hP hS => ?_)
          exact bJ86 x1 x2 x3 x4 x5 x6 x7 x8 z_7 x2 x1 A6 hF _ _ _ hP hD hS (lv_sub hl [0, 1, 2, 3, 4, 5, 6, 7, 8] rfl)
        · have hF := ifp hF c_6
          refine lv_iconst (v := 0) hx hb dX6_line_70 (by decide) ?_
          refine lv_goto (tgt := 86) hx hb dX6_line_71 (by decide) ?_
          exact bJ86 x1 x2 x3 x4 x5 x6 x7 x8 0 x2 x1 A6 hF _ _ _ hP hD hS (lv_sub hl [0, 1, 2, 3, 4, 5, 6, 7, 8] rfl)
  refine lv_iload_n hx hb dX6_line_0 rfl (lv_at hl 1 rfl) ?_
  refine lv_iload_n hx hb dX6_line_1 rfl (lv_at hl 2 rfl) ?_
  refine lv_iload_n hx hb dX6_line_2 rfl (lv_at hl 3 rfl) ?_
  obtain ⟨z_8, fz_8, hF⟩ := bd_at hF
  refine callS_int (As := [.int p1, .int p2, .int p3]) (rest := []) ⟨hx, hb, hml, hown, hts⟩ hK hA hZ (c_X6_isMark l K D C p1 p2 p3 z_8 fz_8) (va_cwS 3 hts gX6_line_X6_isMark rfl rfl rfl (by decide +kernel) ⟨Nat.le_of_ble_eq_true rfl, Nat.le_of_ble_eq_true rfl⟩) rfl hl.1 rfl (Nat.le_of_ble_eq_true rfl) ⟨Nat.zero_le _, Nat.zero_le _⟩ hP hS dX6_line_3 (fun H locs hP hS => ?_)
  refine lv_if_eq (tgt := 31) hx hb dX6_line_6 (by decide) (fun c_9 => ?_) (fun c_9 => ?_)
  · have hF := ifp hF c_9
    refine lv_iconst (v := -1) hx hb dX6_line_31 (by decide) ?_
    cases hF
    exact hret _ _ _ _ dX6_line_32 rfl hP hD hS
  · have hF := ifn hF c_9
    refine lv_iload_n hx hb dX6_line_9 rfl (lv_at hl 1 rfl) ?_
    refine lv_iload hx hb dX6_line_10 (lv_at hl 4 rfl) ?_
    refine lv_iload hx hb dX6_line_12 (lv_at hl 5 rfl) ?_
    obtain ⟨z_10, fz_10, hF⟩ := bd_at hF
    refine callS_int (As := [.int p1, .int p4, .int p5]) (rest := []) ⟨hx, hb, hml, hown, hts⟩ hK hA hZ (c_X6_isMark l K D C p1 p4 p5 z_10 fz_10) (va_cwS 3 hts gX6_line_X6_isMark rfl rfl rfl (by decide +kernel) ⟨Nat.le_of_ble_eq_true rfl, Nat.le_of_ble_eq_true rfl⟩) rfl hl.1 rfl (Nat.le_of_ble_eq_true rfl) ⟨Nat.zero_le _, Nat.zero_le _⟩ hP hS dX6_line_14 (fun H locs hP hS => ?_)
    refine lv_if_eq (tgt := 31) hx hb dX6_line_17 (by decide) (fun c_11 => ?_) (fun c_11 => ?_)
    · have hF := ifp hF c_11
      refine lv_iconst (v := -1) hx hb dX6_line_31 (by decide) ?_
      cases hF
      exact hret _ _ _ _ dX6_line_32 rfl hP hD hS
    · have hF := ifn hF c_11
      refine lv_iload hx hb dX6_line_20 (lv_at hl 6 rfl) ?_
      refine lv_iconst (v := 0) hx hb dX6_line_22 (by decide) ?_
      refine lv_bipush (v := 7) hx hb dX6_line_23 (by decide) ?_
      obtain ⟨z_12, fz_12, hF⟩ := bd_at hF
      refine callS_int (As := [.int p6, .int 0, .int 7]) (rest := []) ⟨hx, hb, hml, hown, hts⟩ hK hA hZ (c_X6_isIn l K D C p6 0 7 z_12 fz_12) (va_cwS 3 hts gX6_line_X6_isIn rfl rfl rfl (by decide +kernel) ⟨Nat.le_of_ble_eq_true rfl, Nat.le_of_ble_eq_true rfl⟩) rfl hl.1 rfl (Nat.le_of_ble_eq_true rfl) ⟨Nat.zero_le _, Nat.zero_le _⟩ hP hS dX6_line_25 (fun H locs hP hS => ?_)
      refine lv_if_ne (tgt := 33) hx hb dX6_line_28 (by decide) (fun c_13 => ?_) (fun c_13 => ?_)
      · have hF := ifn hF c_13
        refine lv_iload hx hb dX6_line_33 (lv_at hl 4 rfl) ?_
        refine lv_iload_n hx hb dX6_line_35 rfl (lv_at hl 2 rfl) ?_
        refine lv_isub hx hb dX6_line_36 ?_
        refine va_mabs hx hb (hml.trans hl.1.symm) hown (hts (.methodLink RX6 113 Lib.Math.abs.name) (by decide +kernel)) (hts (.static Lib.Math.abs.name) (by decide +kernel)) (hts (.initialized "java/lang/Math") (by decide +kernel)) (hts (.code Lib.Math.abs.name Lib.Math.abs.code 1 (some .int)) (by decide +kernel)) (Nat.le_of_ble_eq_true rfl) (Nat.le_of_ble_eq_true rfl) (Nat.zero_le _) (Nat.zero_le _) dX6_line_37 ?_
        refine lv_topi (fun v_14 ev_14 => ?_)
        have hF := nm_at hF ev_14
        refine lv_iload hx hb dX6_line_40 (lv_at hl 5 rfl) ?_
        refine lv_iload_n hx hb dX6_line_42 rfl (lv_at hl 3 rfl) ?_
        refine lv_isub hx hb dX6_line_43 ?_
        refine va_mabs hx hb (hml.trans hl.1.symm) hown (hts (.methodLink RX6 113 Lib.Math.abs.name) (by decide +kernel)) (hts (.static Lib.Math.abs.name) (by decide +kernel)) (hts (.initialized "java/lang/Math") (by decide +kernel)) (hts (.code Lib.Math.abs.name Lib.Math.abs.code 1 (some .int)) (by decide +kernel)) (Nat.le_of_ble_eq_true rfl) (Nat.le_of_ble_eq_true rfl) (Nat.zero_le _) (Nat.zero_le _) dX6_line_44 ?_
        refine lv_topi (fun v_15 ev_15 => ?_)
        have hF := nm_at hF ev_15
        refine va_mmax hx hb (hml.trans hl.1.symm) hown (hts (.methodLink RX6 119 Lib.Math.max.name) (by decide +kernel)) (hts (.static Lib.Math.max.name) (by decide +kernel)) (hts (.initialized "java/lang/Math") (by decide +kernel)) (hts (.code Lib.Math.max.name Lib.Math.max.code 2 (some .int)) (by decide +kernel)) (Nat.le_of_ble_eq_true rfl) (Nat.le_of_ble_eq_true rfl) (Nat.zero_le _) (Nat.zero_le _) dX6_line_47 ?_
        refine lv_topi (fun v_16 ev_16 => ?_)
        have hF := nm_at hF ev_16
        refine lv_istore (lv' := [(7, .int v_16), (0, .ref (a6 0)), (1, .int p1), (2, .int p2), (3, .int p3), (4, .int p4), (5, .int p5), (6, .int p6)]) hx hb dX6_line_50 hl (by decide) rfl (fun ls hl => ?_)
        refine lv_iconst (v := 0) hx hb dX6_line_52 (by decide) ?_
        refine lv_istore (lv' := [(8, .int 0), (7, .int v_16), (0, .ref (a6 0)), (1, .int p1), (2, .int p2), (3, .int p3), (4, .int p4), (5, .int p5), (6, .int p6)]) hx hb dX6_line_53 hl (by decide) rfl (fun ls hl => ?_)
        exact bL55 FU p1 p2 p3 p4 p5 p6 v_16 0 A6 hF _ _ _ hP hD hS (lv_sub hl [2, 3, 4, 5, 6, 7, 8, 1, 0] rfl)
      · have hF := ifp hF c_13
        refine lv_iconst (v := -1) hx hb dX6_line_31 (by decide) ?_
        cases hF
        exact hret _ _ _ _ dX6_line_32 rfl hP hD hS
abbrev rmX6_column : Room := { frames := 2, cells := 0, slots := 0, locals := 54 }
set_option maxRecDepth 100000 in
set_option maxHeartbeats 4000000 in
theorem c_X6_column (l : Launch) (K : Kx) (D : va_G) (C : Nat → ClassId) (p1 : Int32) (p2 : Int32) (z : Int32) (hF : F_X6_column p1 p2 = some z) : MetI l yX6_column wsX6_column rmX6_column K D (tyV C) (([] : va_W)) [.int p1, .int p2] (([] : va_W)) z := by
  refine met_int (cc := cX6_column) (maxL := 3) (ty := .int) (by decide +kernel) rfl (Nat.le_of_ble_eq_true rfl) ?_
  intro p e s m below meth c A Q ls ⟨hx, hb, hml, hown, hts, hK, hA, hZ⟩ hP hD hS hl hret
  have hown : s.vm.findClass RX6 = some m.cls := hown
  have hl : lv_has ls 3 [(0, .int p1), (1, .int p2)] := hl
  unfold F_X6_column at hF
  refine lv_iload_n hx hb dX6_column_0 rfl (lv_at hl 1 rfl) ?_
  refine lv_bipush (v := 20) hx hb dX6_column_1 (by decide) ?_
  refine lv_isub hx hb dX6_column_3 ?_
  refine lv_topi (fun v_1 ev_1 => ?_)
  have hF := nm_at hF ev_1
  refine lv_istore_n (lv' := [(2, .int v_1), (0, .int p1), (1, .int p2)]) hx hb dX6_column_4 rfl hl (by decide) rfl (fun ls hl => ?_)
  refine lv_bipush (v := 30) hx hb dX6_column_5 (by decide) ?_
  refine lv_iload_n hx hb dX6_column_7 rfl (lv_at hl 1 rfl) ?_
  refine lv_imul hx hb dX6_column_8 ?_
  refine lv_iload_n hx hb dX6_column_9 rfl (lv_at hl 0 rfl) ?_
  refine lv_iadd hx hb dX6_column_10 ?_
  refine lv_iload_n hx hb dX6_column_11 rfl (lv_at hl 0 rfl) ?_
  refine lv_iload_n hx hb dX6_column_12 rfl (lv_at hl 0 rfl) ?_
  refine lv_imul hx hb dX6_column_13 ?_
  refine lv_iload_n hx hb dX6_column_14 rfl (lv_at hl 0 rfl) ?_
  refine lv_imul hx hb dX6_column_15 ?_
  refine lv_sipush (v := 6000) hx hb dX6_column_16 (by decide) ?_
  refine lv_idiv hx hb dX6_column_19 (by decide) ?_
  refine lv_isub hx hb dX6_column_20 ?_
  refine lv_sipush (v := 360) hx hb dX6_column_21 (by decide) ?_
  obtain ⟨z_2, fz_2, hF⟩ := bd_at hF
  refine callS_int (As := [.int (((30 * p1) + v_1) - (((v_1 * v_1) * v_1) / 6000)), .int 360]) (rest := []) ⟨hx, hb, hml, hown, hts⟩ hK hA hZ (c_J9_floorMod_7cf53 l K D C (((30 * p1) + v_1) - (((v_1 * v_1) * v_1) / 6000)) 360 z_2 fz_2) (va_cwS 2 hts gX6_column_J9_floorMod_7cf53 rfl rfl rfl (by decide +kernel) ⟨Nat.le_of_ble_eq_true rfl, Nat.le_of_ble_eq_true rfl⟩) rfl hl.1 rfl (Nat.le_of_ble_eq_true rfl) ⟨Nat.zero_le _, Nat.zero_le _⟩ hP hS dX6_column_24 (fun H locs hP hS => ?_)
  cases hF
  exact hret _ _ _ _ dX6_column_27 rfl hP hD hS
abbrev rmX6_row : Room := { frames := 1, cells := 0, slots := 0, locals := 32 }
set_option maxRecDepth 100000 in
set_option maxHeartbeats 4000000 in
theorem c_X6_row (l : Launch) (K : Kx) (D : va_G) (C : Nat → ClassId) (p1 : Int32) (p2 : Int32) (z : Int32) (hF : F_X6_row p1 p2 = some z) : MetI l yX6_row wsX6_row rmX6_row K D (tyV C) (([] : va_W)) [.int p1, .int p2] (([] : va_W)) z := by
  refine met_int (cc := cX6_row) (maxL := 2) (ty := .int) (by decide +kernel) rfl (Nat.le_of_ble_eq_true rfl) ?_
  intro p e s m below meth c A Q ls ⟨hx, hb, hml, hown, hts, hK, hA, hZ⟩ hP hD hS hl hret
  have hown : s.vm.findClass RX6 = some m.cls := hown
  have hl : lv_has ls 2 [(0, .int p1), (1, .int p2)] := hl
  unfold F_X6_row at hF
  refine lv_iload_n hx hb dX6_row_0 rfl (lv_at hl 1 rfl) ?_
  refine lv_sipush (v := 1000) hx hb dX6_row_1 (by decide) ?_
  refine lv_imul hx hb dX6_row_4 ?_
  refine lv_sipush (v := 1000) hx hb dX6_row_5 (by decide) ?_
  refine lv_iload_n hx hb dX6_row_8 rfl (lv_at hl 0 rfl) ?_
  refine lv_bipush (v := 20) hx hb dX6_row_9 (by decide) ?_
  refine lv_isub hx hb dX6_row_11 ?_
  refine lv_iload_n hx hb dX6_row_12 rfl (lv_at hl 0 rfl) ?_
  refine lv_bipush (v := 20) hx hb dX6_row_13 (by decide) ?_
  refine lv_isub hx hb dX6_row_15 ?_
  refine lv_imul hx hb dX6_row_16 ?_
  refine lv_iadd hx hb dX6_row_17 ?_
  obtain ⟨n_1, hF⟩ := nz_at hF
  refine lv_idiv hx hb dX6_row_18 n_1 ?_
  cases hF
  exact hret _ _ _ _ dX6_row_19 rfl hP hD hS
abbrev rmX6_stands : Room := { frames := 3, cells := 0, slots := 0, locals := 76 }
set_option maxRecDepth 100000 in
set_option maxHeartbeats 4000000 in
theorem c_X6_stands (l : Launch) (K : Kx) (D : va_G) (C : Nat → ClassId) (a6 : Nat → Nat) (S6 : Nat → Int32) (A6 : Nat → Nat → Int32) (G6 : Nat → Nat → Int64) (p1 : Int32) (p2 : Int32) (p3 : Int32) (p4 : Int32) (z : Int32) (hF : F_X6_stands p1 p2 p3 p4 = some z) : MetI l yX6_stands wsX6_stands rmX6_stands K D (tyV C) (wX6 C a6 S6 A6 G6) [.ref (a6 0), .int p1, .int p2, .int p3, .int p4] (wX6 C a6 S6 A6 G6) z := by
  refine met_int (cc := cX6_stands) (maxL := 5) (ty := .int) (by decide +kernel) rfl (Nat.le_of_ble_eq_true rfl) ?_
  intro p e s m below meth c A Q ls ⟨hx, hb, hml, hown, hts, hK, hA, hZ⟩ hP hD hS hl hret
  have hown : s.vm.findClass RX6 = some m.cls := hown
  have hl : lv_has ls 5 [(0, .ref (a6 0)), (1, .int p1), (2, .int p2), (3, .int p3), (4, .int p4)] := hl
  unfold F_X6_stands at hF
  refine lv_iload_n hx hb dX6_stands_0 rfl (lv_at hl 1 rfl) ?_
  refine lv_iload_n hx hb dX6_stands_1 rfl (lv_at hl 2 rfl) ?_
  refine lv_iload_n hx hb dX6_stands_2 rfl (lv_at hl 3 rfl) ?_
  obtain ⟨z_1, fz_1, hF⟩ := bd_at hF
  refine callS_int (As := [.int p1, .int p2, .int p3]) (rest := []) ⟨hx, hb, hml, hown, hts⟩ hK hA hZ (c_X6_isMark l K D C p1 p2 p3 z_1 fz_1) (va_cwS 3 hts gX6_stands_X6_isMark rfl rfl rfl (by decide +kernel) ⟨Nat.le_of_ble_eq_true rfl, Nat.le_of_ble_eq_true rfl⟩) rfl hl.1 rfl (Nat.le_of_ble_eq_true rfl) ⟨Nat.zero_le _, Nat.zero_le _⟩ hP hS dX6_stands_3 (fun H locs hP hS => ?_)
  refine lv_if_ne (tgt := 13) hx hb dX6_stands_6 (by decide) (fun c_2 => ?_) (fun c_2 => ?_)
  · have hF := ifn hF c_2
    refine lv_iload hx hb dX6_stands_13 (lv_at hl 4 rfl) ?_
    refine lv_if_ne (tgt := 26) hx hb dX6_stands_15 (by decide) (fun c_3 => ?_) (fun c_3 => ?_)
    · have hF := ifn hF c_3
      refine lv_iload hx hb dX6_stands_26 (lv_at hl 4 rfl) ?_
      refine lv_iconst (v := 1) hx hb dX6_stands_28 (by decide) ?_
      refine lv_icmp_ne (tgt := 40) hx hb dX6_stands_29 (by decide) (fun c_4 => ?_) (fun c_4 => ?_)
      · have hF := ifn hF c_4
        refine lv_iconst (v := -1) hx hb dX6_stands_40 (by decide) ?_
        cases hF
        exact hret _ _ _ _ dX6_stands_41 rfl hP hD hS
      · have hF := ifp hF c_4
        refine lv_iload_n hx hb dX6_stands_32 rfl (lv_at hl 2 rfl) ?_
        refine lv_iload_n hx hb dX6_stands_33 rfl (lv_at hl 3 rfl) ?_
        obtain ⟨z_5, fz_5, hF⟩ := bd_at hF
        refine callS_int (As := [.int p2, .int p3]) (rest := []) ⟨hx, hb, hml, hown, hts⟩ hK hA hZ (c_X6_row l K D C p2 p3 z_5 fz_5) (va_cwS 2 hts gX6_stands_X6_row rfl rfl rfl (by decide +kernel) ⟨Nat.le_of_ble_eq_true rfl, Nat.le_of_ble_eq_true rfl⟩) rfl hl.1 rfl (Nat.le_of_ble_eq_true rfl) ⟨Nat.zero_le _, Nat.zero_le _⟩ hP hS dX6_stands_34 (fun H locs hP hS => ?_)
        refine lv_goto (tgt := 41) hx hb dX6_stands_37 (by decide) ?_
        cases hF
        exact hret _ _ _ _ dX6_stands_41 rfl hP hD hS
    · have hF := ifp hF c_3
      refine lv_iload_n hx hb dX6_stands_18 rfl (lv_at hl 1 rfl) ?_
      refine lv_iload_n hx hb dX6_stands_19 rfl (lv_at hl 2 rfl) ?_
      obtain ⟨z_6, fz_6, hF⟩ := bd_at hF
      refine callS_int (As := [.int p1, .int p2]) (rest := []) ⟨hx, hb, hml, hown, hts⟩ hK hA hZ (c_X6_column l K D C p1 p2 z_6 fz_6) (va_cwS 2 hts gX6_stands_X6_column rfl rfl rfl (by decide +kernel) ⟨Nat.le_of_ble_eq_true rfl, Nat.le_of_ble_eq_true rfl⟩) rfl hl.1 rfl (Nat.le_of_ble_eq_true rfl) ⟨Nat.zero_le _, Nat.zero_le _⟩ hP hS dX6_stands_20 (fun H locs hP hS => ?_)
      refine lv_goto (tgt := 41) hx hb dX6_stands_23 (by decide) ?_
      cases hF
      exact hret _ _ _ _ dX6_stands_41 rfl hP hD hS
  · have hF := ifp hF c_2
    refine lv_iconst (v := -1) hx hb dX6_stands_9 (by decide) ?_
    refine lv_goto (tgt := 41) hx hb dX6_stands_10 (by decide) ?_
    cases hF
    exact hret _ _ _ _ dX6_stands_41 rfl hP hD hS
abbrev rmX6_colourIn : Room := { frames := 3, cells := 0, slots := 0, locals := 76 }
set_option maxRecDepth 100000 in
set_option maxHeartbeats 4000000 in
theorem c_X6_colourIn (l : Launch) (K : Kx) (D : va_G) (C : Nat → ClassId) (a6 : Nat → Nat) (S6 : Nat → Int32) (A6 : Nat → Nat → Int32) (G6 : Nat → Nat → Int64) (p1 : Int32) (p2 : Int32) (z : Int32 × (Nat → Nat → Int32)) (hF : F_X6_colourIn A6 p1 p2 = some z) : MetI l yX6_colourIn wsX6_colourIn rmX6_colourIn K D (tyV C) (wX6 C a6 S6 A6 G6) [.ref (a6 0), .int p1, .int p2] (wX6 C a6 S6 z.2 G6) z.1 := by
  refine met_int (cc := cX6_colourIn) (maxL := 6) (ty := .int) (by decide +kernel) rfl (Nat.le_of_ble_eq_true rfl) ?_
  intro p e s m below meth c A Q ls ⟨hx, hb, hml, hown, hts, hK, hA, hZ⟩ hP hD hS hl hret
  have hown : s.vm.findClass RX6 = some m.cls := hown
  have hiX6 : ∀ w ∈ u_ws RX6 TX6 42, w ∈ wsX6_colourIn := by decide +kernel
  have hl : lv_has ls 6 [(0, .ref (a6 0)), (1, .int p1), (2, .int p2)] := hl
  unfold F_X6_colourIn at hF
  obtain ⟨J126, eJ126, hF⟩ := nm_ex hF
  have bJ126 : ∀ (x1 : Int32) (x2 : Int32) (A6 : Nat → Nat → Int32), J126 x1 x2 A6 = some z → ∀ (H : Heap) (locs : List Loc) (ls : Array Slot), va_P D vwCl (wX6 C a6 S6 A6 G6) H → va_D A (wX6 C a6 S6 A6 G6) → va_S A s.heap H locs → lv_has ls 6 [(0, .ref (a6 0)), (1, .int x1), (2, .int x2)] → W p l e rmX6_colourIn s m ([.ref (a6 0), .int p1, .int p2] : List Value).toArray below meth c H locs 0 0 Q (F0 m 126 ls []) := by
    intro x1 x2 A6 hF H locs ls hP hD hS hl
    rw [eJ126] at hF
    refine lv_aload_n hx hb dX6_colourIn_126 rfl (lv_at hl 0 rfl) ?_
    refine va_get (D := D) (ci := 6) (v := .ref (a6 2)) (C := RX6) (T := TX6) (N := 42) hx hb hts hiX6 hown hK hP 0 rfl rfl 1 (by decide) (hts (.fieldLink RX6 14 "PanoramaHouseModel" "laid" "[B") (by decide +kernel)) (fun _ h9 => h9) rfl dX6_colourIn_127 ?_
    refine lv_sipush (v := 7200) hx hb dX6_colourIn_130 (by decide) ?_
    refine lv_iload_n hx hb dX6_colourIn_133 rfl (lv_at hl 1 rfl) ?_
    refine lv_imul hx hb dX6_colourIn_134 ?_
    refine lv_iload_n hx hb dX6_colourIn_135 rfl (lv_at hl 2 rfl) ?_
    refine lv_iadd hx hb dX6_colourIn_136 ?_
    obtain ⟨h_1, hF⟩ := ix_at hF
    refine va_bald hx hb hK hP 2 1 rfl rfl h_1 dX6_colourIn_137 ?_
    cases hF
    exact hret _ _ _ _ dX6_colourIn_138 rfl hP hD hS
  obtain ⟨J119, eJ119, hF⟩ := nm_ex hF
  have bJ119 : ∀ (x1 : Int32) (x2 : Int32) (A6 : Nat → Nat → Int32), J119 x1 x2 A6 = some z → ∀ (H : Heap) (locs : List Loc) (ls : Array Slot), va_P D vwCl (wX6 C a6 S6 A6 G6) H → va_D A (wX6 C a6 S6 A6 G6) → va_S A s.heap H locs → lv_has ls 6 [(0, .ref (a6 0)), (1, .int x1), (2, .int x2)] → W p l e rmX6_colourIn s m ([.ref (a6 0), .int p1, .int p2] : List Value).toArray below meth c H locs 0 0 Q (F0 m 119 ls []) := by
    intro x1 x2 A6 hF H locs ls hP hD hS hl
    rw [eJ119] at hF
    refine lv_aload_n hx hb dX6_colourIn_119 rfl (lv_at hl 0 rfl) ?_
    refine va_get (D := D) (ci := 6) (v := .ref (a6 3)) (C := RX6) (T := TX6) (N := 42) hx hb hts hiX6 hown hK hP 0 rfl rfl 2 (by decide) (hts (.fieldLink RX6 17 "PanoramaHouseModel" "isLaid" "[Z") (by decide +kernel)) (fun _ h9 => h9) rfl dX6_colourIn_120 ?_
    refine lv_iload_n hx hb dX6_colourIn_123 rfl (lv_at hl 1 rfl) ?_
    refine lv_iconst (v := 1) hx hb dX6_colourIn_124 (by decide) ?_
    obtain ⟨h_2, hF⟩ := ix_at hF
    refine va_zast hx hb hK hP hD hS 3 2 rfl rfl h_2 dX6_colourIn_125 (fun H locs hP hD hS => ?_)
    obtain ⟨A6_3, eA6_3, hF⟩ := nm_ex hF
    have hP : va_P D vwCl (wX6 C a6 S6 A6_3 G6) H := by rw [eA6_3]; exact hP
    have hD : va_D A (wX6 C a6 S6 A6_3 G6) := by rw [eA6_3]; exact hD
    exact bJ126 x1 x2 A6_3 hF _ _ _ hP hD hS (lv_sub hl [0, 1, 2] rfl)
  have bL39 : ∀ (n : Nat) (x1 : Int32) (x2 : Int32) (x3 : Int32) (A6 : Nat → Nat → Int32), L_X6_colourIn_39 J119 n x1 x2 x3 A6 = some z → ∀ (H : Heap) (locs : List Loc) (ls : Array Slot), va_P D vwCl (wX6 C a6 S6 A6 G6) H → va_D A (wX6 C a6 S6 A6 G6) → va_S A s.heap H locs → lv_has ls 6 [(0, .ref (a6 0)), (1, .int x1), (2, .int x2), (3, .int x3)] → W p l e rmX6_colourIn s m ([.ref (a6 0), .int p1, .int p2] : List Value).toArray below meth c H locs 0 0 Q (F0 m 39 ls []) := by
    intro n
    induction n with
    | zero => intro x1 x2 x3 A6 hF; rw [L_X6_colourIn_39.eq_1] at hF; cases hF
    | succ n ih39 =>
      intro x1 x2 x3 A6 hF H locs ls hP hD hS hl
      rw [L_X6_colourIn_39.eq_2] at hF
      obtain ⟨J113, eJ113, hF⟩ := nm_ex hF
      have bJ113 : ∀ (x1 : Int32) (x2 : Int32) (x3 : Int32) (A6 : Nat → Nat → Int32), J113 x1 x2 x3 A6 = some z → ∀ (H : Heap) (locs : List Loc) (ls : Array Slot), va_P D vwCl (wX6 C a6 S6 A6 G6) H → va_D A (wX6 C a6 S6 A6 G6) → va_S A s.heap H locs → lv_has ls 6 [(0, .ref (a6 0)), (1, .int x1), (2, .int x2), (3, .int x3)] → W p l e rmX6_colourIn s m ([.ref (a6 0), .int p1, .int p2] : List Value).toArray below meth c H locs 0 0 Q (F0 m 113 ls []) := by
        intro x1 x2 x3 A6 hF H locs ls hP hD hS hl
        rw [eJ113] at hF
        obtain ⟨v_4, ev_4⟩ : ∃ y : Int32, y = x3 + 1 := ⟨_, rfl⟩
        have hF := nm_at hF ev_4
        refine lv_iinc (v := v_4) (lv' := [(3, .int v_4), (0, .ref (a6 0)), (1, .int x1), (2, .int x2)]) hx hb dX6_colourIn_113 hl (k := 3) rfl (by rw [ev_4]; rfl) (by decide) rfl (fun ls hl => ?_)
        refine lv_goto (tgt := 39) hx hb dX6_colourIn_116 (by decide) ?_
        exact ih39 x1 x2 v_4 A6 hF _ _ _ hP hD hS (lv_sub hl [1, 2, 3, 0] rfl)
      have bL48 : ∀ (n : Nat) (x1 : Int32) (x2 : Int32) (x3 : Int32) (x4 : Int32) (A6 : Nat → Nat → Int32), L_X6_colourIn_48 J113 n x1 x2 x3 x4 A6 = some z → ∀ (H : Heap) (locs : List Loc) (ls : Array Slot), va_P D vwCl (wX6 C a6 S6 A6 G6) H → va_D A (wX6 C a6 S6 A6 G6) → va_S A s.heap H locs → lv_has ls 6 [(0, .ref (a6 0)), (1, .int x1), (2, .int x2), (3, .int x3), (4, .int x4)] → W p l e rmX6_colourIn s m ([.ref (a6 0), .int p1, .int p2] : List Value).toArray below meth c H locs 0 0 Q (F0 m 48 ls []) := by
        intro n
        induction n with
        | zero => intro x1 x2 x3 x4 A6 hF; rw [L_X6_colourIn_48.eq_1] at hF; cases hF
        | succ n ih48 =>
          intro x1 x2 x3 x4 A6 hF H locs ls hP hD hS hl
          rw [L_X6_colourIn_48.eq_2] at hF
          obtain ⟨J107, eJ107, hF⟩ := nm_ex hF
          have bJ107 : ∀ (x1 : Int32) (x2 : Int32) (x3 : Int32) (x4 : Int32) (A6 : Nat → Nat → Int32), J107 x1 x2 x3 x4 A6 = some z → ∀ (H : Heap) (locs : List Loc) (ls : Array Slot), va_P D vwCl (wX6 C a6 S6 A6 G6) H → va_D A (wX6 C a6 S6 A6 G6) → va_S A s.heap H locs → lv_has ls 6 [(0, .ref (a6 0)), (1, .int x1), (2, .int x2), (3, .int x3), (4, .int x4)] → W p l e rmX6_colourIn s m ([.ref (a6 0), .int p1, .int p2] : List Value).toArray below meth c H locs 0 0 Q (F0 m 107 ls []) := by
            intro x1 x2 x3 x4 A6 hF H locs ls hP hD hS hl
            rw [eJ107] at hF
            obtain ⟨v_5, ev_5⟩ : ∃ y : Int32, y = x4 + 1 := ⟨_, rfl⟩
            have hF := nm_at hF ev_5
            refine lv_iinc (v := v_5) (lv' := [(4, .int v_5), (0, .ref (a6 0)), (1, .int x1), (2, .int x2), (3, .int x3)]) hx hb dX6_colourIn_107 hl (k := 4) rfl (by rw [ev_5]; rfl) (by decide) rfl (fun ls hl => ?_)
            refine lv_goto (tgt := 48) hx hb dX6_colourIn_110 (by decide) ?_
            exact ih48 x1 x2 x3 v_5 A6 hF _ _ _ hP hD hS (lv_sub hl [1, 2, 3, 4, 0] rfl)
          refine lv_iload hx hb dX6_colourIn_48 (lv_at hl 4 rfl) ?_
          refine lv_bipush (v := 20) hx hb dX6_colourIn_50 (by decide) ?_
          refine lv_icmp_ge (tgt := 113) hx hb dX6_colourIn_52 (by decide) (fun c_6 => ?_) (fun c_6 => ?_)
          · have hF := ifp hF c_6
            exact bJ113 x1 x2 x3 A6 hF _ _ _ hP hD hS (lv_sub hl [0, 1, 2, 3] rfl)
          · have hF := ifn hF c_6
            refine lv_aload_n hx hb dX6_colourIn_55 rfl (lv_at hl 0 rfl) ?_
            refine va_get (D := D) (ci := 6) (v := .ref (a6 1)) (C := RX6) (T := TX6) (N := 42) hx hb hts hiX6 hown hK hP 0 rfl rfl 0 (by decide) (hts (.fieldLink RX6 7 "PanoramaHouseModel" "marks" "[B") (by decide +kernel)) (fun _ h9 => h9) rfl dX6_colourIn_56 ?_
            refine lv_iload_n hx hb dX6_colourIn_59 rfl (lv_at hl 1 rfl) ?_
            refine lv_bipush (v := 40) hx hb dX6_colourIn_60 (by decide) ?_
            refine lv_imul hx hb dX6_colourIn_62 ?_
            refine lv_iload_n hx hb dX6_colourIn_63 rfl (lv_at hl 3 rfl) ?_
            refine lv_iadd hx hb dX6_colourIn_64 ?_
            refine lv_bipush (v := 20) hx hb dX6_colourIn_65 (by decide) ?_
            refine lv_imul hx hb dX6_colourIn_67 ?_
            refine lv_iload hx hb dX6_colourIn_68 (lv_at hl 4 rfl) ?_
            refine lv_iadd hx hb dX6_colourIn_70 ?_
            obtain ⟨h_7, hF⟩ := ix_at hF
            refine va_bald hx hb hK hP 1 1 rfl rfl h_7 dX6_colourIn_71 ?_
            refine lv_topi (fun v_8 ev_8 => ?_)
            have hF := nm_at hF ev_8
            refine lv_istore (lv' := [(5, .int v_8), (0, .ref (a6 0)), (1, .int x1), (2, .int x2), (3, .int x3), (4, .int x4)]) hx hb dX6_colourIn_72 hl (by decide) rfl (fun ls hl => ?_)
            refine lv_iload hx hb dX6_colourIn_74 (lv_at hl 0 rfl) ?_
            refine lv_if_eq (tgt := 107) hx hb dX6_colourIn_76 (by decide) (fun c_9 => ?_) (fun c_9 => ?_)
            · have hF := ifp hF c_9
              exact bJ107 x1 x2 x3 x4 A6 hF _ _ _ hP hD hS (lv_sub hl [1, 2, 3, 4, 5] rfl)
            · have hF := ifn hF c_9
              refine lv_aload_n hx hb dX6_colourIn_79 rfl (lv_at hl 1 rfl) ?_
              refine va_get (D := D) (ci := 6) (v := .ref (a6 2)) (C := RX6) (T := TX6) (N := 42) hx hb hts hiX6 hown hK hP 0 rfl rfl 1 (by decide) (hts (.fieldLink RX6 14 "PanoramaHouseModel" "laid" "[B") (by decide +kernel)) (fun _ h9 => h9) rfl dX6_colourIn_80 ?_
              refine lv_sipush (v := 7200) hx hb dX6_colourIn_83 (by decide) ?_
              refine lv_iload_n hx hb dX6_colourIn_86 rfl (lv_at hl 2 rfl) ?_
              refine lv_imul hx hb dX6_colourIn_87 ?_
              refine lv_bipush (v := 20) hx hb dX6_colourIn_88 (by decide) ?_
              refine lv_iload_n hx hb dX6_colourIn_90 rfl (lv_at hl 2 rfl) ?_
              refine lv_iload_n hx hb dX6_colourIn_91 rfl (lv_at hl 4 rfl) ?_
              obtain ⟨z_10, fz_10, hF⟩ := bd_at hF
              refine callS_int (As := [.int x1, .int x3]) (rest := [.int 20, .int (7200 * x1), .ref (a6 2)]) ⟨hx, hb, hml, hown, hts⟩ hK hA hZ (c_X6_column l K D C x1 x3 z_10 fz_10) (va_cwS 2 hts gX6_colourIn_X6_column rfl rfl rfl (by decide +kernel) ⟨Nat.le_of_ble_eq_true rfl, Nat.le_of_ble_eq_true rfl⟩) rfl hl.1 rfl (Nat.le_of_ble_eq_true rfl) ⟨Nat.zero_le _, Nat.zero_le _⟩ hP hS dX6_colourIn_92 (fun H locs hP hS => ?_)
              refine lv_imul hx hb dX6_colourIn_95 ?_
              refine lv_iadd hx hb dX6_colourIn_96 ?_
              refine lv_iload_n hx hb dX6_colourIn_97 rfl (lv_at hl 4 rfl) ?_
              refine lv_iload hx hb dX6_colourIn_98 (lv_at hl 5 rfl) ?_
              obtain ⟨z_11, fz_11, hF⟩ := bd_at hF
              refine callS_int (As := [.int x3, .int x4]) (rest := [.int ((7200 * x1) + (20 * z_10)), .ref (a6 2)]) ⟨hx, hb, hml, hown, hts⟩ hK hA hZ (c_X6_row l K D C x3 x4 z_11 fz_11) (va_cwS 2 hts gX6_colourIn_X6_row rfl rfl rfl (by decide +kernel) ⟨Nat.le_of_ble_eq_true rfl, Nat.le_of_ble_eq_true rfl⟩) rfl hl.1 rfl (Nat.le_of_ble_eq_true rfl) ⟨Nat.zero_le _, Nat.zero_le _⟩ hP hS dX6_colourIn_100 (fun H locs hP hS => ?_)
              refine lv_iadd hx hb dX6_colourIn_103 ?_
              refine lv_iload hx hb dX6_colourIn_104 (lv_at hl 0 rfl) ?_
              obtain ⟨h_12, hF⟩ := ix_at hF
              refine va_bast hx hb hK hP hD hS 2 1 rfl rfl h_12 dX6_colourIn_106 (fun H locs hP hD hS => ?_)
              obtain ⟨A6_13, eA6_13, hF⟩ := nm_ex hF
              have hP : va_P D vwCl (wX6 C a6 S6 A6_13 G6) H := by rw [eA6_13]; exact hP
              have hD : va_D A (wX6 C a6 S6 A6_13 G6) := by rw [eA6_13]; exact hD
              exact bJ107 x1 x2 x3 x4 A6_13 hF _ _ _ hP hD hS (lv_sub hl [1, 2, 3, 4, 5] rfl)
      refine lv_iload_n hx hb dX6_colourIn_39 rfl (lv_at hl 3 rfl) ?_
      refine lv_bipush (v := 40) hx hb dX6_colourIn_40 (by decide) ?_
      refine lv_icmp_ge (tgt := 119) hx hb dX6_colourIn_42 (by decide) (fun c_14 => ?_) (fun c_14 => ?_)
      · have hF := ifp hF c_14
        exact bJ119 x1 x2 A6 hF _ _ _ hP hD hS (lv_sub hl [0, 1, 2] rfl)
      · have hF := ifn hF c_14
        refine lv_iconst (v := 0) hx hb dX6_colourIn_45 (by decide) ?_
        refine lv_istore (lv' := [(4, .int 0), (0, .ref (a6 0)), (1, .int x1), (2, .int x2), (3, .int x3)]) hx hb dX6_colourIn_46 hl (by decide) rfl (fun ls hl => ?_)
        exact bL48 FU x1 x2 x3 0 A6 hF _ _ _ hP hD hS (lv_sub hl [1, 2, 3, 4, 0] rfl)
  obtain ⟨J37, eJ37, hF⟩ := nm_ex hF
  have bJ37 : ∀ (x1 : Int32) (x2 : Int32) (A6 : Nat → Nat → Int32), J37 x1 x2 A6 = some z → ∀ (H : Heap) (locs : List Loc) (ls : Array Slot), va_P D vwCl (wX6 C a6 S6 A6 G6) H → va_D A (wX6 C a6 S6 A6 G6) → va_S A s.heap H locs → lv_has ls 6 [(0, .ref (a6 0)), (1, .int x1), (2, .int x2)] → W p l e rmX6_colourIn s m ([.ref (a6 0), .int p1, .int p2] : List Value).toArray below meth c H locs 0 0 Q (F0 m 37 ls []) := by
    intro x1 x2 A6 hF H locs ls hP hD hS hl
    rw [eJ37] at hF
    refine lv_iconst (v := 0) hx hb dX6_colourIn_37 (by decide) ?_
    refine lv_istore_n (lv' := [(3, .int 0), (0, .ref (a6 0)), (1, .int x1), (2, .int x2)]) hx hb dX6_colourIn_38 rfl hl (by decide) rfl (fun ls hl => ?_)
    exact bL39 FU x1 x2 0 A6 hF _ _ _ hP hD hS (lv_sub hl [1, 2, 3, 0] rfl)
  have bL11 : ∀ (n : Nat) (x1 : Int32) (x2 : Int32) (x3 : Int32) (A6 : Nat → Nat → Int32), L_X6_colourIn_11 J37 n x1 x2 x3 A6 = some z → ∀ (H : Heap) (locs : List Loc) (ls : Array Slot), va_P D vwCl (wX6 C a6 S6 A6 G6) H → va_D A (wX6 C a6 S6 A6 G6) → va_S A s.heap H locs → lv_has ls 6 [(0, .ref (a6 0)), (1, .int x1), (2, .int x2), (3, .int x3)] → W p l e rmX6_colourIn s m ([.ref (a6 0), .int p1, .int p2] : List Value).toArray below meth c H locs 0 0 Q (F0 m 11 ls []) := by
    intro n
    induction n with
    | zero => intro x1 x2 x3 A6 hF; rw [L_X6_colourIn_11.eq_1] at hF; cases hF
    | succ n ih11 =>
      intro x1 x2 x3 A6 hF H locs ls hP hD hS hl
      rw [L_X6_colourIn_11.eq_2] at hF
      refine lv_iload_n hx hb dX6_colourIn_11 rfl (lv_at hl 3 rfl) ?_
      refine lv_sipush (v := 7200) hx hb dX6_colourIn_12 (by decide) ?_
      refine lv_icmp_ge (tgt := 37) hx hb dX6_colourIn_15 (by decide) (fun c_15 => ?_) (fun c_15 => ?_)
      · have hF := ifp hF c_15
        exact bJ37 x1 x2 A6 hF _ _ _ hP hD hS (lv_sub hl [0, 1, 2] rfl)
      · have hF := ifn hF c_15
        refine lv_aload_n hx hb dX6_colourIn_18 rfl (lv_at hl 0 rfl) ?_
        refine va_get (D := D) (ci := 6) (v := .ref (a6 2)) (C := RX6) (T := TX6) (N := 42) hx hb hts hiX6 hown hK hP 0 rfl rfl 1 (by decide) (hts (.fieldLink RX6 14 "PanoramaHouseModel" "laid" "[B") (by decide +kernel)) (fun _ h9 => h9) rfl dX6_colourIn_19 ?_
        refine lv_sipush (v := 7200) hx hb dX6_colourIn_22 (by decide) ?_
        refine lv_iload_n hx hb dX6_colourIn_25 rfl (lv_at hl 1 rfl) ?_
        refine lv_imul hx hb dX6_colourIn_26 ?_
        refine lv_iload_n hx hb dX6_colourIn_27 rfl (lv_at hl 3 rfl) ?_
        refine lv_iadd hx hb dX6_colourIn_28 ?_
        refine lv_iconst (v := 0) hx hb dX6_colourIn_29 (by decide) ?_
        obtain ⟨h_16, hF⟩ := ix_at hF
        refine va_bast hx hb hK hP hD hS 2 1 rfl rfl h_16 dX6_colourIn_30 (fun H locs hP hD hS => ?_)
        obtain ⟨A6_17, eA6_17, hF⟩ := nm_ex hF
        have hP : va_P D vwCl (wX6 C a6 S6 A6_17 G6) H := by rw [eA6_17]; exact hP
        have hD : va_D A (wX6 C a6 S6 A6_17 G6) := by rw [eA6_17]; exact hD
        obtain ⟨v_18, ev_18⟩ : ∃ y : Int32, y = x3 + 1 := ⟨_, rfl⟩
        have hF := nm_at hF ev_18
        refine lv_iinc (v := v_18) (lv' := [(3, .int v_18), (0, .ref (a6 0)), (1, .int x1), (2, .int x2)]) hx hb dX6_colourIn_31 hl (k := 3) rfl (by rw [ev_18]; rfl) (by decide) rfl (fun ls hl => ?_)
        refine lv_goto (tgt := 11) hx hb dX6_colourIn_34 (by decide) ?_
        exact ih11 x1 x2 v_18 A6_17 hF _ _ _ hP hD hS (lv_sub hl [1, 2, 3, 0] rfl)
  refine lv_aload_n hx hb dX6_colourIn_0 rfl (lv_at hl 0 rfl) ?_
  refine va_get (D := D) (ci := 6) (v := .ref (a6 3)) (C := RX6) (T := TX6) (N := 42) hx hb hts hiX6 hown hK hP 0 rfl rfl 2 (by decide) (hts (.fieldLink RX6 17 "PanoramaHouseModel" "isLaid" "[Z") (by decide +kernel)) (fun _ h9 => h9) rfl dX6_colourIn_1 ?_
  refine lv_iload_n hx hb dX6_colourIn_4 rfl (lv_at hl 1 rfl) ?_
  obtain ⟨h_19, hF⟩ := ix_at hF
  refine va_zald hx hb hK hP 3 2 rfl rfl h_19 dX6_colourIn_5 ?_
  refine lv_if_ne (tgt := 126) hx hb dX6_colourIn_6 (by decide) (fun c_20 => ?_) (fun c_20 => ?_)
  · have hF := ifn hF c_20
    exact bJ126 p1 p2 A6 hF _ _ _ hP hD hS (lv_sub hl [0, 1, 2] rfl)
  · have hF := ifp hF c_20
    refine lv_iconst (v := 0) hx hb dX6_colourIn_9 (by decide) ?_
    refine lv_istore_n (lv' := [(3, .int 0), (0, .ref (a6 0)), (1, .int p1), (2, .int p2)]) hx hb dX6_colourIn_10 rfl hl (by decide) rfl (fun ls hl => ?_)
    exact bL11 FU p1 p2 0 A6 hF _ _ _ hP hD hS (lv_sub hl [1, 2, 3, 0] rfl)
abbrev rmX6_viewAt : Room := { frames := 4, cells := 0, slots := 0, locals := 101 }
set_option maxRecDepth 100000 in
set_option maxHeartbeats 4000000 in
theorem c_X6_viewAt (l : Launch) (K : Kx) (D : va_G) (C : Nat → ClassId) (a6 : Nat → Nat) (S6 : Nat → Int32) (A6 : Nat → Nat → Int32) (G6 : Nat → Nat → Int64) (p1 : Int32) (z : Int32 × (Nat → Nat → Int32)) (hF : F_X6_viewAt A6 p1 = some z) : MetI l yX6_viewAt wsX6_viewAt rmX6_viewAt K D (tyV C) (wX6 C a6 S6 A6 G6) [.ref (a6 0), .int p1] (wX6 C a6 S6 z.2 G6) z.1 := by
  refine met_int (cc := cX6_viewAt) (maxL := 6) (ty := .int) (by decide +kernel) rfl (Nat.le_of_ble_eq_true rfl) ?_
  intro p e s m below meth c A Q ls ⟨hx, hb, hml, hown, hts, hK, hA, hZ⟩ hP hD hS hl hret
  have hown : s.vm.findClass RX6 = some m.cls := hown
  have hl : lv_has ls 6 [(0, .ref (a6 0)), (1, .int p1)] := hl
  unfold F_X6_viewAt at hF
  obtain ⟨J81, eJ81, hF⟩ := nm_ex hF
  have bJ81 : ∀ (x2 : Int32) (A6 : Nat → Nat → Int32), J81 x2 A6 = some z → ∀ (H : Heap) (locs : List Loc) (ls : Array Slot), va_P D vwCl (wX6 C a6 S6 A6 G6) H → va_D A (wX6 C a6 S6 A6 G6) → va_S A s.heap H locs → lv_has ls 6 [(2, .int x2)] → W p l e rmX6_viewAt s m ([.ref (a6 0), .int p1] : List Value).toArray below meth c H locs 0 0 Q (F0 m 81 ls []) := by
    intro x2 A6 hF H locs ls hP hD hS hl
    rw [eJ81] at hF
    refine lv_iload_n hx hb dX6_viewAt_81 rfl (lv_at hl 0 rfl) ?_
    cases hF
    exact hret _ _ _ _ dX6_viewAt_82 rfl hP hD hS
  have bL7 : ∀ (n : Nat) (x1 : Int32) (x2 : Int32) (x3 : Int32) (x4 : Int32) (A6 : Nat → Nat → Int32), L_X6_viewAt_7 J81 n x1 x2 x3 x4 A6 = some z → ∀ (H : Heap) (locs : List Loc) (ls : Array Slot), va_P D vwCl (wX6 C a6 S6 A6 G6) H → va_D A (wX6 C a6 S6 A6 G6) → va_S A s.heap H locs → lv_has ls 6 [(0, .ref (a6 0)), (1, .int x1), (2, .int x2), (3, .int x3), (4, .int x4)] → W p l e rmX6_viewAt s m ([.ref (a6 0), .int p1] : List Value).toArray below meth c H locs 0 0 Q (F0 m 7 ls []) := by
    intro n
    induction n with
    | zero => intro x1 x2 x3 x4 A6 hF; rw [L_X6_viewAt_7.eq_1] at hF; cases hF
    | succ n ih7 =>
      intro x1 x2 x3 x4 A6 hF H locs ls hP hD hS hl
      rw [L_X6_viewAt_7.eq_2] at hF
      obtain ⟨J75, eJ75, hF⟩ := nm_ex hF
      have bJ75 : ∀ (x1 : Int32) (x2 : Int32) (x3 : Int32) (x4 : Int32) (A6 : Nat → Nat → Int32), J75 x1 x2 x3 x4 A6 = some z → ∀ (H : Heap) (locs : List Loc) (ls : Array Slot), va_P D vwCl (wX6 C a6 S6 A6 G6) H → va_D A (wX6 C a6 S6 A6 G6) → va_S A s.heap H locs → lv_has ls 6 [(0, .ref (a6 0)), (1, .int x1), (2, .int x2), (3, .int x3), (4, .int x4)] → W p l e rmX6_viewAt s m ([.ref (a6 0), .int p1] : List Value).toArray below meth c H locs 0 0 Q (F0 m 75 ls []) := by
        intro x1 x2 x3 x4 A6 hF H locs ls hP hD hS hl
        rw [eJ75] at hF
        obtain ⟨v_1, ev_1⟩ : ∃ y : Int32, y = x4 + 1 := ⟨_, rfl⟩
        have hF := nm_at hF ev_1
        refine lv_iinc (v := v_1) (lv' := [(4, .int v_1), (0, .ref (a6 0)), (1, .int x1), (2, .int x2), (3, .int x3)]) hx hb dX6_viewAt_75 hl (k := 4) rfl (by rw [ev_1]; rfl) (by decide) rfl (fun ls hl => ?_)
        refine lv_goto (tgt := 7) hx hb dX6_viewAt_78 (by decide) ?_
        exact ih7 x1 x2 x3 v_1 A6 hF _ _ _ hP hD hS (lv_sub hl [1, 2, 3, 4, 0] rfl)
      obtain ⟨J69, eJ69, hF⟩ := nm_ex hF
      have bJ69 : ∀ (x1 : Int32) (x4 : Int32) (x5 : Int32) (A6 : Nat → Nat → Int32), J69 x1 x4 x5 A6 = some z → ∀ (H : Heap) (locs : List Loc) (ls : Array Slot), va_P D vwCl (wX6 C a6 S6 A6 G6) H → va_D A (wX6 C a6 S6 A6 G6) → va_S A s.heap H locs → lv_has ls 6 [(0, .ref (a6 0)), (1, .int x1), (4, .int x4), (5, .int x5)] → W p l e rmX6_viewAt s m ([.ref (a6 0), .int p1] : List Value).toArray below meth c H locs 0 0 Q (F0 m 69 ls []) := by
        intro x1 x4 x5 A6 hF H locs ls hP hD hS hl
        rw [eJ69] at hF
        refine lv_iload hx hb dX6_viewAt_69 (lv_at hl 2 rfl) ?_
        refine lv_istore_n (lv' := [(2, .int x4), (0, .ref (a6 0)), (1, .int x1), (4, .int x4), (5, .int x5)]) hx hb dX6_viewAt_71 rfl hl (by decide) rfl (fun ls hl => ?_)
        refine lv_iload hx hb dX6_viewAt_72 (lv_at hl 4 rfl) ?_
        refine lv_istore_n (lv' := [(3, .int x5), (2, .int x4), (0, .ref (a6 0)), (1, .int x1), (4, .int x4), (5, .int x5)]) hx hb dX6_viewAt_74 rfl hl (by decide) rfl (fun ls hl => ?_)
        exact bJ75 x1 x4 x5 x4 A6 hF _ _ _ hP hD hS (lv_sub hl [2, 3, 1, 0, 4] rfl)
      refine lv_iload hx hb dX6_viewAt_7 (lv_at hl 4 rfl) ?_
      refine lv_bipush (v := 12) hx hb dX6_viewAt_9 (by decide) ?_
      refine lv_icmp_ge (tgt := 81) hx hb dX6_viewAt_11 (by decide) (fun c_2 => ?_) (fun c_2 => ?_)
      · have hF := ifp hF c_2
        exact bJ81 x2 A6 hF _ _ _ hP hD hS (lv_sub hl [2] rfl)
      · have hF := ifn hF c_2
        refine lv_aload_n hx hb dX6_viewAt_14 rfl (lv_at hl 0 rfl) ?_
        refine lv_iload hx hb dX6_viewAt_15 (lv_at hl 4 rfl) ?_
        refine lv_iload_n hx hb dX6_viewAt_17 rfl (lv_at hl 1 rfl) ?_
        obtain ⟨z_3, fz_3, hF⟩ := bd_at hF
        refine callV_int ([]) ([]) (w' := wX6 C a6 S6 z_3.2 G6) (As := [.int x4, .int x1]) (rest := []) ⟨hx, hb, hml, hown, hts⟩ hK hA hZ (c_X6_colourIn l K D C a6 S6 A6 G6 x4 x1 z_3 fz_3) (cwV 2 hts gX6_viewAt_X6_colourIn rfl rfl rfl (by decide +kernel) ⟨Nat.le_of_ble_eq_true rfl, Nat.le_of_ble_eq_true rfl⟩) 0 rfl rfl rfl rfl hl.1 rfl (Nat.le_of_ble_eq_true rfl) ⟨Nat.zero_le _, Nat.zero_le _⟩ (by simp only [List.append_assoc, List.append_nil, List.nil_append]) (by simp only [List.append_assoc, List.append_nil, List.nil_append]) hP hD hS dX6_viewAt_18 (fun H locs hP hD hS => ?_)
        refine lv_if_ne (tgt := 27) hx hb dX6_viewAt_21 (by decide) (fun c_4 => ?_) (fun c_4 => ?_)
        · have hF := ifn hF c_4
          refine lv_bipush (v := 30) hx hb dX6_viewAt_27 (by decide) ?_
          refine lv_iload hx hb dX6_viewAt_29 (lv_at hl 4 rfl) ?_
          refine lv_imul hx hb dX6_viewAt_31 ?_
          refine lv_iload_n hx hb dX6_viewAt_32 rfl (lv_at hl 1 rfl) ?_
          refine lv_bipush (v := 20) hx hb dX6_viewAt_33 (by decide) ?_
          refine lv_idiv hx hb dX6_viewAt_35 (by decide) ?_
          refine lv_isub hx hb dX6_viewAt_36 ?_
          refine va_mabs hx hb (hml.trans hl.1.symm) hown (hts (.methodLink RX6 113 Lib.Math.abs.name) (by decide +kernel)) (hts (.static Lib.Math.abs.name) (by decide +kernel)) (hts (.initialized "java/lang/Math") (by decide +kernel)) (hts (.code Lib.Math.abs.name Lib.Math.abs.code 1 (some .int)) (by decide +kernel)) (Nat.le_of_ble_eq_true rfl) (Nat.le_of_ble_eq_true rfl) (Nat.zero_le _) (Nat.zero_le _) dX6_viewAt_37 ?_
          refine lv_topi (fun v_5 ev_5 => ?_)
          have hF := nm_at hF ev_5
          refine lv_istore (lv' := [(5, .int v_5), (0, .ref (a6 0)), (1, .int x1), (2, .int x2), (3, .int x3), (4, .int x4)]) hx hb dX6_viewAt_40 hl (by decide) rfl (fun ls hl => ?_)
          refine lv_iload hx hb dX6_viewAt_42 (lv_at hl 0 rfl) ?_
          refine lv_sipush (v := 360) hx hb dX6_viewAt_44 (by decide) ?_
          refine lv_iload hx hb dX6_viewAt_47 (lv_at hl 0 rfl) ?_
          refine lv_isub hx hb dX6_viewAt_49 ?_
          refine va_mmin hx hb (hml.trans hl.1.symm) hown (hts (.methodLink RX6 138 Lib.Math.min.name) (by decide +kernel)) (hts (.static Lib.Math.min.name) (by decide +kernel)) (hts (.initialized "java/lang/Math") (by decide +kernel)) (hts (.code Lib.Math.min.name Lib.Math.min.code 2 (some .int)) (by decide +kernel)) (Nat.le_of_ble_eq_true rfl) (Nat.le_of_ble_eq_true rfl) (Nat.zero_le _) (Nat.zero_le _) dX6_viewAt_50 ?_
          refine lv_topi (fun v_6 ev_6 => ?_)
          have hF := nm_at hF ev_6
          refine lv_istore (lv' := [(5, .int v_6), (0, .ref (a6 0)), (1, .int x1), (2, .int x2), (3, .int x3), (4, .int x4)]) hx hb dX6_viewAt_53 hl (by decide) rfl (fun ls hl => ?_)
          refine lv_iload_n hx hb dX6_viewAt_55 rfl (lv_at hl 3 rfl) ?_
          refine lv_iconst (v := -1) hx hb dX6_viewAt_56 (by decide) ?_
          refine lv_icmp_eq (tgt := 69) hx hb dX6_viewAt_57 (by decide) (fun c_7 => ?_) (fun c_7 => ?_)
          · have hF := ifp hF c_7
            exact bJ69 x1 x4 v_6 z_3.2 hF _ _ _ hP hD hS (lv_sub hl [1, 2, 5, 0] rfl)
          · have hF := ifn hF c_7
            refine lv_iload hx hb dX6_viewAt_60 (lv_at hl 0 rfl) ?_
            refine lv_iload_n hx hb dX6_viewAt_62 rfl (lv_at hl 4 rfl) ?_
            refine lv_icmp_lt (tgt := 69) hx hb dX6_viewAt_63 (by decide) (fun c_8 => ?_) (fun c_8 => ?_)
            · have hF := ifp hF c_8
              exact bJ69 x1 x4 v_6 z_3.2 hF _ _ _ hP hD hS (lv_sub hl [1, 2, 5, 0] rfl)
            · have hF := ifn hF c_8
              refine lv_goto (tgt := 75) hx hb dX6_viewAt_66 (by decide) ?_
              exact bJ75 x1 x2 x3 x4 z_3.2 hF _ _ _ hP hD hS (lv_sub hl [1, 2, 3, 4, 5] rfl)
        · have hF := ifp hF c_4
          refine lv_goto (tgt := 75) hx hb dX6_viewAt_24 (by decide) ?_
          exact bJ75 x1 x2 x3 x4 z_3.2 hF _ _ _ hP hD hS (lv_sub hl [0, 1, 2, 3, 4] rfl)
  refine lv_iconst (v := -1) hx hb dX6_viewAt_0 (by decide) ?_
  refine lv_istore_n (lv' := [(2, .int (-1)), (0, .ref (a6 0)), (1, .int p1)]) hx hb dX6_viewAt_1 rfl hl (by decide) rfl (fun ls hl => ?_)
  refine lv_iconst (v := 0) hx hb dX6_viewAt_2 (by decide) ?_
  refine lv_istore_n (lv' := [(3, .int 0), (2, .int (-1)), (0, .ref (a6 0)), (1, .int p1)]) hx hb dX6_viewAt_3 rfl hl (by decide) rfl (fun ls hl => ?_)
  refine lv_iconst (v := 0) hx hb dX6_viewAt_4 (by decide) ?_
  refine lv_istore (lv' := [(4, .int 0), (3, .int 0), (2, .int (-1)), (0, .ref (a6 0)), (1, .int p1)]) hx hb dX6_viewAt_5 hl (by decide) rfl (fun ls hl => ?_)
  exact bL7 FU p1 (-1) 0 0 A6 hF _ _ _ hP hD hS (lv_sub hl [3, 4, 2, 1, 0] rfl)
abbrev rmX6_isPlace : Room := { frames := 2, cells := 0, slots := 0, locals := 54 }
set_option maxRecDepth 100000 in
set_option maxHeartbeats 4000000 in
theorem c_X6_isPlace (l : Launch) (K : Kx) (D : va_G) (C : Nat → ClassId) (p1 : Int32) (p2 : Int32) (z : Int32) (hF : F_X6_isPlace p1 p2 = some z) : MetI l yX6_isPlace wsX6_isPlace rmX6_isPlace K D (tyV C) (([] : va_W)) [.int p1, .int p2] (([] : va_W)) z := by
  refine met_int (cc := cX6_isPlace) (maxL := 2) (ty := .boolean) (by decide +kernel) rfl (Nat.le_of_ble_eq_true rfl) ?_
  intro p e s m below meth c A Q ls ⟨hx, hb, hml, hown, hts, hK, hA, hZ⟩ hP hD hS hl hret
  have hown : s.vm.findClass RX6 = some m.cls := hown
  have hl : lv_has ls 2 [(0, .int p1), (1, .int p2)] := hl
  unfold F_X6_isPlace at hF
  refine lv_iload_n hx hb dX6_isPlace_0 rfl (lv_at hl 0 rfl) ?_
  refine lv_iconst (v := 0) hx hb dX6_isPlace_1 (by decide) ?_
  refine lv_sipush (v := 359) hx hb dX6_isPlace_2 (by decide) ?_
  obtain ⟨z_1, fz_1, hF⟩ := bd_at hF
  refine callS_int (As := [.int p1, .int 0, .int 359]) (rest := []) ⟨hx, hb, hml, hown, hts⟩ hK hA hZ (c_X6_isIn l K D C p1 0 359 z_1 fz_1) (va_cwS 3 hts gX6_isPlace_X6_isIn rfl rfl rfl (by decide +kernel) ⟨Nat.le_of_ble_eq_true rfl, Nat.le_of_ble_eq_true rfl⟩) rfl hl.1 rfl (Nat.le_of_ble_eq_true rfl) ⟨Nat.zero_le _, Nat.zero_le _⟩ hP hS dX6_isPlace_5 (fun H locs hP hS => ?_)
  refine lv_if_eq (tgt := 25) hx hb dX6_isPlace_8 (by decide) (fun c_2 => ?_) (fun c_2 => ?_)
  · have hF := ifp hF c_2
    refine lv_iconst (v := 0) hx hb dX6_isPlace_25 (by decide) ?_
    cases hF
    exact hret _ _ _ _ dX6_isPlace_26 nb0 hP hD hS
  · have hF := ifn hF c_2
    refine lv_iload_n hx hb dX6_isPlace_11 rfl (lv_at hl 1 rfl) ?_
    refine lv_iconst (v := 0) hx hb dX6_isPlace_12 (by decide) ?_
    refine lv_bipush (v := 19) hx hb dX6_isPlace_13 (by decide) ?_
    obtain ⟨z_3, fz_3, hF⟩ := bd_at hF
    refine callS_int (As := [.int p2, .int 0, .int 19]) (rest := []) ⟨hx, hb, hml, hown, hts⟩ hK hA hZ (c_X6_isIn l K D C p2 0 19 z_3 fz_3) (va_cwS 3 hts gX6_isPlace_X6_isIn rfl rfl rfl (by decide +kernel) ⟨Nat.le_of_ble_eq_true rfl, Nat.le_of_ble_eq_true rfl⟩) rfl hl.1 rfl (Nat.le_of_ble_eq_true rfl) ⟨Nat.zero_le _, Nat.zero_le _⟩ hP hS dX6_isPlace_15 (fun H locs hP hS => ?_)
    refine lv_if_eq (tgt := 25) hx hb dX6_isPlace_18 (by decide) (fun c_4 => ?_) (fun c_4 => ?_)
    · have hF := ifp hF c_4
      refine lv_iconst (v := 0) hx hb dX6_isPlace_25 (by decide) ?_
      cases hF
      exact hret _ _ _ _ dX6_isPlace_26 nb0 hP hD hS
    · have hF := ifn hF c_4
      refine lv_iconst (v := 1) hx hb dX6_isPlace_21 (by decide) ?_
      refine lv_goto (tgt := 26) hx hb dX6_isPlace_22 (by decide) ?_
      cases hF
      exact hret _ _ _ _ dX6_isPlace_26 nb1 hP hD hS
abbrev rmX6_colour : Room := { frames := 5, cells := 0, slots := 0, locals := 126 }
set_option maxRecDepth 100000 in
set_option maxHeartbeats 4000000 in
theorem c_X6_colour (l : Launch) (K : Kx) (D : va_G) (C : Nat → ClassId) (a6 : Nat → Nat) (S6 : Nat → Int32) (A6 : Nat → Nat → Int32) (G6 : Nat → Nat → Int64) (p1 : Int32) (p2 : Int32) (z : Int32 × (Nat → Nat → Int32)) (hF : F_X6_colour A6 p1 p2 = some z) : MetI l yX6_colour wsX6_colour rmX6_colour K D (tyV C) (wX6 C a6 S6 A6 G6) [.ref (a6 0), .int p1, .int p2] (wX6 C a6 S6 z.2 G6) z.1 := by
  refine met_int (cc := cX6_colour) (maxL := 4) (ty := .int) (by decide +kernel) rfl (Nat.le_of_ble_eq_true rfl) ?_
  intro p e s m below meth c A Q ls ⟨hx, hb, hml, hown, hts, hK, hA, hZ⟩ hP hD hS hl hret
  have hown : s.vm.findClass RX6 = some m.cls := hown
  have hl : lv_has ls 4 [(0, .ref (a6 0)), (1, .int p1), (2, .int p2)] := hl
  unfold F_X6_colour at hF
  refine lv_iload_n hx hb dX6_colour_0 rfl (lv_at hl 1 rfl) ?_
  refine lv_iload_n hx hb dX6_colour_1 rfl (lv_at hl 2 rfl) ?_
  obtain ⟨z_1, fz_1, hF⟩ := bd_at hF
  refine callS_int (As := [.int p1, .int p2]) (rest := []) ⟨hx, hb, hml, hown, hts⟩ hK hA hZ (c_X6_isPlace l K D C p1 p2 z_1 fz_1) (va_cwS 2 hts gX6_colour_X6_isPlace rfl rfl rfl (by decide +kernel) ⟨Nat.le_of_ble_eq_true rfl, Nat.le_of_ble_eq_true rfl⟩) rfl hl.1 rfl (Nat.le_of_ble_eq_true rfl) ⟨Nat.zero_le _, Nat.zero_le _⟩ hP hS dX6_colour_2 (fun H locs hP hS => ?_)
  refine lv_if_ne (tgt := 10) hx hb dX6_colour_5 (by decide) (fun c_2 => ?_) (fun c_2 => ?_)
  · have hF := ifn hF c_2
    refine lv_aload_n hx hb dX6_colour_10 rfl (lv_at hl 0 rfl) ?_
    refine lv_bipush (v := 20) hx hb dX6_colour_11 (by decide) ?_
    refine lv_iload_n hx hb dX6_colour_13 rfl (lv_at hl 1 rfl) ?_
    refine lv_imul hx hb dX6_colour_14 ?_
    refine lv_iload_n hx hb dX6_colour_15 rfl (lv_at hl 2 rfl) ?_
    refine lv_iadd hx hb dX6_colour_16 ?_
    obtain ⟨z_3, fz_3, hF⟩ := bd_at hF
    refine callV_int ([]) ([]) (w' := wX6 C a6 S6 z_3.2 G6) (As := [.int ((20 * p1) + p2)]) (rest := []) ⟨hx, hb, hml, hown, hts⟩ hK hA hZ (c_X6_viewAt l K D C a6 S6 A6 G6 ((20 * p1) + p2) z_3 fz_3) (cwV 1 hts gX6_colour_X6_viewAt rfl rfl rfl (by decide +kernel) ⟨Nat.le_of_ble_eq_true rfl, Nat.le_of_ble_eq_true rfl⟩) 0 rfl rfl rfl rfl hl.1 rfl (Nat.le_of_ble_eq_true rfl) ⟨Nat.zero_le _, Nat.zero_le _⟩ (by simp only [List.append_assoc, List.append_nil, List.nil_append]) (by simp only [List.append_assoc, List.append_nil, List.nil_append]) hP hD hS dX6_colour_17 (fun H locs hP hD hS => ?_)
    refine lv_istore_n (lv' := [(3, .int z_3.1), (0, .ref (a6 0)), (1, .int p1), (2, .int p2)]) hx hb dX6_colour_20 rfl hl (by decide) rfl (fun ls hl => ?_)
    refine lv_iload_n hx hb dX6_colour_21 rfl (lv_at hl 0 rfl) ?_
    refine lv_iconst (v := -1) hx hb dX6_colour_22 (by decide) ?_
    refine lv_icmp_ne (tgt := 30) hx hb dX6_colour_23 (by decide) (fun c_4 => ?_) (fun c_4 => ?_)
    · have hF := ifn hF c_4
      refine lv_aload_n hx hb dX6_colour_30 rfl (lv_at hl 1 rfl) ?_
      refine lv_iload_n hx hb dX6_colour_31 rfl (lv_at hl 0 rfl) ?_
      refine lv_bipush (v := 20) hx hb dX6_colour_32 (by decide) ?_
      refine lv_iload_n hx hb dX6_colour_34 rfl (lv_at hl 2 rfl) ?_
      refine lv_imul hx hb dX6_colour_35 ?_
      refine lv_iload_n hx hb dX6_colour_36 rfl (lv_at hl 3 rfl) ?_
      refine lv_iadd hx hb dX6_colour_37 ?_
      obtain ⟨z_5, fz_5, hF⟩ := bd_at hF
      refine callV_int ([]) ([]) (w' := wX6 C a6 S6 z_5.2 G6) (As := [.int z_3.1, .int ((20 * p1) + p2)]) (rest := []) ⟨hx, hb, hml, hown, hts⟩ hK hA hZ (c_X6_colourIn l K D C a6 S6 z_3.2 G6 z_3.1 ((20 * p1) + p2) z_5 fz_5) (cwV 2 hts gX6_colour_X6_colourIn rfl rfl rfl (by decide +kernel) ⟨Nat.le_of_ble_eq_true rfl, Nat.le_of_ble_eq_true rfl⟩) 0 rfl rfl rfl rfl hl.1 rfl (Nat.le_of_ble_eq_true rfl) ⟨Nat.zero_le _, Nat.zero_le _⟩ (by simp only [List.append_assoc, List.append_nil, List.nil_append]) (by simp only [List.append_assoc, List.append_nil, List.nil_append]) hP hD hS dX6_colour_38 (fun H locs hP hD hS => ?_)
      cases hF
      exact hret _ _ _ _ dX6_colour_41 rfl hP hD hS
    · have hF := ifp hF c_4
      refine lv_iconst (v := 0) hx hb dX6_colour_26 (by decide) ?_
      refine lv_goto (tgt := 41) hx hb dX6_colour_27 (by decide) ?_
      cases hF
      exact hret _ _ _ _ dX6_colour_41 rfl hP hD hS
  · have hF := ifp hF c_2
    refine lv_iconst (v := -1) hx hb dX6_colour_8 (by decide) ?_
    cases hF
    exact hret _ _ _ _ dX6_colour_9 rfl hP hD hS
abbrev rmX6_from : Room := { frames := 5, cells := 0, slots := 0, locals := 126 }
set_option maxRecDepth 100000 in
set_option maxHeartbeats 4000000 in
theorem c_X6_from (l : Launch) (K : Kx) (D : va_G) (C : Nat → ClassId) (a6 : Nat → Nat) (S6 : Nat → Int32) (A6 : Nat → Nat → Int32) (G6 : Nat → Nat → Int64) (p1 : Int32) (p2 : Int32) (z : Int32 × (Nat → Nat → Int32)) (hF : F_X6_from A6 p1 p2 = some z) : MetI l yX6_from wsX6_from rmX6_from K D (tyV C) (wX6 C a6 S6 A6 G6) [.ref (a6 0), .int p1, .int p2] (wX6 C a6 S6 z.2 G6) z.1 := by
  refine met_int (cc := cX6_from) (maxL := 3) (ty := .int) (by decide +kernel) rfl (Nat.le_of_ble_eq_true rfl) ?_
  intro p e s m below meth c A Q ls ⟨hx, hb, hml, hown, hts, hK, hA, hZ⟩ hP hD hS hl hret
  have hown : s.vm.findClass RX6 = some m.cls := hown
  have hl : lv_has ls 3 [(0, .ref (a6 0)), (1, .int p1), (2, .int p2)] := hl
  unfold F_X6_from at hF
  refine lv_iload_n hx hb dX6_from_0 rfl (lv_at hl 1 rfl) ?_
  refine lv_iload_n hx hb dX6_from_1 rfl (lv_at hl 2 rfl) ?_
  obtain ⟨z_1, fz_1, hF⟩ := bd_at hF
  refine callS_int (As := [.int p1, .int p2]) (rest := []) ⟨hx, hb, hml, hown, hts⟩ hK hA hZ (c_X6_isPlace l K D C p1 p2 z_1 fz_1) (va_cwS 2 hts gX6_from_X6_isPlace rfl rfl rfl (by decide +kernel) ⟨Nat.le_of_ble_eq_true rfl, Nat.le_of_ble_eq_true rfl⟩) rfl hl.1 rfl (Nat.le_of_ble_eq_true rfl) ⟨Nat.zero_le _, Nat.zero_le _⟩ hP hS dX6_from_2 (fun H locs hP hS => ?_)
  refine lv_if_eq (tgt := 21) hx hb dX6_from_5 (by decide) (fun c_2 => ?_) (fun c_2 => ?_)
  · have hF := ifp hF c_2
    refine lv_iconst (v := -1) hx hb dX6_from_21 (by decide) ?_
    cases hF
    exact hret _ _ _ _ dX6_from_22 rfl hP hD hS
  · have hF := ifn hF c_2
    refine lv_aload_n hx hb dX6_from_8 rfl (lv_at hl 0 rfl) ?_
    refine lv_bipush (v := 20) hx hb dX6_from_9 (by decide) ?_
    refine lv_iload_n hx hb dX6_from_11 rfl (lv_at hl 1 rfl) ?_
    refine lv_imul hx hb dX6_from_12 ?_
    refine lv_iload_n hx hb dX6_from_13 rfl (lv_at hl 2 rfl) ?_
    refine lv_iadd hx hb dX6_from_14 ?_
    obtain ⟨z_3, fz_3, hF⟩ := bd_at hF
    refine callV_int ([]) ([]) (w' := wX6 C a6 S6 z_3.2 G6) (As := [.int ((20 * p1) + p2)]) (rest := []) ⟨hx, hb, hml, hown, hts⟩ hK hA hZ (c_X6_viewAt l K D C a6 S6 A6 G6 ((20 * p1) + p2) z_3 fz_3) (cwV 1 hts gX6_from_X6_viewAt rfl rfl rfl (by decide +kernel) ⟨Nat.le_of_ble_eq_true rfl, Nat.le_of_ble_eq_true rfl⟩) 0 rfl rfl rfl rfl hl.1 rfl (Nat.le_of_ble_eq_true rfl) ⟨Nat.zero_le _, Nat.zero_le _⟩ (by simp only [List.append_assoc, List.append_nil, List.nil_append]) (by simp only [List.append_assoc, List.append_nil, List.nil_append]) hP hD hS dX6_from_15 (fun H locs hP hD hS => ?_)
    refine lv_goto (tgt := 22) hx hb dX6_from_18 (by decide) ?_
    cases hF
    exact hret _ _ _ _ dX6_from_22 rfl hP hD hS
abbrev rmX6_seam : Room := { frames := 4, cells := 0, slots := 0, locals := 101 }
set_option maxRecDepth 100000 in
set_option maxHeartbeats 4000000 in
theorem c_X6_seam (l : Launch) (K : Kx) (D : va_G) (C : Nat → ClassId) (a6 : Nat → Nat) (S6 : Nat → Int32) (A6 : Nat → Nat → Int32) (G6 : Nat → Nat → Int64) (p1 : Int32) (z : Int32 × (Nat → Nat → Int32)) (hF : F_X6_seam A6 p1 = some z) : MetI l yX6_seam wsX6_seam rmX6_seam K D (tyV C) (wX6 C a6 S6 A6 G6) [.ref (a6 0), .int p1] (wX6 C a6 S6 z.2 G6) z.1 := by
  refine met_int (cc := cX6_seam) (maxL := 6) (ty := .int) (by decide +kernel) rfl (Nat.le_of_ble_eq_true rfl) ?_
  intro p e s m below meth c A Q ls ⟨hx, hb, hml, hown, hts, hK, hA, hZ⟩ hP hD hS hl hret
  have hown : s.vm.findClass RX6 = some m.cls := hown
  have hl : lv_has ls 6 [(0, .ref (a6 0)), (1, .int p1)] := hl
  unfold F_X6_seam at hF
  obtain ⟨J75, eJ75, hF⟩ := nm_ex hF
  have bJ75 : ∀ (x2 : Int32) (A6 : Nat → Nat → Int32), J75 x2 A6 = some z → ∀ (H : Heap) (locs : List Loc) (ls : Array Slot), va_P D vwCl (wX6 C a6 S6 A6 G6) H → va_D A (wX6 C a6 S6 A6 G6) → va_S A s.heap H locs → lv_has ls 6 [(2, .int x2)] → W p l e rmX6_seam s m ([.ref (a6 0), .int p1] : List Value).toArray below meth c H locs 0 0 Q (F0 m 75 ls []) := by
    intro x2 A6 hF H locs ls hP hD hS hl
    rw [eJ75] at hF
    refine lv_iload_n hx hb dX6_seam_75 rfl (lv_at hl 0 rfl) ?_
    cases hF
    exact hret _ _ _ _ dX6_seam_76 rfl hP hD hS
  have bL16 : ∀ (n : Nat) (x1 : Int32) (x2 : Int32) (x3 : Int32) (A6 : Nat → Nat → Int32), L_X6_seam_16 J75 n x1 x2 x3 A6 = some z → ∀ (H : Heap) (locs : List Loc) (ls : Array Slot), va_P D vwCl (wX6 C a6 S6 A6 G6) H → va_D A (wX6 C a6 S6 A6 G6) → va_S A s.heap H locs → lv_has ls 6 [(0, .ref (a6 0)), (1, .int x1), (2, .int x2), (3, .int x3)] → W p l e rmX6_seam s m ([.ref (a6 0), .int p1] : List Value).toArray below meth c H locs 0 0 Q (F0 m 16 ls []) := by
    intro n
    induction n with
    | zero => intro x1 x2 x3 A6 hF; rw [L_X6_seam_16.eq_1] at hF; cases hF
    | succ n ih16 =>
      intro x1 x2 x3 A6 hF H locs ls hP hD hS hl
      rw [L_X6_seam_16.eq_2] at hF
      obtain ⟨J67, eJ67, hF⟩ := nm_ex hF
      have bJ67 : ∀ (x1 : Int32) (x3 : Int32) (y0 : Int32) (y1 : Int32) (A6 : Nat → Nat → Int32), J67 x1 x3 y0 y1 A6 = some z → ∀ (H : Heap) (locs : List Loc) (ls : Array Slot), va_P D vwCl (wX6 C a6 S6 A6 G6) H → va_D A (wX6 C a6 S6 A6 G6) → va_S A s.heap H locs → lv_has ls 6 [(0, .ref (a6 0)), (1, .int x1), (3, .int x3)] → W p l e rmX6_seam s m ([.ref (a6 0), .int p1] : List Value).toArray below meth c H locs 0 0 Q (F0 m 67 ls [.int y0, .int y1]) := by
        intro x1 x3 y0 y1 A6 hF H locs ls hP hD hS hl
        rw [eJ67] at hF
        refine lv_iadd hx hb dX6_seam_67 ?_
        refine lv_topi (fun v_1 ev_1 => ?_)
        have hF := nm_at hF ev_1
        refine lv_istore_n (lv' := [(2, .int v_1), (0, .ref (a6 0)), (1, .int x1), (3, .int x3)]) hx hb dX6_seam_68 rfl hl (by decide) rfl (fun ls hl => ?_)
        obtain ⟨v_2, ev_2⟩ : ∃ y : Int32, y = x3 + 1 := ⟨_, rfl⟩
        have hF := nm_at hF ev_2
        refine lv_iinc (v := v_2) (lv' := [(3, .int v_2), (2, .int v_1), (0, .ref (a6 0)), (1, .int x1)]) hx hb dX6_seam_69 hl (k := 3) rfl (by rw [ev_2]; rfl) (by decide) rfl (fun ls hl => ?_)
        refine lv_goto (tgt := 16) hx hb dX6_seam_72 (by decide) ?_
        exact ih16 x1 v_1 v_2 A6 hF _ _ _ hP hD hS (lv_sub hl [2, 3, 1, 0] rfl)
      obtain ⟨J66, eJ66, hF⟩ := nm_ex hF
      have bJ66 : ∀ (x1 : Int32) (x3 : Int32) (y0 : Int32) (A6 : Nat → Nat → Int32), J66 x1 x3 y0 A6 = some z → ∀ (H : Heap) (locs : List Loc) (ls : Array Slot), va_P D vwCl (wX6 C a6 S6 A6 G6) H → va_D A (wX6 C a6 S6 A6 G6) → va_S A s.heap H locs → lv_has ls 6 [(0, .ref (a6 0)), (1, .int x1), (3, .int x3)] → W p l e rmX6_seam s m ([.ref (a6 0), .int p1] : List Value).toArray below meth c H locs 0 0 Q (F0 m 66 ls [.int y0]) := by
        intro x1 x3 y0 A6 hF H locs ls hP hD hS hl
        rw [eJ66] at hF
        refine lv_iconst (v := 0) hx hb dX6_seam_66 (by decide) ?_
        exact bJ67 x1 x3 0 y0 A6 hF _ _ _ hP hD hS (lv_sub hl [0, 1, 2] rfl)
      refine lv_iload_n hx hb dX6_seam_16 rfl (lv_at hl 3 rfl) ?_
      refine lv_sipush (v := 7200) hx hb dX6_seam_17 (by decide) ?_
      refine lv_icmp_ge (tgt := 75) hx hb dX6_seam_20 (by decide) (fun c_3 => ?_) (fun c_3 => ?_)
      · have hF := ifp hF c_3
        exact bJ75 x2 A6 hF _ _ _ hP hD hS (lv_sub hl [2] rfl)
      · have hF := ifn hF c_3
        refine lv_aload_n hx hb dX6_seam_23 rfl (lv_at hl 0 rfl) ?_
        refine lv_iload_n hx hb dX6_seam_24 rfl (lv_at hl 1 rfl) ?_
        refine lv_iload_n hx hb dX6_seam_25 rfl (lv_at hl 3 rfl) ?_
        obtain ⟨z_4, fz_4, hF⟩ := bd_at hF
        refine callV_int ([]) ([]) (w' := wX6 C a6 S6 z_4.2 G6) (As := [.int x1, .int x3]) (rest := []) ⟨hx, hb, hml, hown, hts⟩ hK hA hZ (c_X6_colourIn l K D C a6 S6 A6 G6 x1 x3 z_4 fz_4) (cwV 2 hts gX6_seam_X6_colourIn rfl rfl rfl (by decide +kernel) ⟨Nat.le_of_ble_eq_true rfl, Nat.le_of_ble_eq_true rfl⟩) 0 rfl rfl rfl rfl hl.1 rfl (Nat.le_of_ble_eq_true rfl) ⟨Nat.zero_le _, Nat.zero_le _⟩ (by simp only [List.append_assoc, List.append_nil, List.nil_append]) (by simp only [List.append_assoc, List.append_nil, List.nil_append]) hP hD hS dX6_seam_26 (fun H locs hP hD hS => ?_)
        refine lv_istore (lv' := [(4, .int z_4.1), (0, .ref (a6 0)), (1, .int x1), (2, .int x2), (3, .int x3)]) hx hb dX6_seam_29 hl (by decide) rfl (fun ls hl => ?_)
        refine lv_aload_n hx hb dX6_seam_31 rfl (lv_at hl 1 rfl) ?_
        refine lv_iload_n hx hb dX6_seam_32 rfl (lv_at hl 2 rfl) ?_
        refine lv_iconst (v := 1) hx hb dX6_seam_33 (by decide) ?_
        refine lv_iadd hx hb dX6_seam_34 ?_
        refine lv_bipush (v := 12) hx hb dX6_seam_35 (by decide) ?_
        refine lv_irem hx hb dX6_seam_37 (by decide) ?_
        refine lv_iload_n hx hb dX6_seam_38 rfl (lv_at hl 4 rfl) ?_
        obtain ⟨z_5, fz_5, hF⟩ := bd_at hF
        refine callV_int ([]) ([]) (w' := wX6 C a6 S6 z_5.2 G6) (As := [.int ((x1 + 1) - (x1 + 1) / 12 * 12), .int x3]) (rest := []) ⟨hx, hb, hml, hown, hts⟩ hK hA hZ (c_X6_colourIn l K D C a6 S6 z_4.2 G6 ((x1 + 1) - (x1 + 1) / 12 * 12) x3 z_5 fz_5) (cwV 2 hts gX6_seam_X6_colourIn rfl rfl rfl (by decide +kernel) ⟨Nat.le_of_ble_eq_true rfl, Nat.le_of_ble_eq_true rfl⟩) 0 rfl rfl rfl rfl hl.1 rfl (Nat.le_of_ble_eq_true rfl) ⟨Nat.zero_le _, Nat.zero_le _⟩ (by simp only [List.append_assoc, List.append_nil, List.nil_append]) (by simp only [List.append_assoc, List.append_nil, List.nil_append]) hP hD hS dX6_seam_39 (fun H locs hP hD hS => ?_)
        refine lv_istore (lv' := [(5, .int z_5.1), (4, .int z_4.1), (0, .ref (a6 0)), (1, .int x1), (2, .int x2), (3, .int x3)]) hx hb dX6_seam_42 hl (by decide) rfl (fun ls hl => ?_)
        refine lv_iload_n hx hb dX6_seam_44 rfl (lv_at hl 4 rfl) ?_
        refine lv_iload hx hb dX6_seam_45 (lv_at hl 1 rfl) ?_
        refine lv_if_eq (tgt := 66) hx hb dX6_seam_47 (by decide) (fun c_6 => ?_) (fun c_6 => ?_)
        · have hF := ifp hF c_6
          exact bJ66 x1 x3 x2 z_5.2 hF _ _ _ hP hD hS (lv_sub hl [2, 3, 5] rfl)
        · have hF := ifn hF c_6
          refine lv_iload hx hb dX6_seam_50 (lv_at hl 0 rfl) ?_
          refine lv_if_eq (tgt := 66) hx hb dX6_seam_52 (by decide) (fun c_7 => ?_) (fun c_7 => ?_)
          · have hF := ifp hF c_7
            exact bJ66 x1 x3 x2 z_5.2 hF _ _ _ hP hD hS (lv_sub hl [2, 3, 5] rfl)
          · have hF := ifn hF c_7
            refine lv_iload hx hb dX6_seam_55 (lv_at hl 1 rfl) ?_
            refine lv_iload hx hb dX6_seam_57 (lv_at hl 0 rfl) ?_
            refine lv_icmp_eq (tgt := 66) hx hb dX6_seam_59 (by decide) (fun c_8 => ?_) (fun c_8 => ?_)
            · have hF := ifp hF c_8
              exact bJ66 x1 x3 x2 z_5.2 hF _ _ _ hP hD hS (lv_sub hl [2, 3, 5] rfl)
            · have hF := ifn hF c_8
              refine lv_iconst (v := 1) hx hb dX6_seam_62 (by decide) ?_
              refine lv_goto (tgt := 67) hx hb dX6_seam_63 (by decide) ?_
              exact bJ67 x1 x3 1 x2 z_5.2 hF _ _ _ hP hD hS (lv_sub hl [2, 3, 5] rfl)
  refine lv_iload_n hx hb dX6_seam_0 rfl (lv_at hl 1 rfl) ?_
  refine lv_iconst (v := 0) hx hb dX6_seam_1 (by decide) ?_
  refine lv_bipush (v := 11) hx hb dX6_seam_2 (by decide) ?_
  obtain ⟨z_9, fz_9, hF⟩ := bd_at hF
  refine callS_int (As := [.int p1, .int 0, .int 11]) (rest := []) ⟨hx, hb, hml, hown, hts⟩ hK hA hZ (c_X6_isIn l K D C p1 0 11 z_9 fz_9) (va_cwS 3 hts gX6_seam_X6_isIn rfl rfl rfl (by decide +kernel) ⟨Nat.le_of_ble_eq_true rfl, Nat.le_of_ble_eq_true rfl⟩) rfl hl.1 rfl (Nat.le_of_ble_eq_true rfl) ⟨Nat.zero_le _, Nat.zero_le _⟩ hP hS dX6_seam_4 (fun H locs hP hS => ?_)
  refine lv_if_ne (tgt := 12) hx hb dX6_seam_7 (by decide) (fun c_10 => ?_) (fun c_10 => ?_)
  · have hF := ifn hF c_10
    refine lv_iconst (v := 0) hx hb dX6_seam_12 (by decide) ?_
    refine lv_istore_n (lv' := [(2, .int 0), (0, .ref (a6 0)), (1, .int p1)]) hx hb dX6_seam_13 rfl hl (by decide) rfl (fun ls hl => ?_)
    refine lv_iconst (v := 0) hx hb dX6_seam_14 (by decide) ?_
    refine lv_istore_n (lv' := [(3, .int 0), (2, .int 0), (0, .ref (a6 0)), (1, .int p1)]) hx hb dX6_seam_15 rfl hl (by decide) rfl (fun ls hl => ?_)
    exact bL16 FU p1 0 0 A6 hF _ _ _ hP hD hS (lv_sub hl [2, 3, 1, 0] rfl)
  · have hF := ifp hF c_10
    refine lv_iconst (v := -1) hx hb dX6_seam_10 (by decide) ?_
    cases hF
    exact hret _ _ _ _ dX6_seam_11 rfl hP hD hS
abbrev rmX6_isSquare : Room := { frames := 2, cells := 0, slots := 0, locals := 54 }
set_option maxRecDepth 100000 in
set_option maxHeartbeats 4000000 in
theorem c_X6_isSquare (l : Launch) (K : Kx) (D : va_G) (C : Nat → ClassId) (p1 : Int32) (z : Int32) (hF : F_X6_isSquare p1 = some z) : MetI l yX6_isSquare wsX6_isSquare rmX6_isSquare K D (tyV C) (([] : va_W)) [.int p1] (([] : va_W)) z := by
  refine met_int (cc := cX6_isSquare) (maxL := 1) (ty := .boolean) (by decide +kernel) rfl (Nat.le_of_ble_eq_true rfl) ?_
  intro p e s m below meth c A Q ls ⟨hx, hb, hml, hown, hts, hK, hA, hZ⟩ hP hD hS hl hret
  have hown : s.vm.findClass RX6 = some m.cls := hown
  have hl : lv_has ls 1 [(0, .int p1)] := hl
  unfold F_X6_isSquare at hF
  refine lv_iload_n hx hb dX6_isSquare_0 rfl (lv_at hl 0 rfl) ?_
  refine lv_iconst (v := 0) hx hb dX6_isSquare_1 (by decide) ?_
  refine lv_bipush (v := 71) hx hb dX6_isSquare_2 (by decide) ?_
  obtain ⟨z_1, fz_1, hF⟩ := bd_at hF
  refine callS_int (As := [.int p1, .int 0, .int 71]) (rest := []) ⟨hx, hb, hml, hown, hts⟩ hK hA hZ (c_X6_isIn l K D C p1 0 71 z_1 fz_1) (va_cwS 3 hts gX6_isSquare_X6_isIn rfl rfl rfl (by decide +kernel) ⟨Nat.le_of_ble_eq_true rfl, Nat.le_of_ble_eq_true rfl⟩) rfl hl.1 rfl (Nat.le_of_ble_eq_true rfl) ⟨Nat.zero_le _, Nat.zero_le _⟩ hP hS dX6_isSquare_4 (fun H locs hP hS => ?_)
  obtain ⟨b_2, hF⟩ := zb_at hF
  cases hF
  exact hret _ _ _ _ dX6_isSquare_7 b_2 hP hD hS
abbrev rmX6_work : Room := { frames := 5, cells := 0, slots := 0, locals := 126 }
set_option maxRecDepth 100000 in
set_option maxHeartbeats 4000000 in
theorem c_X6_work (l : Launch) (K : Kx) (D : va_G) (C : Nat → ClassId) (a6 : Nat → Nat) (S6 : Nat → Int32) (A6 : Nat → Nat → Int32) (G6 : Nat → Nat → Int64) (p1 : Int32) (z : Int32 × (Nat → Nat → Int32)) (hF : F_X6_work A6 p1 = some z) : MetI l yX6_work wsX6_work rmX6_work K D (tyV C) (wX6 C a6 S6 A6 G6) [.ref (a6 0), .int p1] (wX6 C a6 S6 z.2 G6) z.1 := by
  refine met_int (cc := cX6_work) (maxL := 6) (ty := .int) (by decide +kernel) rfl (Nat.le_of_ble_eq_true rfl) ?_
  intro p e s m below meth c A Q ls ⟨hx, hb, hml, hown, hts, hK, hA, hZ⟩ hP hD hS hl hret
  have hown : s.vm.findClass RX6 = some m.cls := hown
  have hl : lv_has ls 6 [(0, .ref (a6 0)), (1, .int p1)] := hl
  unfold F_X6_work at hF
  obtain ⟨J87, eJ87, hF⟩ := nm_ex hF
  have bJ87 : ∀ (x2 : Int32) (A6 : Nat → Nat → Int32), J87 x2 A6 = some z → ∀ (H : Heap) (locs : List Loc) (ls : Array Slot), va_P D vwCl (wX6 C a6 S6 A6 G6) H → va_D A (wX6 C a6 S6 A6 G6) → va_S A s.heap H locs → lv_has ls 6 [(2, .int x2)] → W p l e rmX6_work s m ([.ref (a6 0), .int p1] : List Value).toArray below meth c H locs 0 0 Q (F0 m 87 ls []) := by
    intro x2 A6 hF H locs ls hP hD hS hl
    rw [eJ87] at hF
    refine lv_iload_n hx hb dX6_work_87 rfl (lv_at hl 0 rfl) ?_
    cases hF
    exact hret _ _ _ _ dX6_work_88 rfl hP hD hS
  have bL24 : ∀ (n : Nat) (x1 : Int32) (x2 : Int32) (x3 : Int32) (x4 : Int32) (A6 : Nat → Nat → Int32), L_X6_work_24 J87 n x1 x2 x3 x4 A6 = some z → ∀ (H : Heap) (locs : List Loc) (ls : Array Slot), va_P D vwCl (wX6 C a6 S6 A6 G6) H → va_D A (wX6 C a6 S6 A6 G6) → va_S A s.heap H locs → lv_has ls 6 [(0, .ref (a6 0)), (1, .int x1), (2, .int x2), (3, .int x3), (4, .int x4)] → W p l e rmX6_work s m ([.ref (a6 0), .int p1] : List Value).toArray below meth c H locs 0 0 Q (F0 m 24 ls []) := by
    intro n
    induction n with
    | zero => intro x1 x2 x3 x4 A6 hF; rw [L_X6_work_24.eq_1] at hF; cases hF
    | succ n ih24 =>
      intro x1 x2 x3 x4 A6 hF H locs ls hP hD hS hl
      rw [L_X6_work_24.eq_2] at hF
      obtain ⟨J81, eJ81, hF⟩ := nm_ex hF
      have bJ81 : ∀ (x1 : Int32) (x2 : Int32) (x3 : Int32) (x4 : Int32) (A6 : Nat → Nat → Int32), J81 x1 x2 x3 x4 A6 = some z → ∀ (H : Heap) (locs : List Loc) (ls : Array Slot), va_P D vwCl (wX6 C a6 S6 A6 G6) H → va_D A (wX6 C a6 S6 A6 G6) → va_S A s.heap H locs → lv_has ls 6 [(0, .ref (a6 0)), (1, .int x1), (2, .int x2), (3, .int x3), (4, .int x4)] → W p l e rmX6_work s m ([.ref (a6 0), .int p1] : List Value).toArray below meth c H locs 0 0 Q (F0 m 81 ls []) := by
        intro x1 x2 x3 x4 A6 hF H locs ls hP hD hS hl
        rw [eJ81] at hF
        obtain ⟨v_1, ev_1⟩ : ∃ y : Int32, y = x4 + 1 := ⟨_, rfl⟩
        have hF := nm_at hF ev_1
        refine lv_iinc (v := v_1) (lv' := [(4, .int v_1), (0, .ref (a6 0)), (1, .int x1), (2, .int x2), (3, .int x3)]) hx hb dX6_work_81 hl (k := 4) rfl (by rw [ev_1]; rfl) (by decide) rfl (fun ls hl => ?_)
        refine lv_goto (tgt := 24) hx hb dX6_work_84 (by decide) ?_
        exact ih24 x1 x2 x3 v_1 A6 hF _ _ _ hP hD hS (lv_sub hl [1, 2, 3, 4, 0] rfl)
      have bL42 : ∀ (n : Nat) (x1 : Int32) (x2 : Int32) (x3 : Int32) (x4 : Int32) (x5 : Int32) (A6 : Nat → Nat → Int32), L_X6_work_42 J81 n x1 x2 x3 x4 x5 A6 = some z → ∀ (H : Heap) (locs : List Loc) (ls : Array Slot), va_P D vwCl (wX6 C a6 S6 A6 G6) H → va_D A (wX6 C a6 S6 A6 G6) → va_S A s.heap H locs → lv_has ls 6 [(0, .ref (a6 0)), (1, .int x1), (2, .int x2), (3, .int x3), (4, .int x4), (5, .int x5)] → W p l e rmX6_work s m ([.ref (a6 0), .int p1] : List Value).toArray below meth c H locs 0 0 Q (F0 m 42 ls []) := by
        intro n
        induction n with
        | zero => intro x1 x2 x3 x4 x5 A6 hF; rw [L_X6_work_42.eq_1] at hF; cases hF
        | succ n ih42 =>
          intro x1 x2 x3 x4 x5 A6 hF H locs ls hP hD hS hl
          rw [L_X6_work_42.eq_2] at hF
          obtain ⟨J73, eJ73, hF⟩ := nm_ex hF
          have bJ73 : ∀ (x1 : Int32) (x3 : Int32) (x4 : Int32) (x5 : Int32) (y0 : Int32) (y1 : Int32) (A6 : Nat → Nat → Int32), J73 x1 x3 x4 x5 y0 y1 A6 = some z → ∀ (H : Heap) (locs : List Loc) (ls : Array Slot), va_P D vwCl (wX6 C a6 S6 A6 G6) H → va_D A (wX6 C a6 S6 A6 G6) → va_S A s.heap H locs → lv_has ls 6 [(0, .ref (a6 0)), (1, .int x1), (3, .int x3), (4, .int x4), (5, .int x5)] → W p l e rmX6_work s m ([.ref (a6 0), .int p1] : List Value).toArray below meth c H locs 0 0 Q (F0 m 73 ls [.int y0, .int y1]) := by
            intro x1 x3 x4 x5 y0 y1 A6 hF H locs ls hP hD hS hl
            rw [eJ73] at hF
            refine lv_iadd hx hb dX6_work_73 ?_
            refine lv_topi (fun v_2 ev_2 => ?_)
            have hF := nm_at hF ev_2
            refine lv_istore_n (lv' := [(2, .int v_2), (0, .ref (a6 0)), (1, .int x1), (3, .int x3), (4, .int x4), (5, .int x5)]) hx hb dX6_work_74 rfl hl (by decide) rfl (fun ls hl => ?_)
            obtain ⟨v_3, ev_3⟩ : ∃ y : Int32, y = x5 + 1 := ⟨_, rfl⟩
            have hF := nm_at hF ev_3
            refine lv_iinc (v := v_3) (lv' := [(5, .int v_3), (2, .int v_2), (0, .ref (a6 0)), (1, .int x1), (3, .int x3), (4, .int x4)]) hx hb dX6_work_75 hl (k := 5) rfl (by rw [ev_3]; rfl) (by decide) rfl (fun ls hl => ?_)
            refine lv_goto (tgt := 42) hx hb dX6_work_78 (by decide) ?_
            exact ih42 x1 v_2 x3 x4 v_3 A6 hF _ _ _ hP hD hS (lv_sub hl [2, 3, 1, 4, 5, 0] rfl)
          refine lv_iload hx hb dX6_work_42 (lv_at hl 5 rfl) ?_
          refine lv_iload_n hx hb dX6_work_44 rfl (lv_at hl 3 rfl) ?_
          refine lv_bipush (v := 10) hx hb dX6_work_45 (by decide) ?_
          refine lv_iadd hx hb dX6_work_47 ?_
          refine lv_icmp_ge (tgt := 81) hx hb dX6_work_48 (by decide) (fun c_4 => ?_) (fun c_4 => ?_)
          · have hF := ifp hF c_4
            exact bJ81 x1 x2 x3 x4 A6 hF _ _ _ hP hD hS (lv_sub hl [0, 1, 2, 3, 4] rfl)
          · have hF := ifn hF c_4
            refine lv_iload_n hx hb dX6_work_51 rfl (lv_at hl 2 rfl) ?_
            refine lv_aload_n hx hb dX6_work_52 rfl (lv_at hl 0 rfl) ?_
            refine lv_bipush (v := 20) hx hb dX6_work_53 (by decide) ?_
            refine lv_iload hx hb dX6_work_55 (lv_at hl 4 rfl) ?_
            refine lv_imul hx hb dX6_work_57 ?_
            refine lv_iload hx hb dX6_work_58 (lv_at hl 5 rfl) ?_
            refine lv_iadd hx hb dX6_work_60 ?_
            obtain ⟨z_5, fz_5, hF⟩ := bd_at hF
            refine callV_int ([]) ([]) (w' := wX6 C a6 S6 z_5.2 G6) (As := [.int ((20 * x4) + x5)]) (rest := [.int x2]) ⟨hx, hb, hml, hown, hts⟩ hK hA hZ (c_X6_viewAt l K D C a6 S6 A6 G6 ((20 * x4) + x5) z_5 fz_5) (cwV 1 hts gX6_work_X6_viewAt rfl rfl rfl (by decide +kernel) ⟨Nat.le_of_ble_eq_true rfl, Nat.le_of_ble_eq_true rfl⟩) 0 rfl rfl rfl rfl hl.1 rfl (Nat.le_of_ble_eq_true rfl) ⟨Nat.zero_le _, Nat.zero_le _⟩ (by simp only [List.append_assoc, List.append_nil, List.nil_append]) (by simp only [List.append_assoc, List.append_nil, List.nil_append]) hP hD hS dX6_work_61 (fun H locs hP hD hS => ?_)
            refine lv_iconst (v := -1) hx hb dX6_work_64 (by decide) ?_
            refine lv_icmp_eq (tgt := 72) hx hb dX6_work_65 (by decide) (fun c_6 => ?_) (fun c_6 => ?_)
            · have hF := ifp hF c_6
              refine lv_iconst (v := 0) hx hb dX6_work_72 (by decide) ?_
              exact bJ73 x1 x3 x4 x5 0 x2 z_5.2 hF _ _ _ hP hD hS (lv_sub hl [0, 1, 3, 4, 5] rfl)
            · have hF := ifn hF c_6
              refine lv_iconst (v := 1) hx hb dX6_work_68 (by decide) ?_
              refine lv_goto (tgt := 73) hx hb dX6_work_69 (by decide) ?_
              exact bJ73 x1 x3 x4 x5 1 x2 z_5.2 hF _ _ _ hP hD hS (lv_sub hl [0, 1, 3, 4, 5] rfl)
      refine lv_iload hx hb dX6_work_24 (lv_at hl 4 rfl) ?_
      refine lv_bipush (v := 10) hx hb dX6_work_26 (by decide) ?_
      refine lv_iload_n hx hb dX6_work_28 rfl (lv_at hl 1 rfl) ?_
      refine lv_bipush (v := 36) hx hb dX6_work_29 (by decide) ?_
      refine lv_irem hx hb dX6_work_31 (by decide) ?_
      refine lv_imul hx hb dX6_work_32 ?_
      refine lv_bipush (v := 10) hx hb dX6_work_33 (by decide) ?_
      refine lv_iadd hx hb dX6_work_35 ?_
      refine lv_icmp_ge (tgt := 87) hx hb dX6_work_36 (by decide) (fun c_7 => ?_) (fun c_7 => ?_)
      · have hF := ifp hF c_7
        exact bJ87 x2 A6 hF _ _ _ hP hD hS (lv_sub hl [2] rfl)
      · have hF := ifn hF c_7
        refine lv_iload_n hx hb dX6_work_39 rfl (lv_at hl 3 rfl) ?_
        refine lv_istore (lv' := [(5, .int x3), (0, .ref (a6 0)), (1, .int x1), (2, .int x2), (3, .int x3), (4, .int x4)]) hx hb dX6_work_40 hl (by decide) rfl (fun ls hl => ?_)
        exact bL42 FU x1 x2 x3 x4 x3 A6 hF _ _ _ hP hD hS (lv_sub hl [1, 2, 3, 4, 5, 0] rfl)
  obtain ⟨J14, eJ14, hF⟩ := nm_ex hF
  have bJ14 : ∀ (x1 : Int32) (x2 : Int32) (y0 : Int32) (A6 : Nat → Nat → Int32), J14 x1 x2 y0 A6 = some z → ∀ (H : Heap) (locs : List Loc) (ls : Array Slot), va_P D vwCl (wX6 C a6 S6 A6 G6) H → va_D A (wX6 C a6 S6 A6 G6) → va_S A s.heap H locs → lv_has ls 6 [(0, .ref (a6 0)), (1, .int x1), (2, .int x2)] → W p l e rmX6_work s m ([.ref (a6 0), .int p1] : List Value).toArray below meth c H locs 0 0 Q (F0 m 14 ls [.int y0]) := by
    intro x1 x2 y0 A6 hF H locs ls hP hD hS hl
    rw [eJ14] at hF
    refine lv_istore_n (lv' := [(3, .int y0), (0, .ref (a6 0)), (1, .int x1), (2, .int x2)]) hx hb dX6_work_14 rfl hl (by decide) rfl (fun ls hl => ?_)
    refine lv_bipush (v := 10) hx hb dX6_work_15 (by decide) ?_
    refine lv_iload_n hx hb dX6_work_17 rfl (lv_at hl 2 rfl) ?_
    refine lv_bipush (v := 36) hx hb dX6_work_18 (by decide) ?_
    refine lv_irem hx hb dX6_work_20 (by decide) ?_
    refine lv_imul hx hb dX6_work_21 ?_
    refine lv_topi (fun v_8 ev_8 => ?_)
    have hF := nm_at hF ev_8
    refine lv_istore (lv' := [(4, .int v_8), (3, .int y0), (0, .ref (a6 0)), (1, .int x1), (2, .int x2)]) hx hb dX6_work_22 hl (by decide) rfl (fun ls hl => ?_)
    exact bL24 FU x1 x2 y0 v_8 A6 hF _ _ _ hP hD hS (lv_sub hl [2, 3, 4, 1, 0] rfl)
  refine lv_iconst (v := 3) hx hb dX6_work_0 (by decide) ?_
  refine lv_istore_n (lv' := [(2, .int 3), (0, .ref (a6 0)), (1, .int p1)]) hx hb dX6_work_1 rfl hl (by decide) rfl (fun ls hl => ?_)
  refine lv_iload_n hx hb dX6_work_2 rfl (lv_at hl 2 rfl) ?_
  refine lv_bipush (v := 36) hx hb dX6_work_3 (by decide) ?_
  refine lv_icmp_ge (tgt := 13) hx hb dX6_work_5 (by decide) (fun c_9 => ?_) (fun c_9 => ?_)
  · have hF := ifp hF c_9
    refine lv_iconst (v := 0) hx hb dX6_work_13 (by decide) ?_
    exact bJ14 p1 3 0 A6 hF _ _ _ hP hD hS (lv_sub hl [1, 2, 0] rfl)
  · have hF := ifn hF c_9
    refine lv_bipush (v := 10) hx hb dX6_work_8 (by decide) ?_
    refine lv_goto (tgt := 14) hx hb dX6_work_10 (by decide) ?_
    exact bJ14 p1 3 10 A6 hF _ _ _ hP hD hS (lv_sub hl [1, 2, 0] rfl)
abbrev rmX6_gang : Room := { frames := 2, cells := 0, slots := 0, locals := 54 }
set_option maxRecDepth 100000 in
set_option maxHeartbeats 4000000 in
theorem c_X6_gang (l : Launch) (K : Kx) (D : va_G) (C : Nat → ClassId) (a6 : Nat → Nat) (S6 : Nat → Int32) (A6 : Nat → Nat → Int32) (G6 : Nat → Nat → Int64) (p1 : Int32) (z : Int32 × (Nat → Int32) × (Nat → Nat → Int32)) (hF : F_X6_gang S6 A6 p1 = some z) : MetI l yX6_gang wsX6_gang rmX6_gang K D (tyV C) (wX6 C a6 S6 A6 G6) [.ref (a6 0), .int p1] (wX6 C a6 z.2.1 z.2.2 G6) z.1 := by
  refine met_int (cc := cX6_gang) (maxL := 2) (ty := .int) (by decide +kernel) rfl (Nat.le_of_ble_eq_true rfl) ?_
  intro p e s m below meth c A Q ls ⟨hx, hb, hml, hown, hts, hK, hA, hZ⟩ hP hD hS hl hret
  have hown : s.vm.findClass RX6 = some m.cls := hown
  have hiX6 : ∀ w ∈ u_ws RX6 TX6 42, w ∈ wsX6_gang := by decide +kernel
  have hl : lv_has ls 2 [(0, .ref (a6 0)), (1, .int p1)] := hl
  unfold F_X6_gang at hF
  refine lv_iload_n hx hb dX6_gang_0 rfl (lv_at hl 1 rfl) ?_
  refine lv_iconst (v := 1) hx hb dX6_gang_1 (by decide) ?_
  refine lv_bipush (v := 20) hx hb dX6_gang_2 (by decide) ?_
  obtain ⟨z_1, fz_1, hF⟩ := bd_at hF
  refine callS_int (As := [.int p1, .int 1, .int 20]) (rest := []) ⟨hx, hb, hml, hown, hts⟩ hK hA hZ (c_X6_isIn l K D C p1 1 20 z_1 fz_1) (va_cwS 3 hts gX6_gang_X6_isIn rfl rfl rfl (by decide +kernel) ⟨Nat.le_of_ble_eq_true rfl, Nat.le_of_ble_eq_true rfl⟩) rfl hl.1 rfl (Nat.le_of_ble_eq_true rfl) ⟨Nat.zero_le _, Nat.zero_le _⟩ hP hS dX6_gang_4 (fun H locs hP hS => ?_)
  refine lv_if_eq (tgt := 19) hx hb dX6_gang_7 (by decide) (fun c_2 => ?_) (fun c_2 => ?_)
  · have hF := ifp hF c_2
    refine lv_iconst (v := -1) hx hb dX6_gang_19 (by decide) ?_
    cases hF
    exact hret _ _ _ _ dX6_gang_20 rfl hP hD hS
  · have hF := ifn hF c_2
    refine lv_aload_n hx hb dX6_gang_10 rfl (lv_at hl 0 rfl) ?_
    refine va_get (D := D) (ci := 6) (v := .int (S6 4)) (C := RX6) (T := TX6) (N := 42) hx hb hts hiX6 hown hK hP 0 rfl rfl 4 (by decide) (hts (.fieldLink RX6 148 "PanoramaHouseModel" "gangs" "I") (by decide +kernel)) (fun _ h9 => h9) rfl dX6_gang_11 ?_
    refine lv_bipush (v := 6) hx hb dX6_gang_14 (by decide) ?_
    refine lv_icmp_ne (tgt := 21) hx hb dX6_gang_16 (by decide) (fun c_3 => ?_) (fun c_3 => ?_)
    · have hF := ifn hF c_3
      refine lv_aload_n hx hb dX6_gang_21 rfl (lv_at hl 0 rfl) ?_
      refine va_get (D := D) (ci := 6) (v := .ref (a6 6)) (C := RX6) (T := TX6) (N := 42) hx hb hts hiX6 hown hK hP 0 rfl rfl 5 (by decide) (hts (.fieldLink RX6 21 "PanoramaHouseModel" "skill" "[I") (by decide +kernel)) (fun _ h9 => h9) rfl dX6_gang_22 ?_
      refine lv_aload_n hx hb dX6_gang_25 rfl (lv_at hl 0 rfl) ?_
      refine va_get (D := D) (ci := 6) (v := .int (S6 4)) (C := RX6) (T := TX6) (N := 42) hx hb hts hiX6 hown hK hP 0 rfl rfl 4 (by decide) (hts (.fieldLink RX6 148 "PanoramaHouseModel" "gangs" "I") (by decide +kernel)) (fun _ h9 => h9) rfl dX6_gang_26 ?_
      refine lv_iload_n hx hb dX6_gang_29 rfl (lv_at hl 1 rfl) ?_
      obtain ⟨h_4, hF⟩ := ix_at hF
      refine va_iast hx hb hK hP hD hS 4 0 rfl rfl h_4 dX6_gang_30 (fun H locs hP hD hS => ?_)
      obtain ⟨A6_5, eA6_5, hF⟩ := nm_ex hF
      have hP : va_P D vwCl (wX6 C a6 S6 A6_5 G6) H := by rw [eA6_5]; exact hP
      have hD : va_D A (wX6 C a6 S6 A6_5 G6) := by rw [eA6_5]; exact hD
      refine lv_aload_n hx hb dX6_gang_31 rfl (lv_at hl 0 rfl) ?_
      refine lv_dup hx hb dX6_gang_32 rfl ?_
      refine va_get (D := D) (ci := 6) (v := .int (S6 4)) (C := RX6) (T := TX6) (N := 42) hx hb hts hiX6 hown hK hP 0 rfl rfl 4 (by decide) (hts (.fieldLink RX6 148 "PanoramaHouseModel" "gangs" "I") (by decide +kernel)) (fun _ h9 => h9) rfl dX6_gang_33 ?_
      refine lv_iconst (v := 1) hx hb dX6_gang_36 (by decide) ?_
      refine lv_iadd hx hb dX6_gang_37 ?_
      refine va_put (D := D) (ci := 6) (v := .int ((S6 4) + 1)) (ty := .int) (C := RX6) (T := TX6) (N := 42) hx hb hts hiX6 tyX6 tyX6_ok nmX6 hown hK hP hD hS 0 rfl rfl 4 (by decide) (hts (.fieldLink RX6 148 "PanoramaHouseModel" "gangs" "I") (by decide +kernel)) (fun _ h9 => h9) rfl (by decide +kernel) rfl rfl (Nat.le_of_ble_eq_true rfl) dX6_gang_38 (fun H locs hP hD hS => ?_)
      obtain ⟨S6_6, eS6_6, hF⟩ := nm_ex hF
      have hP : va_P D vwCl (wX6 C a6 S6_6 A6_5 G6) H := by rw [eS6_6]; exact hP
      have hD : va_D A (wX6 C a6 S6_6 A6_5 G6) := by rw [eS6_6]; exact hD
      refine lv_aload_n hx hb dX6_gang_41 rfl (lv_at hl 0 rfl) ?_
      refine va_get (D := D) (ci := 6) (v := .int (S6_6 4)) (C := RX6) (T := TX6) (N := 42) hx hb hts hiX6 hown hK hP 0 rfl rfl 4 (by decide) (hts (.fieldLink RX6 148 "PanoramaHouseModel" "gangs" "I") (by decide +kernel)) (fun _ h9 => h9) rfl dX6_gang_42 ?_
      refine lv_iconst (v := 1) hx hb dX6_gang_45 (by decide) ?_
      refine lv_isub hx hb dX6_gang_46 ?_
      cases hF
      exact hret _ _ _ _ dX6_gang_47 rfl hP hD hS
    · have hF := ifp hF c_3
      refine lv_iconst (v := -1) hx hb dX6_gang_19 (by decide) ?_
      cases hF
      exact hret _ _ _ _ dX6_gang_20 rfl hP hD hS
abbrev rmX6_put : Room := { frames := 6, cells := 0, slots := 0, locals := 151 }
set_option maxRecDepth 100000 in
set_option maxHeartbeats 4000000 in
theorem c_X6_put (l : Launch) (K : Kx) (D : va_G) (C : Nat → ClassId) (a6 : Nat → Nat) (S6 : Nat → Int32) (A6 : Nat → Nat → Int32) (G6 : Nat → Nat → Int64) (p1 : Int32) (p2 : Int32) (z : Int32 × (Nat → Nat → Int32)) (hF : F_X6_put S6 A6 p1 p2 = some z) : MetI l yX6_put wsX6_put rmX6_put K D (tyV C) (wX6 C a6 S6 A6 G6) [.ref (a6 0), .int p1, .int p2] (wX6 C a6 S6 z.2 G6) z.1 := by
  refine met_int (cc := cX6_put) (maxL := 5) (ty := .int) (by decide +kernel) rfl (Nat.le_of_ble_eq_true rfl) ?_
  intro p e s m below meth c A Q ls ⟨hx, hb, hml, hown, hts, hK, hA, hZ⟩ hP hD hS hl hret
  have hown : s.vm.findClass RX6 = some m.cls := hown
  have hiX6 : ∀ w ∈ u_ws RX6 TX6 42, w ∈ wsX6_put := by decide +kernel
  have hl : lv_has ls 5 [(0, .ref (a6 0)), (1, .int p1), (2, .int p2)] := hl
  unfold F_X6_put at hF
  obtain ⟨J147, eJ147, hF⟩ := nm_ex hF
  have bJ147 : ∀ (x1 : Int32) (x2 : Int32) (x3 : Int32) (y0 : Int32) (y1 : Int32) (A6 : Nat → Nat → Int32), J147 x1 x2 x3 y0 y1 A6 = some z → ∀ (H : Heap) (locs : List Loc) (ls : Array Slot), va_P D vwCl (wX6 C a6 S6 A6 G6) H → va_D A (wX6 C a6 S6 A6 G6) → va_S A s.heap H locs → lv_has ls 5 [(0, .ref (a6 0)), (1, .int x1), (2, .int x2), (3, .int x3)] → W p l e rmX6_put s m ([.ref (a6 0), .int p1, .int p2] : List Value).toArray below meth c H locs 0 0 Q (F0 m 147 ls [.int y0, .int y1, .ref (a6 10)]) := by
    intro x1 x2 x3 y0 y1 A6 hF H locs ls hP hD hS hl
    rw [eJ147] at hF
    obtain ⟨h_1, hF⟩ := ix_at hF
    refine va_iast hx hb hK hP hD hS 8 0 rfl rfl h_1 dX6_put_147 (fun H locs hP hD hS => ?_)
    obtain ⟨A6_2, eA6_2, hF⟩ := nm_ex hF
    have hP : va_P D vwCl (wX6 C a6 S6 A6_2 G6) H := by rw [eA6_2]; exact hP
    have hD : va_D A (wX6 C a6 S6 A6_2 G6) := by rw [eA6_2]; exact hD
    refine lv_aload_n hx hb dX6_put_148 rfl (lv_at hl 0 rfl) ?_
    refine va_get (D := D) (ci := 6) (v := .ref (a6 9)) (C := RX6) (T := TX6) (N := 42) hx hb hts hiX6 hown hK hP 0 rfl rfl 8 (by decide) (hts (.fieldLink RX6 31 "PanoramaHouseModel" "gangOn" "[I") (by decide +kernel)) (fun _ h9 => h9) rfl dX6_put_149 ?_
    refine lv_iload_n hx hb dX6_put_152 rfl (lv_at hl 2 rfl) ?_
    refine lv_iload_n hx hb dX6_put_153 rfl (lv_at hl 1 rfl) ?_
    obtain ⟨h_3, hF⟩ := ix_at hF
    refine va_iast hx hb hK hP hD hS 7 0 rfl rfl h_3 dX6_put_154 (fun H locs hP hD hS => ?_)
    obtain ⟨A6_4, eA6_4, hF⟩ := nm_ex hF
    have hP : va_P D vwCl (wX6 C a6 S6 A6_4 G6) H := by rw [eA6_4]; exact hP
    have hD : va_D A (wX6 C a6 S6 A6_4 G6) := by rw [eA6_4]; exact hD
    refine lv_aload_n hx hb dX6_put_155 rfl (lv_at hl 0 rfl) ?_
    refine va_get (D := D) (ci := 6) (v := .ref (a6 7)) (C := RX6) (T := TX6) (N := 42) hx hb hts hiX6 hown hK hP 0 rfl rfl 6 (by decide) (hts (.fieldLink RX6 25 "PanoramaHouseModel" "busy" "[I") (by decide +kernel)) (fun _ h9 => h9) rfl dX6_put_156 ?_
    refine lv_iload_n hx hb dX6_put_159 rfl (lv_at hl 1 rfl) ?_
    refine lv_iload_n hx hb dX6_put_160 rfl (lv_at hl 2 rfl) ?_
    obtain ⟨h_5, hF⟩ := ix_at hF
    refine va_iast hx hb hK hP hD hS 5 0 rfl rfl h_5 dX6_put_161 (fun H locs hP hD hS => ?_)
    obtain ⟨A6_6, eA6_6, hF⟩ := nm_ex hF
    have hP : va_P D vwCl (wX6 C a6 S6 A6_6 G6) H := by rw [eA6_6]; exact hP
    have hD : va_D A (wX6 C a6 S6 A6_6 G6) := by rw [eA6_6]; exact hD
    refine lv_iload_n hx hb dX6_put_162 rfl (lv_at hl 3 rfl) ?_
    cases hF
    exact hret _ _ _ _ dX6_put_163 rfl hP hD hS
  obtain ⟨J117, eJ117, hF⟩ := nm_ex hF
  have bJ117 : ∀ (x1 : Int32) (x2 : Int32) (x3 : Int32) (A6 : Nat → Nat → Int32), J117 x1 x2 x3 A6 = some z → ∀ (H : Heap) (locs : List Loc) (ls : Array Slot), va_P D vwCl (wX6 C a6 S6 A6 G6) H → va_D A (wX6 C a6 S6 A6 G6) → va_S A s.heap H locs → lv_has ls 5 [(0, .ref (a6 0)), (1, .int x1), (2, .int x2), (3, .int x3)] → W p l e rmX6_put s m ([.ref (a6 0), .int p1, .int p2] : List Value).toArray below meth c H locs 0 0 Q (F0 m 117 ls []) := by
    intro x1 x2 x3 A6 hF H locs ls hP hD hS hl
    rw [eJ117] at hF
    refine lv_aload_n hx hb dX6_put_117 rfl (lv_at hl 0 rfl) ?_
    refine lv_iload_n hx hb dX6_put_118 rfl (lv_at hl 2 rfl) ?_
    obtain ⟨z_7, fz_7, hF⟩ := bd_at hF
    refine callV_int ([]) ([]) (w' := wX6 C a6 S6 z_7.2 G6) (As := [.int x2]) (rest := []) ⟨hx, hb, hml, hown, hts⟩ hK hA hZ (c_X6_work l K D C a6 S6 A6 G6 x2 z_7 fz_7) (cwV 1 hts gX6_put_X6_work rfl rfl rfl (by decide +kernel) ⟨Nat.le_of_ble_eq_true rfl, Nat.le_of_ble_eq_true rfl⟩) 0 rfl rfl rfl rfl hl.1 rfl (Nat.le_of_ble_eq_true rfl) ⟨Nat.zero_le _, Nat.zero_le _⟩ (by simp only [List.append_assoc, List.append_nil, List.nil_append]) (by simp only [List.append_assoc, List.append_nil, List.nil_append]) hP hD hS dX6_put_119 (fun H locs hP hD hS => ?_)
    refine lv_istore (lv' := [(4, .int z_7.1), (0, .ref (a6 0)), (1, .int x1), (2, .int x2), (3, .int x3)]) hx hb dX6_put_122 hl (by decide) rfl (fun ls hl => ?_)
    refine lv_aload_n hx hb dX6_put_124 rfl (lv_at hl 1 rfl) ?_
    refine va_get (D := D) (ci := 6) (v := .ref (a6 10)) (C := RX6) (T := TX6) (N := 42) hx hb hts hiX6 hown hK hP 0 rfl rfl 9 (by decide) (hts (.fieldLink RX6 34 "PanoramaHouseModel" "left" "[I") (by decide +kernel)) (fun _ h9 => h9) rfl dX6_put_125 ?_
    refine lv_iload_n hx hb dX6_put_128 rfl (lv_at hl 3 rfl) ?_
    refine lv_iload_n hx hb dX6_put_129 rfl (lv_at hl 4 rfl) ?_
    refine lv_iconst (v := 1) hx hb dX6_put_130 (by decide) ?_
    refine lv_icmp_ne (tgt := 139) hx hb dX6_put_131 (by decide) (fun c_8 => ?_) (fun c_8 => ?_)
    · have hF := ifn hF c_8
      refine lv_iconst (v := 1) hx hb dX6_put_139 (by decide) ?_
      refine lv_iload hx hb dX6_put_140 (lv_at hl 0 rfl) ?_
      refine lv_iconst (v := 2) hx hb dX6_put_142 (by decide) ?_
      refine lv_idiv hx hb dX6_put_143 (by decide) ?_
      refine va_mmax hx hb (hml.trans hl.1.symm) hown (hts (.methodLink RX6 119 Lib.Math.max.name) (by decide +kernel)) (hts (.static Lib.Math.max.name) (by decide +kernel)) (hts (.initialized "java/lang/Math") (by decide +kernel)) (hts (.code Lib.Math.max.name Lib.Math.max.code 2 (some .int)) (by decide +kernel)) (Nat.le_of_ble_eq_true rfl) (Nat.le_of_ble_eq_true rfl) (Nat.zero_le _) (Nat.zero_le _) dX6_put_144 ?_
      refine lv_topi (fun v_9 ev_9 => ?_)
      have hF := nm_at hF ev_9
      exact bJ147 x1 x2 x3 v_9 x2 z_7.2 hF _ _ _ hP hD hS (lv_sub hl [1, 2, 3, 4] rfl)
    · have hF := ifp hF c_8
      refine lv_iload hx hb dX6_put_134 (lv_at hl 0 rfl) ?_
      refine lv_goto (tgt := 147) hx hb dX6_put_136 (by decide) ?_
      exact bJ147 x1 x2 x3 z_7.1 x2 z_7.2 hF _ _ _ hP hD hS (lv_sub hl [1, 2, 3, 4] rfl)
  obtain ⟨J95, eJ95, hF⟩ := nm_ex hF
  have bJ95 : ∀ (x1 : Int32) (x2 : Int32) (x3 : Int32) (A6 : Nat → Nat → Int32), J95 x1 x2 x3 A6 = some z → ∀ (H : Heap) (locs : List Loc) (ls : Array Slot), va_P D vwCl (wX6 C a6 S6 A6 G6) H → va_D A (wX6 C a6 S6 A6 G6) → va_S A s.heap H locs → lv_has ls 5 [(0, .ref (a6 0)), (1, .int x1), (2, .int x2), (3, .int x3)] → W p l e rmX6_put s m ([.ref (a6 0), .int p1, .int p2] : List Value).toArray below meth c H locs 0 0 Q (F0 m 95 ls []) := by
    intro x1 x2 x3 A6 hF H locs ls hP hD hS hl
    rw [eJ95] at hF
    refine lv_iload_n hx hb dX6_put_95 rfl (lv_at hl 2 rfl) ?_
    refine lv_bipush (v := 36) hx hb dX6_put_96 (by decide) ?_
    refine lv_icmp_ge (tgt := 117) hx hb dX6_put_98 (by decide) (fun c_10 => ?_) (fun c_10 => ?_)
    · have hF := ifp hF c_10
      exact bJ117 x1 x2 x3 A6 hF _ _ _ hP hD hS (lv_sub hl [0, 1, 2, 3] rfl)
    · have hF := ifn hF c_10
      refine lv_aload_n hx hb dX6_put_101 rfl (lv_at hl 0 rfl) ?_
      refine va_get (D := D) (ci := 6) (v := .ref (a6 8)) (C := RX6) (T := TX6) (N := 42) hx hb hts hiX6 hown hK hP 0 rfl rfl 7 (by decide) (hts (.fieldLink RX6 28 "PanoramaHouseModel" "coats" "[I") (by decide +kernel)) (fun _ h9 => h9) rfl dX6_put_102 ?_
      refine lv_bipush (v := 36) hx hb dX6_put_105 (by decide) ?_
      refine lv_iload_n hx hb dX6_put_107 rfl (lv_at hl 2 rfl) ?_
      refine lv_iadd hx hb dX6_put_108 ?_
      obtain ⟨h_11, hF⟩ := ix_at hF
      refine va_iald hx hb hK hP 6 0 rfl rfl h_11 dX6_put_109 ?_
      refine lv_iload_n hx hb dX6_put_110 rfl (lv_at hl 3 rfl) ?_
      refine lv_icmp_ge (tgt := 117) hx hb dX6_put_111 (by decide) (fun c_12 => ?_) (fun c_12 => ?_)
      · have hF := ifp hF c_12
        exact bJ117 x1 x2 x3 A6 hF _ _ _ hP hD hS (lv_sub hl [0, 1, 2, 3] rfl)
      · have hF := ifn hF c_12
        refine lv_bipush (v := -7) hx hb dX6_put_114 (by decide) ?_
        cases hF
        exact hret _ _ _ _ dX6_put_116 rfl hP hD hS
  refine lv_iload_n hx hb dX6_put_0 rfl (lv_at hl 1 rfl) ?_
  refine lv_iconst (v := 0) hx hb dX6_put_1 (by decide) ?_
  refine lv_aload_n hx hb dX6_put_2 rfl (lv_at hl 0 rfl) ?_
  refine va_get (D := D) (ci := 6) (v := .int (S6 4)) (C := RX6) (T := TX6) (N := 42) hx hb hts hiX6 hown hK hP 0 rfl rfl 4 (by decide) (hts (.fieldLink RX6 148 "PanoramaHouseModel" "gangs" "I") (by decide +kernel)) (fun _ h9 => h9) rfl dX6_put_3 ?_
  refine lv_iconst (v := 1) hx hb dX6_put_6 (by decide) ?_
  refine lv_isub hx hb dX6_put_7 ?_
  obtain ⟨z_13, fz_13, hF⟩ := bd_at hF
  refine callS_int (As := [.int p1, .int 0, .int ((S6 4) - 1)]) (rest := []) ⟨hx, hb, hml, hown, hts⟩ hK hA hZ (c_X6_isIn l K D C p1 0 ((S6 4) - 1) z_13 fz_13) (va_cwS 3 hts gX6_put_X6_isIn rfl rfl rfl (by decide +kernel) ⟨Nat.le_of_ble_eq_true rfl, Nat.le_of_ble_eq_true rfl⟩) rfl hl.1 rfl (Nat.le_of_ble_eq_true rfl) ⟨Nat.zero_le _, Nat.zero_le _⟩ hP hS dX6_put_8 (fun H locs hP hS => ?_)
  refine lv_if_eq (tgt := 21) hx hb dX6_put_11 (by decide) (fun c_14 => ?_) (fun c_14 => ?_)
  · have hF := ifp hF c_14
    refine lv_bipush (v := -2) hx hb dX6_put_21 (by decide) ?_
    cases hF
    exact hret _ _ _ _ dX6_put_23 rfl hP hD hS
  · have hF := ifn hF c_14
    refine lv_iload_n hx hb dX6_put_14 rfl (lv_at hl 2 rfl) ?_
    obtain ⟨z_15, fz_15, hF⟩ := bd_at hF
    refine callS_int (As := [.int p2]) (rest := []) ⟨hx, hb, hml, hown, hts⟩ hK hA hZ (c_X6_isSquare l K D C p2 z_15 fz_15) (va_cwS 1 hts gX6_put_X6_isSquare rfl rfl rfl (by decide +kernel) ⟨Nat.le_of_ble_eq_true rfl, Nat.le_of_ble_eq_true rfl⟩) rfl hl.1 rfl (Nat.le_of_ble_eq_true rfl) ⟨Nat.zero_le _, Nat.zero_le _⟩ hP hS dX6_put_15 (fun H locs hP hS => ?_)
    refine lv_if_ne (tgt := 24) hx hb dX6_put_18 (by decide) (fun c_16 => ?_) (fun c_16 => ?_)
    · have hF := ifn hF c_16
      refine lv_aload_n hx hb dX6_put_24 rfl (lv_at hl 0 rfl) ?_
      refine va_get (D := D) (ci := 6) (v := .ref (a6 7)) (C := RX6) (T := TX6) (N := 42) hx hb hts hiX6 hown hK hP 0 rfl rfl 6 (by decide) (hts (.fieldLink RX6 25 "PanoramaHouseModel" "busy" "[I") (by decide +kernel)) (fun _ h9 => h9) rfl dX6_put_25 ?_
      refine lv_iload_n hx hb dX6_put_28 rfl (lv_at hl 1 rfl) ?_
      obtain ⟨h_17, hF⟩ := ix_at hF
      refine va_iald hx hb hK hP 5 0 rfl rfl h_17 dX6_put_29 ?_
      refine lv_iconst (v := -1) hx hb dX6_put_30 (by decide) ?_
      refine lv_icmp_eq (tgt := 37) hx hb dX6_put_31 (by decide) (fun c_18 => ?_) (fun c_18 => ?_)
      · have hF := ifp hF c_18
        refine lv_aload_n hx hb dX6_put_37 rfl (lv_at hl 0 rfl) ?_
        refine va_get (D := D) (ci := 6) (v := .ref (a6 8)) (C := RX6) (T := TX6) (N := 42) hx hb hts hiX6 hown hK hP 0 rfl rfl 7 (by decide) (hts (.fieldLink RX6 28 "PanoramaHouseModel" "coats" "[I") (by decide +kernel)) (fun _ h9 => h9) rfl dX6_put_38 ?_
        refine lv_iload_n hx hb dX6_put_41 rfl (lv_at hl 2 rfl) ?_
        obtain ⟨h_19, hF⟩ := ix_at hF
        refine va_iald hx hb hK hP 6 0 rfl rfl h_19 dX6_put_42 ?_
        refine lv_iconst (v := 2) hx hb dX6_put_43 (by decide) ?_
        refine lv_icmp_ne (tgt := 50) hx hb dX6_put_44 (by decide) (fun c_20 => ?_) (fun c_20 => ?_)
        · have hF := ifn hF c_20
          refine lv_aload_n hx hb dX6_put_50 rfl (lv_at hl 0 rfl) ?_
          refine va_get (D := D) (ci := 6) (v := .ref (a6 9)) (C := RX6) (T := TX6) (N := 42) hx hb hts hiX6 hown hK hP 0 rfl rfl 8 (by decide) (hts (.fieldLink RX6 31 "PanoramaHouseModel" "gangOn" "[I") (by decide +kernel)) (fun _ h9 => h9) rfl dX6_put_51 ?_
          refine lv_iload_n hx hb dX6_put_54 rfl (lv_at hl 2 rfl) ?_
          obtain ⟨h_21, hF⟩ := ix_at hF
          refine va_iald hx hb hK hP 7 0 rfl rfl h_21 dX6_put_55 ?_
          refine lv_iconst (v := -1) hx hb dX6_put_56 (by decide) ?_
          refine lv_icmp_eq (tgt := 63) hx hb dX6_put_57 (by decide) (fun c_22 => ?_) (fun c_22 => ?_)
          · have hF := ifp hF c_22
            refine lv_aload_n hx hb dX6_put_63 rfl (lv_at hl 0 rfl) ?_
            refine va_get (D := D) (ci := 6) (v := .ref (a6 8)) (C := RX6) (T := TX6) (N := 42) hx hb hts hiX6 hown hK hP 0 rfl rfl 7 (by decide) (hts (.fieldLink RX6 28 "PanoramaHouseModel" "coats" "[I") (by decide +kernel)) (fun _ h9 => h9) rfl dX6_put_64 ?_
            refine lv_iload_n hx hb dX6_put_67 rfl (lv_at hl 2 rfl) ?_
            obtain ⟨h_23, hF⟩ := ix_at hF
            refine va_iald hx hb hK hP 6 0 rfl rfl h_23 dX6_put_68 ?_
            refine lv_iconst (v := 1) hx hb dX6_put_69 (by decide) ?_
            refine lv_iadd hx hb dX6_put_70 ?_
            refine lv_topi (fun v_24 ev_24 => ?_)
            have hF := nm_at hF ev_24
            refine lv_istore_n (lv' := [(3, .int v_24), (0, .ref (a6 0)), (1, .int p1), (2, .int p2)]) hx hb dX6_put_71 rfl hl (by decide) rfl (fun ls hl => ?_)
            refine lv_iload_n hx hb dX6_put_72 rfl (lv_at hl 0 rfl) ?_
            refine lv_iconst (v := 2) hx hb dX6_put_73 (by decide) ?_
            refine lv_icmp_ne (tgt := 95) hx hb dX6_put_74 (by decide) (fun c_25 => ?_) (fun c_25 => ?_)
            · have hF := ifn hF c_25
              exact bJ95 p1 p2 v_24 A6 hF _ _ _ hP hD hS (lv_sub hl [1, 2, 3, 0] rfl)
            · have hF := ifp hF c_25
              refine lv_aload_n hx hb dX6_put_77 rfl (lv_at hl 1 rfl) ?_
              refine va_get (D := D) (ci := 6) (v := .int (S6 3)) (C := RX6) (T := TX6) (N := 42) hx hb hts hiX6 hown hK hP 0 rfl rfl 3 (by decide) (hts (.fieldLink RX6 155 "PanoramaHouseModel" "today" "I") (by decide +kernel)) (fun _ h9 => h9) rfl dX6_put_78 ?_
              refine lv_aload_n hx hb dX6_put_81 rfl (lv_at hl 1 rfl) ?_
              refine va_get (D := D) (ci := 6) (v := .ref (a6 11)) (C := RX6) (T := TX6) (N := 42) hx hb hts hiX6 hown hK hP 0 rfl rfl 10 (by decide) (hts (.fieldLink RX6 37 "PanoramaHouseModel" "firstDone" "[I") (by decide +kernel)) (fun _ h9 => h9) rfl dX6_put_82 ?_
              refine lv_iload_n hx hb dX6_put_85 rfl (lv_at hl 3 rfl) ?_
              obtain ⟨h_26, hF⟩ := ix_at hF
              refine va_iald hx hb hK hP 9 0 rfl rfl h_26 dX6_put_86 ?_
              refine lv_iconst (v := 3) hx hb dX6_put_87 (by decide) ?_
              refine lv_iadd hx hb dX6_put_88 ?_
              refine lv_icmp_ge (tgt := 95) hx hb dX6_put_89 (by decide) (fun c_27 => ?_) (fun c_27 => ?_)
              · have hF := ifp hF c_27
                exact bJ95 p1 p2 v_24 A6 hF _ _ _ hP hD hS (lv_sub hl [1, 2, 3, 0] rfl)
              · have hF := ifn hF c_27
                refine lv_bipush (v := -6) hx hb dX6_put_92 (by decide) ?_
                cases hF
                exact hret _ _ _ _ dX6_put_94 rfl hP hD hS
          · have hF := ifn hF c_22
            refine lv_bipush (v := -5) hx hb dX6_put_60 (by decide) ?_
            cases hF
            exact hret _ _ _ _ dX6_put_62 rfl hP hD hS
        · have hF := ifp hF c_20
          refine lv_bipush (v := -4) hx hb dX6_put_47 (by decide) ?_
          cases hF
          exact hret _ _ _ _ dX6_put_49 rfl hP hD hS
      · have hF := ifn hF c_18
        refine lv_bipush (v := -3) hx hb dX6_put_34 (by decide) ?_
        cases hF
        exact hret _ _ _ _ dX6_put_36 rfl hP hD hS
    · have hF := ifp hF c_16
      refine lv_bipush (v := -2) hx hb dX6_put_21 (by decide) ?_
      cases hF
      exact hret _ _ _ _ dX6_put_23 rfl hP hD hS
abbrev rmX6_day : Room := { frames := 1, cells := 0, slots := 0, locals := 32 }
set_option maxRecDepth 100000 in
set_option maxHeartbeats 4000000 in
theorem c_X6_day (l : Launch) (K : Kx) (D : va_G) (C : Nat → ClassId) (a6 : Nat → Nat) (S6 : Nat → Int32) (A6 : Nat → Nat → Int32) (G6 : Nat → Nat → Int64) (z : Int32 × (Nat → Int32) × (Nat → Nat → Int32)) (hF : F_X6_day S6 A6 = some z) : MetI l yX6_day wsX6_day rmX6_day K D (tyV C) (wX6 C a6 S6 A6 G6) [.ref (a6 0)] (wX6 C a6 z.2.1 z.2.2 G6) z.1 := by
  refine met_int (cc := cX6_day) (maxL := 3) (ty := .int) (by decide +kernel) rfl (Nat.le_of_ble_eq_true rfl) ?_
  intro p e s m below meth c A Q ls ⟨hx, hb, hml, hown, hts, hK, hA, hZ⟩ hP hD hS hl hret
  have hown : s.vm.findClass RX6 = some m.cls := hown
  have hiX6 : ∀ w ∈ u_ws RX6 TX6 42, w ∈ wsX6_day := by decide +kernel
  have hl : lv_has ls 3 [(0, .ref (a6 0))] := hl
  unfold F_X6_day at hF
  obtain ⟨J142, eJ142, hF⟩ := nm_ex hF
  have bJ142 : ∀ (S6 : Nat → Int32) (A6 : Nat → Nat → Int32), J142 S6 A6 = some z → ∀ (H : Heap) (locs : List Loc) (ls : Array Slot), va_P D vwCl (wX6 C a6 S6 A6 G6) H → va_D A (wX6 C a6 S6 A6 G6) → va_S A s.heap H locs → lv_has ls 3 [(0, .ref (a6 0))] → W p l e rmX6_day s m ([.ref (a6 0)] : List Value).toArray below meth c H locs 0 0 Q (F0 m 142 ls []) := by
    intro S6 A6 hF H locs ls hP hD hS hl
    rw [eJ142] at hF
    refine lv_aload_n hx hb dX6_day_142 rfl (lv_at hl 0 rfl) ?_
    refine lv_dup hx hb dX6_day_143 rfl ?_
    refine va_get (D := D) (ci := 6) (v := .int (S6 3)) (C := RX6) (T := TX6) (N := 42) hx hb hts hiX6 hown hK hP 0 rfl rfl 3 (by decide) (hts (.fieldLink RX6 155 "PanoramaHouseModel" "today" "I") (by decide +kernel)) (fun _ h9 => h9) rfl dX6_day_144 ?_
    refine lv_iconst (v := 1) hx hb dX6_day_147 (by decide) ?_
    refine lv_iadd hx hb dX6_day_148 ?_
    refine va_put (D := D) (ci := 6) (v := .int ((S6 3) + 1)) (ty := .int) (C := RX6) (T := TX6) (N := 42) hx hb hts hiX6 tyX6 tyX6_ok nmX6 hown hK hP hD hS 0 rfl rfl 3 (by decide) (hts (.fieldLink RX6 155 "PanoramaHouseModel" "today" "I") (by decide +kernel)) (fun _ h9 => h9) rfl (by decide +kernel) rfl rfl (Nat.le_of_ble_eq_true rfl) dX6_day_149 (fun H locs hP hD hS => ?_)
    obtain ⟨S6_1, eS6_1, hF⟩ := nm_ex hF
    have hP : va_P D vwCl (wX6 C a6 S6_1 A6 G6) H := by rw [eS6_1]; exact hP
    have hD : va_D A (wX6 C a6 S6_1 A6 G6) := by rw [eS6_1]; exact hD
    refine lv_aload_n hx hb dX6_day_152 rfl (lv_at hl 0 rfl) ?_
    refine va_get (D := D) (ci := 6) (v := .int (S6_1 3)) (C := RX6) (T := TX6) (N := 42) hx hb hts hiX6 hown hK hP 0 rfl rfl 3 (by decide) (hts (.fieldLink RX6 155 "PanoramaHouseModel" "today" "I") (by decide +kernel)) (fun _ h9 => h9) rfl dX6_day_153 ?_
    cases hF
    exact hret _ _ _ _ dX6_day_156 rfl hP hD hS
  have bL14 : ∀ (n : Nat) (x1 : Int32) (S6 : Nat → Int32) (A6 : Nat → Nat → Int32), L_X6_day_14 J142 n x1 S6 A6 = some z → ∀ (H : Heap) (locs : List Loc) (ls : Array Slot), va_P D vwCl (wX6 C a6 S6 A6 G6) H → va_D A (wX6 C a6 S6 A6 G6) → va_S A s.heap H locs → lv_has ls 3 [(0, .ref (a6 0)), (1, .int x1)] → W p l e rmX6_day s m ([.ref (a6 0)] : List Value).toArray below meth c H locs 0 0 Q (F0 m 14 ls []) := by
    intro n
    induction n with
    | zero => intro x1 S6 A6 hF; rw [L_X6_day_14.eq_1] at hF; cases hF
    | succ n ih14 =>
      intro x1 S6 A6 hF H locs ls hP hD hS hl
      rw [L_X6_day_14.eq_2] at hF
      obtain ⟨J136, eJ136, hF⟩ := nm_ex hF
      have bJ136 : ∀ (x1 : Int32) (S6 : Nat → Int32) (A6 : Nat → Nat → Int32), J136 x1 S6 A6 = some z → ∀ (H : Heap) (locs : List Loc) (ls : Array Slot), va_P D vwCl (wX6 C a6 S6 A6 G6) H → va_D A (wX6 C a6 S6 A6 G6) → va_S A s.heap H locs → lv_has ls 3 [(0, .ref (a6 0)), (1, .int x1)] → W p l e rmX6_day s m ([.ref (a6 0)] : List Value).toArray below meth c H locs 0 0 Q (F0 m 136 ls []) := by
        intro x1 S6 A6 hF H locs ls hP hD hS hl
        rw [eJ136] at hF
        obtain ⟨v_2, ev_2⟩ : ∃ y : Int32, y = x1 + 1 := ⟨_, rfl⟩
        have hF := nm_at hF ev_2
        refine lv_iinc (v := v_2) (lv' := [(1, .int v_2), (0, .ref (a6 0))]) hx hb dX6_day_136 hl (k := 1) rfl (by rw [ev_2]; rfl) (by decide) rfl (fun ls hl => ?_)
        refine lv_goto (tgt := 14) hx hb dX6_day_139 (by decide) ?_
        exact ih14 v_2 S6 A6 hF _ _ _ hP hD hS (lv_sub hl [1, 0] rfl)
      obtain ⟨J115, eJ115, hF⟩ := nm_ex hF
      have bJ115 : ∀ (x1 : Int32) (x2 : Int32) (S6 : Nat → Int32) (A6 : Nat → Nat → Int32), J115 x1 x2 S6 A6 = some z → ∀ (H : Heap) (locs : List Loc) (ls : Array Slot), va_P D vwCl (wX6 C a6 S6 A6 G6) H → va_D A (wX6 C a6 S6 A6 G6) → va_S A s.heap H locs → lv_has ls 3 [(0, .ref (a6 0)), (1, .int x1), (2, .int x2)] → W p l e rmX6_day s m ([.ref (a6 0)] : List Value).toArray below meth c H locs 0 0 Q (F0 m 115 ls []) := by
        intro x1 x2 S6 A6 hF H locs ls hP hD hS hl
        rw [eJ115] at hF
        refine lv_aload_n hx hb dX6_day_115 rfl (lv_at hl 0 rfl) ?_
        refine va_get (D := D) (ci := 6) (v := .ref (a6 13)) (C := RX6) (T := TX6) (N := 42) hx hb hts hiX6 hown hK hP 0 rfl rfl 12 (by decide) (hts (.fieldLink RX6 43 "PanoramaHouseModel" "lastGang" "[I") (by decide +kernel)) (fun _ h9 => h9) rfl dX6_day_116 ?_
        refine lv_iload_n hx hb dX6_day_119 rfl (lv_at hl 2 rfl) ?_
        refine lv_iload_n hx hb dX6_day_120 rfl (lv_at hl 1 rfl) ?_
        obtain ⟨h_3, hF⟩ := ix_at hF
        refine va_iast hx hb hK hP hD hS 11 0 rfl rfl h_3 dX6_day_121 (fun H locs hP hD hS => ?_)
        obtain ⟨A6_4, eA6_4, hF⟩ := nm_ex hF
        have hP : va_P D vwCl (wX6 C a6 S6 A6_4 G6) H := by rw [eA6_4]; exact hP
        have hD : va_D A (wX6 C a6 S6 A6_4 G6) := by rw [eA6_4]; exact hD
        refine lv_aload_n hx hb dX6_day_122 rfl (lv_at hl 0 rfl) ?_
        refine va_get (D := D) (ci := 6) (v := .ref (a6 9)) (C := RX6) (T := TX6) (N := 42) hx hb hts hiX6 hown hK hP 0 rfl rfl 8 (by decide) (hts (.fieldLink RX6 31 "PanoramaHouseModel" "gangOn" "[I") (by decide +kernel)) (fun _ h9 => h9) rfl dX6_day_123 ?_
        refine lv_iload_n hx hb dX6_day_126 rfl (lv_at hl 2 rfl) ?_
        refine lv_iconst (v := -1) hx hb dX6_day_127 (by decide) ?_
        obtain ⟨h_5, hF⟩ := ix_at hF
        refine va_iast hx hb hK hP hD hS 7 0 rfl rfl h_5 dX6_day_128 (fun H locs hP hD hS => ?_)
        obtain ⟨A6_6, eA6_6, hF⟩ := nm_ex hF
        have hP : va_P D vwCl (wX6 C a6 S6 A6_6 G6) H := by rw [eA6_6]; exact hP
        have hD : va_D A (wX6 C a6 S6 A6_6 G6) := by rw [eA6_6]; exact hD
        refine lv_aload_n hx hb dX6_day_129 rfl (lv_at hl 0 rfl) ?_
        refine va_get (D := D) (ci := 6) (v := .ref (a6 7)) (C := RX6) (T := TX6) (N := 42) hx hb hts hiX6 hown hK hP 0 rfl rfl 6 (by decide) (hts (.fieldLink RX6 25 "PanoramaHouseModel" "busy" "[I") (by decide +kernel)) (fun _ h9 => h9) rfl dX6_day_130 ?_
        refine lv_iload_n hx hb dX6_day_133 rfl (lv_at hl 1 rfl) ?_
        refine lv_iconst (v := -1) hx hb dX6_day_134 (by decide) ?_
        obtain ⟨h_7, hF⟩ := ix_at hF
        refine va_iast hx hb hK hP hD hS 5 0 rfl rfl h_7 dX6_day_135 (fun H locs hP hD hS => ?_)
        obtain ⟨A6_8, eA6_8, hF⟩ := nm_ex hF
        have hP : va_P D vwCl (wX6 C a6 S6 A6_8 G6) H := by rw [eA6_8]; exact hP
        have hD : va_D A (wX6 C a6 S6 A6_8 G6) := by rw [eA6_8]; exact hD
        exact bJ136 x1 S6 A6_8 hF _ _ _ hP hD hS (lv_sub hl [0, 1] rfl)
      refine lv_iload_n hx hb dX6_day_14 rfl (lv_at hl 1 rfl) ?_
      refine lv_aload_n hx hb dX6_day_15 rfl (lv_at hl 0 rfl) ?_
      refine va_get (D := D) (ci := 6) (v := .int (S6 4)) (C := RX6) (T := TX6) (N := 42) hx hb hts hiX6 hown hK hP 0 rfl rfl 4 (by decide) (hts (.fieldLink RX6 148 "PanoramaHouseModel" "gangs" "I") (by decide +kernel)) (fun _ h9 => h9) rfl dX6_day_16 ?_
      refine lv_icmp_ge (tgt := 142) hx hb dX6_day_19 (by decide) (fun c_9 => ?_) (fun c_9 => ?_)
      · have hF := ifp hF c_9
        exact bJ142 S6 A6 hF _ _ _ hP hD hS (lv_sub hl [0] rfl)
      · have hF := ifn hF c_9
        refine lv_aload_n hx hb dX6_day_22 rfl (lv_at hl 0 rfl) ?_
        refine va_get (D := D) (ci := 6) (v := .ref (a6 7)) (C := RX6) (T := TX6) (N := 42) hx hb hts hiX6 hown hK hP 0 rfl rfl 6 (by decide) (hts (.fieldLink RX6 25 "PanoramaHouseModel" "busy" "[I") (by decide +kernel)) (fun _ h9 => h9) rfl dX6_day_23 ?_
        refine lv_iload_n hx hb dX6_day_26 rfl (lv_at hl 1 rfl) ?_
        obtain ⟨h_10, hF⟩ := ix_at hF
        refine va_iald hx hb hK hP 5 0 rfl rfl h_10 dX6_day_27 ?_
        refine lv_topi (fun v_11 ev_11 => ?_)
        have hF := nm_at hF ev_11
        refine lv_istore_n (lv' := [(2, .int v_11), (0, .ref (a6 0)), (1, .int x1)]) hx hb dX6_day_28 rfl hl (by decide) rfl (fun ls hl => ?_)
        refine lv_iload_n hx hb dX6_day_29 rfl (lv_at hl 0 rfl) ?_
        refine lv_iconst (v := -1) hx hb dX6_day_30 (by decide) ?_
        refine lv_icmp_ne (tgt := 37) hx hb dX6_day_31 (by decide) (fun c_12 => ?_) (fun c_12 => ?_)
        · have hF := ifn hF c_12
          refine lv_aload_n hx hb dX6_day_37 rfl (lv_at hl 1 rfl) ?_
          refine va_get (D := D) (ci := 6) (v := .ref (a6 10)) (C := RX6) (T := TX6) (N := 42) hx hb hts hiX6 hown hK hP 0 rfl rfl 9 (by decide) (hts (.fieldLink RX6 34 "PanoramaHouseModel" "left" "[I") (by decide +kernel)) (fun _ h9 => h9) rfl dX6_day_38 ?_
          refine lv_iload_n hx hb dX6_day_41 rfl (lv_at hl 0 rfl) ?_
          refine lv_iconst (v := 0) hx hb dX6_day_42 (by decide) ?_
          refine lv_aload_n hx hb dX6_day_43 rfl (lv_at hl 1 rfl) ?_
          refine va_get (D := D) (ci := 6) (v := .ref (a6 10)) (C := RX6) (T := TX6) (N := 42) hx hb hts hiX6 hown hK hP 0 rfl rfl 9 (by decide) (hts (.fieldLink RX6 34 "PanoramaHouseModel" "left" "[I") (by decide +kernel)) (fun _ h9 => h9) rfl dX6_day_44 ?_
          refine lv_iload_n hx hb dX6_day_47 rfl (lv_at hl 0 rfl) ?_
          obtain ⟨h_13, hF⟩ := ix_at hF
          refine va_iald hx hb hK hP 8 0 rfl rfl h_13 dX6_day_48 ?_
          refine lv_aload_n hx hb dX6_day_49 rfl (lv_at hl 1 rfl) ?_
          refine va_get (D := D) (ci := 6) (v := .ref (a6 6)) (C := RX6) (T := TX6) (N := 42) hx hb hts hiX6 hown hK hP 0 rfl rfl 5 (by decide) (hts (.fieldLink RX6 21 "PanoramaHouseModel" "skill" "[I") (by decide +kernel)) (fun _ h9 => h9) rfl dX6_day_50 ?_
          refine lv_iload_n hx hb dX6_day_53 rfl (lv_at hl 2 rfl) ?_
          obtain ⟨h_14, hF⟩ := ix_at hF
          refine va_iald hx hb hK hP 4 0 rfl rfl h_14 dX6_day_54 ?_
          refine lv_isub hx hb dX6_day_55 ?_
          refine va_mmax hx hb (hml.trans hl.1.symm) hown (hts (.methodLink RX6 119 Lib.Math.max.name) (by decide +kernel)) (hts (.static Lib.Math.max.name) (by decide +kernel)) (hts (.initialized "java/lang/Math") (by decide +kernel)) (hts (.code Lib.Math.max.name Lib.Math.max.code 2 (some .int)) (by decide +kernel)) (Nat.le_of_ble_eq_true rfl) (Nat.le_of_ble_eq_true rfl) (Nat.zero_le _) (Nat.zero_le _) dX6_day_56 ?_
          refine lv_topi (fun v_15 ev_15 => ?_)
          have hF := nm_at hF ev_15
          obtain ⟨h_16, hF⟩ := ix_at hF
          refine va_iast hx hb hK hP hD hS 8 0 rfl rfl h_16 dX6_day_59 (fun H locs hP hD hS => ?_)
          obtain ⟨A6_17, eA6_17, hF⟩ := nm_ex hF
          have hP : va_P D vwCl (wX6 C a6 S6 A6_17 G6) H := by rw [eA6_17]; exact hP
          have hD : va_D A (wX6 C a6 S6 A6_17 G6) := by rw [eA6_17]; exact hD
          refine lv_aload_n hx hb dX6_day_60 rfl (lv_at hl 1 rfl) ?_
          refine va_get (D := D) (ci := 6) (v := .ref (a6 10)) (C := RX6) (T := TX6) (N := 42) hx hb hts hiX6 hown hK hP 0 rfl rfl 9 (by decide) (hts (.fieldLink RX6 34 "PanoramaHouseModel" "left" "[I") (by decide +kernel)) (fun _ h9 => h9) rfl dX6_day_61 ?_
          refine lv_iload_n hx hb dX6_day_64 rfl (lv_at hl 0 rfl) ?_
          obtain ⟨h_18, hF⟩ := ix_at hF
          refine va_iald hx hb hK hP 8 0 rfl rfl h_18 dX6_day_65 ?_
          refine lv_if_le (tgt := 72) hx hb dX6_day_66 (by decide) (fun c_19 => ?_) (fun c_19 => ?_)
          · have hF := ifp hF c_19
            refine lv_aload_n hx hb dX6_day_72 rfl (lv_at hl 1 rfl) ?_
            refine va_get (D := D) (ci := 6) (v := .ref (a6 8)) (C := RX6) (T := TX6) (N := 42) hx hb hts hiX6 hown hK hP 0 rfl rfl 7 (by decide) (hts (.fieldLink RX6 28 "PanoramaHouseModel" "coats" "[I") (by decide +kernel)) (fun _ h9 => h9) rfl dX6_day_73 ?_
            refine lv_iload_n hx hb dX6_day_76 rfl (lv_at hl 0 rfl) ?_
            refine lv_dup2_11 hx hb dX6_day_77 rfl rfl ?_
            obtain ⟨h_20, hF⟩ := ix_at hF
            refine va_iald hx hb hK hP 6 0 rfl rfl h_20 dX6_day_78 ?_
            refine lv_iconst (v := 1) hx hb dX6_day_79 (by decide) ?_
            refine lv_iadd hx hb dX6_day_80 ?_
            obtain ⟨h_21, hF⟩ := ix_at hF
            refine va_iast hx hb hK hP hD hS 6 0 rfl rfl h_21 dX6_day_81 (fun H locs hP hD hS => ?_)
            obtain ⟨A6_22, eA6_22, hF⟩ := nm_ex hF
            have hP : va_P D vwCl (wX6 C a6 S6 A6_22 G6) H := by rw [eA6_22]; exact hP
            have hD : va_D A (wX6 C a6 S6 A6_22 G6) := by rw [eA6_22]; exact hD
            refine lv_aload_n hx hb dX6_day_82 rfl (lv_at hl 1 rfl) ?_
            refine va_get (D := D) (ci := 6) (v := .ref (a6 8)) (C := RX6) (T := TX6) (N := 42) hx hb hts hiX6 hown hK hP 0 rfl rfl 7 (by decide) (hts (.fieldLink RX6 28 "PanoramaHouseModel" "coats" "[I") (by decide +kernel)) (fun _ h9 => h9) rfl dX6_day_83 ?_
            refine lv_iload_n hx hb dX6_day_86 rfl (lv_at hl 0 rfl) ?_
            obtain ⟨h_23, hF⟩ := ix_at hF
            refine va_iald hx hb hK hP 6 0 rfl rfl h_23 dX6_day_87 ?_
            refine lv_iconst (v := 1) hx hb dX6_day_88 (by decide) ?_
            refine lv_icmp_ne (tgt := 105) hx hb dX6_day_89 (by decide) (fun c_24 => ?_) (fun c_24 => ?_)
            · have hF := ifn hF c_24
              refine lv_aload_n hx hb dX6_day_105 rfl (lv_at hl 1 rfl) ?_
              refine va_get (D := D) (ci := 6) (v := .ref (a6 12)) (C := RX6) (T := TX6) (N := 42) hx hb hts hiX6 hown hK hP 0 rfl rfl 11 (by decide) (hts (.fieldLink RX6 40 "PanoramaHouseModel" "secondDone" "[I") (by decide +kernel)) (fun _ h9 => h9) rfl dX6_day_106 ?_
              refine lv_iload_n hx hb dX6_day_109 rfl (lv_at hl 0 rfl) ?_
              refine lv_aload_n hx hb dX6_day_110 rfl (lv_at hl 1 rfl) ?_
              refine va_get (D := D) (ci := 6) (v := .int (S6 3)) (C := RX6) (T := TX6) (N := 42) hx hb hts hiX6 hown hK hP 0 rfl rfl 3 (by decide) (hts (.fieldLink RX6 155 "PanoramaHouseModel" "today" "I") (by decide +kernel)) (fun _ h9 => h9) rfl dX6_day_111 ?_
              obtain ⟨h_25, hF⟩ := ix_at hF
              refine va_iast hx hb hK hP hD hS 10 0 rfl rfl h_25 dX6_day_114 (fun H locs hP hD hS => ?_)
              obtain ⟨A6_26, eA6_26, hF⟩ := nm_ex hF
              have hP : va_P D vwCl (wX6 C a6 S6 A6_26 G6) H := by rw [eA6_26]; exact hP
              have hD : va_D A (wX6 C a6 S6 A6_26 G6) := by rw [eA6_26]; exact hD
              exact bJ115 x1 v_11 S6 A6_26 hF _ _ _ hP hD hS (lv_sub hl [1, 2, 0] rfl)
            · have hF := ifp hF c_24
              refine lv_aload_n hx hb dX6_day_92 rfl (lv_at hl 1 rfl) ?_
              refine va_get (D := D) (ci := 6) (v := .ref (a6 11)) (C := RX6) (T := TX6) (N := 42) hx hb hts hiX6 hown hK hP 0 rfl rfl 10 (by decide) (hts (.fieldLink RX6 37 "PanoramaHouseModel" "firstDone" "[I") (by decide +kernel)) (fun _ h9 => h9) rfl dX6_day_93 ?_
              refine lv_iload_n hx hb dX6_day_96 rfl (lv_at hl 0 rfl) ?_
              refine lv_aload_n hx hb dX6_day_97 rfl (lv_at hl 1 rfl) ?_
              refine va_get (D := D) (ci := 6) (v := .int (S6 3)) (C := RX6) (T := TX6) (N := 42) hx hb hts hiX6 hown hK hP 0 rfl rfl 3 (by decide) (hts (.fieldLink RX6 155 "PanoramaHouseModel" "today" "I") (by decide +kernel)) (fun _ h9 => h9) rfl dX6_day_98 ?_
              obtain ⟨h_27, hF⟩ := ix_at hF
              refine va_iast hx hb hK hP hD hS 9 0 rfl rfl h_27 dX6_day_101 (fun H locs hP hD hS => ?_)
              obtain ⟨A6_28, eA6_28, hF⟩ := nm_ex hF
              have hP : va_P D vwCl (wX6 C a6 S6 A6_28 G6) H := by rw [eA6_28]; exact hP
              have hD : va_D A (wX6 C a6 S6 A6_28 G6) := by rw [eA6_28]; exact hD
              refine lv_goto (tgt := 115) hx hb dX6_day_102 (by decide) ?_
              exact bJ115 x1 v_11 S6 A6_28 hF _ _ _ hP hD hS (lv_sub hl [1, 2, 0] rfl)
          · have hF := ifn hF c_19
            refine lv_goto (tgt := 136) hx hb dX6_day_69 (by decide) ?_
            exact bJ136 x1 S6 A6_17 hF _ _ _ hP hD hS (lv_sub hl [1, 2] rfl)
        · have hF := ifp hF c_12
          refine lv_goto (tgt := 136) hx hb dX6_day_34 (by decide) ?_
          exact bJ136 x1 S6 A6 hF _ _ _ hP hD hS (lv_sub hl [1, 2] rfl)
  refine lv_aload_n hx hb dX6_day_0 rfl (lv_at hl 0 rfl) ?_
  refine va_get (D := D) (ci := 6) (v := .int (S6 3)) (C := RX6) (T := TX6) (N := 42) hx hb hts hiX6 hown hK hP 0 rfl rfl 3 (by decide) (hts (.fieldLink RX6 155 "PanoramaHouseModel" "today" "I") (by decide +kernel)) (fun _ h9 => h9) rfl dX6_day_1 ?_
  refine lv_sipush (v := 1000) hx hb dX6_day_4 (by decide) ?_
  refine lv_icmp_ne (tgt := 12) hx hb dX6_day_7 (by decide) (fun c_29 => ?_) (fun c_29 => ?_)
  · have hF := ifn hF c_29
    refine lv_iconst (v := 0) hx hb dX6_day_12 (by decide) ?_
    refine lv_istore_n (lv' := [(1, .int 0), (0, .ref (a6 0))]) hx hb dX6_day_13 rfl hl (by decide) rfl (fun ls hl => ?_)
    exact bL14 FU 0 S6 A6 hF _ _ _ hP hD hS (lv_sub hl [1, 0] rfl)
  · have hF := ifp hF c_29
    refine lv_iconst (v := -1) hx hb dX6_day_10 (by decide) ?_
    cases hF
    exact hret _ _ _ _ dX6_day_11 rfl hP hD hS
abbrev rmX6_square : Room := { frames := 6, cells := 0, slots := 0, locals := 151 }
set_option maxRecDepth 100000 in
set_option maxHeartbeats 4000000 in
theorem c_X6_square (l : Launch) (K : Kx) (D : va_G) (C : Nat → ClassId) (a6 : Nat → Nat) (S6 : Nat → Int32) (A6 : Nat → Nat → Int32) (G6 : Nat → Nat → Int64) (p1 : Int32) (p2 : Int32) (z : Int32 × (Nat → Nat → Int32)) (hF : F_X6_square A6 p1 p2 = some z) : MetI l yX6_square wsX6_square rmX6_square K D (tyV C) (wX6 C a6 S6 A6 G6) [.ref (a6 0), .int p1, .int p2] (wX6 C a6 S6 z.2 G6) z.1 := by
  refine met_int (cc := cX6_square) (maxL := 3) (ty := .int) (by decide +kernel) rfl (Nat.le_of_ble_eq_true rfl) ?_
  intro p e s m below meth c A Q ls ⟨hx, hb, hml, hown, hts, hK, hA, hZ⟩ hP hD hS hl hret
  have hown : s.vm.findClass RX6 = some m.cls := hown
  have hiX6 : ∀ w ∈ u_ws RX6 TX6 42, w ∈ wsX6_square := by decide +kernel
  have hl : lv_has ls 3 [(0, .ref (a6 0)), (1, .int p1), (2, .int p2)] := hl
  unfold F_X6_square at hF
  refine lv_iload_n hx hb dX6_square_0 rfl (lv_at hl 1 rfl) ?_
  obtain ⟨z_1, fz_1, hF⟩ := bd_at hF
  refine callS_int (As := [.int p1]) (rest := []) ⟨hx, hb, hml, hown, hts⟩ hK hA hZ (c_X6_isSquare l K D C p1 z_1 fz_1) (va_cwS 1 hts gX6_square_X6_isSquare rfl rfl rfl (by decide +kernel) ⟨Nat.le_of_ble_eq_true rfl, Nat.le_of_ble_eq_true rfl⟩) rfl hl.1 rfl (Nat.le_of_ble_eq_true rfl) ⟨Nat.zero_le _, Nat.zero_le _⟩ hP hS dX6_square_1 (fun H locs hP hS => ?_)
  refine lv_if_ne (tgt := 9) hx hb dX6_square_4 (by decide) (fun c_2 => ?_) (fun c_2 => ?_)
  · have hF := ifn hF c_2
    refine lv_iload_n hx hb dX6_square_9 rfl (lv_at hl 2 rfl) ?_
    rcases Decidable.em (p2 = 0) with c_3 | c_3
    · have hF := ifp hF c_3
      refine lv_tableIn (tgt := 52) hx hb dX6_square_10 (by rw [c_3]; decide) (by rw [c_3]; decide) (by rw [c_3]; rfl) (by decide) ?_
      refine lv_aload_n hx hb dX6_square_52 rfl (lv_at hl 0 rfl) ?_
      refine lv_iload_n hx hb dX6_square_53 rfl (lv_at hl 1 rfl) ?_
      obtain ⟨z_4, fz_4, hF⟩ := bd_at hF
      refine callV_int ([]) ([]) (w' := wX6 C a6 S6 z_4.2 G6) (As := [.int p1]) (rest := []) ⟨hx, hb, hml, hown, hts⟩ hK hA hZ (c_X6_work l K D C a6 S6 A6 G6 p1 z_4 fz_4) (cwV 1 hts gX6_square_X6_work rfl rfl rfl (by decide +kernel) ⟨Nat.le_of_ble_eq_true rfl, Nat.le_of_ble_eq_true rfl⟩) 0 rfl rfl rfl rfl hl.1 rfl (Nat.le_of_ble_eq_true rfl) ⟨Nat.zero_le _, Nat.zero_le _⟩ (by simp only [List.append_assoc, List.append_nil, List.nil_append]) (by simp only [List.append_assoc, List.append_nil, List.nil_append]) hP hD hS dX6_square_54 (fun H locs hP hD hS => ?_)
      cases hF
      exact hret _ _ _ _ dX6_square_57 rfl hP hD hS
    · have hF := ifn hF c_3
      rcases Decidable.em (p2 = 1) with c_5 | c_5
      · have hF := ifp hF c_5
        refine lv_tableIn (tgt := 58) hx hb dX6_square_10 (by rw [c_5]; decide) (by rw [c_5]; decide) (by rw [c_5]; rfl) (by decide) ?_
        refine lv_aload_n hx hb dX6_square_58 rfl (lv_at hl 0 rfl) ?_
        refine va_get (D := D) (ci := 6) (v := .ref (a6 8)) (C := RX6) (T := TX6) (N := 42) hx hb hts hiX6 hown hK hP 0 rfl rfl 7 (by decide) (hts (.fieldLink RX6 28 "PanoramaHouseModel" "coats" "[I") (by decide +kernel)) (fun _ h9 => h9) rfl dX6_square_59 ?_
        refine lv_iload_n hx hb dX6_square_62 rfl (lv_at hl 1 rfl) ?_
        obtain ⟨h_6, hF⟩ := ix_at hF
        refine va_iald hx hb hK hP 6 0 rfl rfl h_6 dX6_square_63 ?_
        cases hF
        exact hret _ _ _ _ dX6_square_64 rfl hP hD hS
      · have hF := ifn hF c_5
        rcases Decidable.em (p2 = 2) with c_7 | c_7
        · have hF := ifp hF c_7
          refine lv_tableIn (tgt := 65) hx hb dX6_square_10 (by rw [c_7]; decide) (by rw [c_7]; decide) (by rw [c_7]; rfl) (by decide) ?_
          refine lv_aload_n hx hb dX6_square_65 rfl (lv_at hl 0 rfl) ?_
          refine va_get (D := D) (ci := 6) (v := .ref (a6 9)) (C := RX6) (T := TX6) (N := 42) hx hb hts hiX6 hown hK hP 0 rfl rfl 8 (by decide) (hts (.fieldLink RX6 31 "PanoramaHouseModel" "gangOn" "[I") (by decide +kernel)) (fun _ h9 => h9) rfl dX6_square_66 ?_
          refine lv_iload_n hx hb dX6_square_69 rfl (lv_at hl 1 rfl) ?_
          obtain ⟨h_8, hF⟩ := ix_at hF
          refine va_iald hx hb hK hP 7 0 rfl rfl h_8 dX6_square_70 ?_
          cases hF
          exact hret _ _ _ _ dX6_square_71 rfl hP hD hS
        · have hF := ifn hF c_7
          rcases Decidable.em (p2 = 3) with c_9 | c_9
          · have hF := ifp hF c_9
            refine lv_tableIn (tgt := 72) hx hb dX6_square_10 (by rw [c_9]; decide) (by rw [c_9]; decide) (by rw [c_9]; rfl) (by decide) ?_
            refine lv_aload_n hx hb dX6_square_72 rfl (lv_at hl 0 rfl) ?_
            refine va_get (D := D) (ci := 6) (v := .ref (a6 10)) (C := RX6) (T := TX6) (N := 42) hx hb hts hiX6 hown hK hP 0 rfl rfl 9 (by decide) (hts (.fieldLink RX6 34 "PanoramaHouseModel" "left" "[I") (by decide +kernel)) (fun _ h9 => h9) rfl dX6_square_73 ?_
            refine lv_iload_n hx hb dX6_square_76 rfl (lv_at hl 1 rfl) ?_
            obtain ⟨h_10, hF⟩ := ix_at hF
            refine va_iald hx hb hK hP 8 0 rfl rfl h_10 dX6_square_77 ?_
            cases hF
            exact hret _ _ _ _ dX6_square_78 rfl hP hD hS
          · have hF := ifn hF c_9
            rcases Decidable.em (p2 = 4) with c_11 | c_11
            · have hF := ifp hF c_11
              refine lv_tableIn (tgt := 79) hx hb dX6_square_10 (by rw [c_11]; decide) (by rw [c_11]; decide) (by rw [c_11]; rfl) (by decide) ?_
              refine lv_aload_n hx hb dX6_square_79 rfl (lv_at hl 0 rfl) ?_
              refine va_get (D := D) (ci := 6) (v := .ref (a6 11)) (C := RX6) (T := TX6) (N := 42) hx hb hts hiX6 hown hK hP 0 rfl rfl 10 (by decide) (hts (.fieldLink RX6 37 "PanoramaHouseModel" "firstDone" "[I") (by decide +kernel)) (fun _ h9 => h9) rfl dX6_square_80 ?_
              refine lv_iload_n hx hb dX6_square_83 rfl (lv_at hl 1 rfl) ?_
              obtain ⟨h_12, hF⟩ := ix_at hF
              refine va_iald hx hb hK hP 9 0 rfl rfl h_12 dX6_square_84 ?_
              cases hF
              exact hret _ _ _ _ dX6_square_85 rfl hP hD hS
            · have hF := ifn hF c_11
              rcases Decidable.em (p2 = 5) with c_13 | c_13
              · have hF := ifp hF c_13
                refine lv_tableIn (tgt := 86) hx hb dX6_square_10 (by rw [c_13]; decide) (by rw [c_13]; decide) (by rw [c_13]; rfl) (by decide) ?_
                refine lv_aload_n hx hb dX6_square_86 rfl (lv_at hl 0 rfl) ?_
                refine va_get (D := D) (ci := 6) (v := .ref (a6 12)) (C := RX6) (T := TX6) (N := 42) hx hb hts hiX6 hown hK hP 0 rfl rfl 11 (by decide) (hts (.fieldLink RX6 40 "PanoramaHouseModel" "secondDone" "[I") (by decide +kernel)) (fun _ h9 => h9) rfl dX6_square_87 ?_
                refine lv_iload_n hx hb dX6_square_90 rfl (lv_at hl 1 rfl) ?_
                obtain ⟨h_14, hF⟩ := ix_at hF
                refine va_iald hx hb hK hP 10 0 rfl rfl h_14 dX6_square_91 ?_
                cases hF
                exact hret _ _ _ _ dX6_square_92 rfl hP hD hS
              · have hF := ifn hF c_13
                rcases Decidable.em (p2 = 6) with c_15 | c_15
                · have hF := ifp hF c_15
                  refine lv_tableIn (tgt := 93) hx hb dX6_square_10 (by rw [c_15]; decide) (by rw [c_15]; decide) (by rw [c_15]; rfl) (by decide) ?_
                  refine lv_aload_n hx hb dX6_square_93 rfl (lv_at hl 0 rfl) ?_
                  refine va_get (D := D) (ci := 6) (v := .ref (a6 13)) (C := RX6) (T := TX6) (N := 42) hx hb hts hiX6 hown hK hP 0 rfl rfl 12 (by decide) (hts (.fieldLink RX6 43 "PanoramaHouseModel" "lastGang" "[I") (by decide +kernel)) (fun _ h9 => h9) rfl dX6_square_94 ?_
                  refine lv_iload_n hx hb dX6_square_97 rfl (lv_at hl 1 rfl) ?_
                  obtain ⟨h_16, hF⟩ := ix_at hF
                  refine va_iald hx hb hK hP 11 0 rfl rfl h_16 dX6_square_98 ?_
                  cases hF
                  exact hret _ _ _ _ dX6_square_99 rfl hP hD hS
                · have hF := ifn hF c_15
                  have ic_3 : (p2).toInt ≠ 0 := fun h => c_3 (Int32.toInt_inj.mp (h.trans (by decide)))
                  have ic_5 : (p2).toInt ≠ 1 := fun h => c_5 (Int32.toInt_inj.mp (h.trans (by decide)))
                  have ic_7 : (p2).toInt ≠ 2 := fun h => c_7 (Int32.toInt_inj.mp (h.trans (by decide)))
                  have ic_9 : (p2).toInt ≠ 3 := fun h => c_9 (Int32.toInt_inj.mp (h.trans (by decide)))
                  have ic_11 : (p2).toInt ≠ 4 := fun h => c_11 (Int32.toInt_inj.mp (h.trans (by decide)))
                  have ic_13 : (p2).toInt ≠ 5 := fun h => c_13 (Int32.toInt_inj.mp (h.trans (by decide)))
                  have ic_15 : (p2).toInt ≠ 6 := fun h => c_15 (Int32.toInt_inj.mp (h.trans (by decide)))
                  refine lv_tableOut (tgt := 100) hx hb dX6_square_10 (by omega) (by decide) ?_
                  refine lv_iconst (v := -1) hx hb dX6_square_100 (by decide) ?_
                  cases hF
                  exact hret _ _ _ _ dX6_square_101 rfl hP hD hS
  · have hF := ifp hF c_2
    refine lv_iconst (v := -1) hx hb dX6_square_7 (by decide) ?_
    cases hF
    exact hret _ _ _ _ dX6_square_8 rfl hP hD hS
abbrev rmX6_least : Room := { frames := 6, cells := 0, slots := 0, locals := 151 }
set_option maxRecDepth 100000 in
set_option maxHeartbeats 4000000 in
theorem c_X6_least (l : Launch) (K : Kx) (D : va_G) (C : Nat → ClassId) (a6 : Nat → Nat) (S6 : Nat → Int32) (A6 : Nat → Nat → Int32) (G6 : Nat → Nat → Int64) (p1 : Int32) (p2 : Int32) (p3 : Int32) (z : Int32 × (Nat → Nat → Int32)) (hF : F_X6_least S6 A6 p1 p2 p3 = some z) : MetI l yX6_least wsX6_least rmX6_least K D (tyV C) (wX6 C a6 S6 A6 G6) [.ref (a6 0), .int p1, .int p2, .int p3] (wX6 C a6 S6 z.2 G6) z.1 := by
  refine met_int (cc := cX6_least) (maxL := 10) (ty := .int) (by decide +kernel) rfl (Nat.le_of_ble_eq_true rfl) ?_
  intro p e s m below meth c A Q ls ⟨hx, hb, hml, hown, hts, hK, hA, hZ⟩ hP hD hS hl hret
  have hown : s.vm.findClass RX6 = some m.cls := hown
  have hiX6 : ∀ w ∈ u_ws RX6 TX6 42, w ∈ wsX6_least := by decide +kernel
  have hl : lv_has ls 10 [(0, .ref (a6 0)), (1, .int p1), (2, .int p2), (3, .int p3)] := hl
  unfold F_X6_least at hF
  obtain ⟨J232, eJ232, hF⟩ := nm_ex hF
  have bJ232 : ∀ (x5 : Int32) (A6 : Nat → Nat → Int32), J232 x5 A6 = some z → ∀ (H : Heap) (locs : List Loc) (ls : Array Slot), va_P D vwCl (wX6 C a6 S6 A6 G6) H → va_D A (wX6 C a6 S6 A6 G6) → va_S A s.heap H locs → lv_has ls 10 [(5, .int x5)] → W p l e rmX6_least s m ([.ref (a6 0), .int p1, .int p2, .int p3] : List Value).toArray below meth c H locs 0 0 Q (F0 m 232 ls []) := by
    intro x5 A6 hF H locs ls hP hD hS hl
    rw [eJ232] at hF
    refine lv_iload hx hb dX6_least_232 (lv_at hl 0 rfl) ?_
    cases hF
    exact hret _ _ _ _ dX6_least_234 rfl hP hD hS
  have bL85 : ∀ (n : Nat) (x2 : Int32) (x3 : Int32) (x4 : Int32) (x5 : Int32) (x6 : Int32) (A6 : Nat → Nat → Int32), L_X6_least_85 S6 J232 n x2 x3 x4 x5 x6 A6 = some z → ∀ (H : Heap) (locs : List Loc) (ls : Array Slot), va_P D vwCl (wX6 C a6 S6 A6 G6) H → va_D A (wX6 C a6 S6 A6 G6) → va_S A s.heap H locs → lv_has ls 10 [(0, .ref (a6 0)), (2, .int x2), (3, .int x3), (4, .int x4), (5, .int x5), (6, .int x6)] → W p l e rmX6_least s m ([.ref (a6 0), .int p1, .int p2, .int p3] : List Value).toArray below meth c H locs 0 0 Q (F0 m 85 ls []) := by
    intro n
    induction n with
    | zero => intro x2 x3 x4 x5 x6 A6 hF; rw [L_X6_least_85.eq_1] at hF; cases hF
    | succ n ih85 =>
      intro x2 x3 x4 x5 x6 A6 hF H locs ls hP hD hS hl
      rw [L_X6_least_85.eq_2] at hF
      obtain ⟨J226, eJ226, hF⟩ := nm_ex hF
      have bJ226 : ∀ (x2 : Int32) (x3 : Int32) (x4 : Int32) (x5 : Int32) (x6 : Int32) (A6 : Nat → Nat → Int32), J226 x2 x3 x4 x5 x6 A6 = some z → ∀ (H : Heap) (locs : List Loc) (ls : Array Slot), va_P D vwCl (wX6 C a6 S6 A6 G6) H → va_D A (wX6 C a6 S6 A6 G6) → va_S A s.heap H locs → lv_has ls 10 [(0, .ref (a6 0)), (2, .int x2), (3, .int x3), (4, .int x4), (5, .int x5), (6, .int x6)] → W p l e rmX6_least s m ([.ref (a6 0), .int p1, .int p2, .int p3] : List Value).toArray below meth c H locs 0 0 Q (F0 m 226 ls []) := by
        intro x2 x3 x4 x5 x6 A6 hF H locs ls hP hD hS hl
        rw [eJ226] at hF
        obtain ⟨v_1, ev_1⟩ : ∃ y : Int32, y = x6 + 1 := ⟨_, rfl⟩
        have hF := nm_at hF ev_1
        refine lv_iinc (v := v_1) (lv' := [(6, .int v_1), (0, .ref (a6 0)), (2, .int x2), (3, .int x3), (4, .int x4), (5, .int x5)]) hx hb dX6_least_226 hl (k := 5) rfl (by rw [ev_1]; rfl) (by decide) rfl (fun ls hl => ?_)
        refine lv_goto (tgt := 85) hx hb dX6_least_229 (by decide) ?_
        exact ih85 x2 x3 x4 x5 v_1 A6 hF _ _ _ hP hD hS (lv_sub hl [1, 2, 3, 4, 5, 0] rfl)
      obtain ⟨J222, eJ222, hF⟩ := nm_ex hF
      have bJ222 : ∀ (x2 : Int32) (x3 : Int32) (x4 : Int32) (x6 : Int32) (x8 : Int32) (A6 : Nat → Nat → Int32), J222 x2 x3 x4 x6 x8 A6 = some z → ∀ (H : Heap) (locs : List Loc) (ls : Array Slot), va_P D vwCl (wX6 C a6 S6 A6 G6) H → va_D A (wX6 C a6 S6 A6 G6) → va_S A s.heap H locs → lv_has ls 10 [(0, .ref (a6 0)), (2, .int x2), (3, .int x3), (4, .int x4), (6, .int x6), (8, .int x8)] → W p l e rmX6_least s m ([.ref (a6 0), .int p1, .int p2, .int p3] : List Value).toArray below meth c H locs 0 0 Q (F0 m 222 ls []) := by
        intro x2 x3 x4 x6 x8 A6 hF H locs ls hP hD hS hl
        rw [eJ222] at hF
        refine lv_iload hx hb dX6_least_222 (lv_at hl 5 rfl) ?_
        refine lv_istore (lv' := [(5, .int x8), (0, .ref (a6 0)), (2, .int x2), (3, .int x3), (4, .int x4), (6, .int x6), (8, .int x8)]) hx hb dX6_least_224 hl (by decide) rfl (fun ls hl => ?_)
        exact bJ226 x2 x3 x4 x8 x6 A6 hF _ _ _ hP hD hS (lv_sub hl [1, 2, 3, 4, 0, 5] rfl)
      obtain ⟨J209, eJ209, hF⟩ := nm_ex hF
      have bJ209 : ∀ (x2 : Int32) (x3 : Int32) (x4 : Int32) (x5 : Int32) (x6 : Int32) (x8 : Int32) (A6 : Nat → Nat → Int32), J209 x2 x3 x4 x5 x6 x8 A6 = some z → ∀ (H : Heap) (locs : List Loc) (ls : Array Slot), va_P D vwCl (wX6 C a6 S6 A6 G6) H → va_D A (wX6 C a6 S6 A6 G6) → va_S A s.heap H locs → lv_has ls 10 [(0, .ref (a6 0)), (2, .int x2), (3, .int x3), (4, .int x4), (5, .int x5), (6, .int x6), (8, .int x8)] → W p l e rmX6_least s m ([.ref (a6 0), .int p1, .int p2, .int p3] : List Value).toArray below meth c H locs 0 0 Q (F0 m 209 ls []) := by
        intro x2 x3 x4 x5 x6 x8 A6 hF H locs ls hP hD hS hl
        rw [eJ209] at hF
        refine lv_iload hx hb dX6_least_209 (lv_at hl 4 rfl) ?_
        refine lv_iconst (v := -1) hx hb dX6_least_211 (by decide) ?_
        refine lv_icmp_eq (tgt := 222) hx hb dX6_least_212 (by decide) (fun c_2 => ?_) (fun c_2 => ?_)
        · have hF := ifp hF c_2
          exact bJ222 x2 x3 x4 x6 x8 A6 hF _ _ _ hP hD hS (lv_sub hl [0, 1, 2, 3, 5, 6] rfl)
        · have hF := ifn hF c_2
          refine lv_iload hx hb dX6_least_215 (lv_at hl 6 rfl) ?_
          refine lv_iload hx hb dX6_least_217 (lv_at hl 4 rfl) ?_
          refine lv_icmp_ge (tgt := 226) hx hb dX6_least_219 (by decide) (fun c_3 => ?_) (fun c_3 => ?_)
          · have hF := ifp hF c_3
            exact bJ226 x2 x3 x4 x5 x6 A6 hF _ _ _ hP hD hS (lv_sub hl [0, 1, 2, 3, 4, 5] rfl)
          · have hF := ifn hF c_3
            exact bJ222 x2 x3 x4 x6 x8 A6 hF _ _ _ hP hD hS (lv_sub hl [0, 1, 2, 3, 5, 6] rfl)
      have bL165 : ∀ (n : Nat) (x2 : Int32) (x3 : Int32) (x4 : Int32) (x5 : Int32) (x6 : Int32) (x8 : Int32) (x9 : Int32) (A6 : Nat → Nat → Int32), L_X6_least_165 S6 J209 n x2 x3 x4 x5 x6 x8 x9 A6 = some z → ∀ (H : Heap) (locs : List Loc) (ls : Array Slot), va_P D vwCl (wX6 C a6 S6 A6 G6) H → va_D A (wX6 C a6 S6 A6 G6) → va_S A s.heap H locs → lv_has ls 10 [(0, .ref (a6 0)), (2, .int x2), (3, .int x3), (4, .int x4), (5, .int x5), (6, .int x6), (8, .int x8), (9, .int x9)] → W p l e rmX6_least s m ([.ref (a6 0), .int p1, .int p2, .int p3] : List Value).toArray below meth c H locs 0 0 Q (F0 m 165 ls []) := by
        intro n
        induction n with
        | zero => intro x2 x3 x4 x5 x6 x8 x9 A6 hF; rw [L_X6_least_165.eq_1] at hF; cases hF
        | succ n ih165 =>
          intro x2 x3 x4 x5 x6 x8 x9 A6 hF H locs ls hP hD hS hl
          rw [L_X6_least_165.eq_2] at hF
          refine lv_iload hx hb dX6_least_165 (lv_at hl 7 rfl) ?_
          refine lv_iload_n hx hb dX6_least_167 rfl (lv_at hl 2 rfl) ?_
          refine lv_icmp_ge (tgt := 209) hx hb dX6_least_168 (by decide) (fun c_4 => ?_) (fun c_4 => ?_)
          · have hF := ifp hF c_4
            exact bJ209 x2 x3 x4 x5 x6 x8 A6 hF _ _ _ hP hD hS (lv_sub hl [0, 1, 2, 3, 4, 5, 6] rfl)
          · have hF := ifn hF c_4
            refine lv_iload hx hb dX6_least_171 (lv_at hl 6 rfl) ?_
            refine lv_aload_n hx hb dX6_least_173 rfl (lv_at hl 0 rfl) ?_
            refine va_get (D := D) (ci := 6) (v := .ref (a6 15)) (C := RX6) (T := TX6) (N := 42) hx hb hts hiX6 hown hK hP 0 rfl rfl 14 (by decide) (hts (.fieldLink RX6 49 "PanoramaHouseModel" "load" "[I") (by decide +kernel)) (fun _ h9 => h9) rfl dX6_least_174 ?_
            refine lv_iload hx hb dX6_least_177 (lv_at hl 7 rfl) ?_
            obtain ⟨h_5, hF⟩ := ix_at hF
            refine va_iald hx hb hK hP 13 0 rfl rfl h_5 dX6_least_179 ?_
            refine lv_aload_n hx hb dX6_least_180 rfl (lv_at hl 0 rfl) ?_
            refine va_get (D := D) (ci := 6) (v := .ref (a6 6)) (C := RX6) (T := TX6) (N := 42) hx hb hts hiX6 hown hK hP 0 rfl rfl 5 (by decide) (hts (.fieldLink RX6 21 "PanoramaHouseModel" "skill" "[I") (by decide +kernel)) (fun _ h9 => h9) rfl dX6_least_181 ?_
            refine lv_iload hx hb dX6_least_184 (lv_at hl 7 rfl) ?_
            obtain ⟨h_6, hF⟩ := ix_at hF
            refine va_iald hx hb hK hP 4 0 rfl rfl h_6 dX6_least_186 ?_
            refine lv_iadd hx hb dX6_least_187 ?_
            refine lv_iconst (v := 1) hx hb dX6_least_188 (by decide) ?_
            refine lv_isub hx hb dX6_least_189 ?_
            refine lv_aload_n hx hb dX6_least_190 rfl (lv_at hl 0 rfl) ?_
            refine va_get (D := D) (ci := 6) (v := .ref (a6 6)) (C := RX6) (T := TX6) (N := 42) hx hb hts hiX6 hown hK hP 0 rfl rfl 5 (by decide) (hts (.fieldLink RX6 21 "PanoramaHouseModel" "skill" "[I") (by decide +kernel)) (fun _ h9 => h9) rfl dX6_least_191 ?_
            refine lv_iload hx hb dX6_least_194 (lv_at hl 7 rfl) ?_
            obtain ⟨h_7, hF⟩ := ix_at hF
            refine va_iald hx hb hK hP 4 0 rfl rfl h_7 dX6_least_196 ?_
            obtain ⟨n_8, hF⟩ := nz_at hF
            refine lv_idiv hx hb dX6_least_197 n_8 ?_
            refine va_mmax hx hb (hml.trans hl.1.symm) hown (hts (.methodLink RX6 119 Lib.Math.max.name) (by decide +kernel)) (hts (.static Lib.Math.max.name) (by decide +kernel)) (hts (.initialized "java/lang/Math") (by decide +kernel)) (hts (.code Lib.Math.max.name Lib.Math.max.code 2 (some .int)) (by decide +kernel)) (Nat.le_of_ble_eq_true rfl) (Nat.le_of_ble_eq_true rfl) (Nat.zero_le _) (Nat.zero_le _) dX6_least_198 ?_
            refine lv_topi (fun v_9 ev_9 => ?_)
            have hF := nm_at hF ev_9
            refine lv_istore (lv' := [(8, .int v_9), (0, .ref (a6 0)), (2, .int x2), (3, .int x3), (4, .int x4), (5, .int x5), (6, .int x6), (9, .int x9)]) hx hb dX6_least_201 hl (by decide) rfl (fun ls hl => ?_)
            obtain ⟨v_10, ev_10⟩ : ∃ y : Int32, y = x9 + 1 := ⟨_, rfl⟩
            have hF := nm_at hF ev_10
            refine lv_iinc (v := v_10) (lv' := [(9, .int v_10), (8, .int v_9), (0, .ref (a6 0)), (2, .int x2), (3, .int x3), (4, .int x4), (5, .int x5), (6, .int x6)]) hx hb dX6_least_203 hl (k := 7) rfl (by rw [ev_10]; rfl) (by decide) rfl (fun ls hl => ?_)
            refine lv_goto (tgt := 165) hx hb dX6_least_206 (by decide) ?_
            exact ih165 x2 x3 x4 x5 x6 v_9 v_10 A6 hF _ _ _ hP hD hS (lv_sub hl [2, 3, 4, 5, 6, 7, 1, 0] rfl)
      obtain ⟨J159, eJ159, hF⟩ := nm_ex hF
      have bJ159 : ∀ (x2 : Int32) (x3 : Int32) (x4 : Int32) (x5 : Int32) (x6 : Int32) (A6 : Nat → Nat → Int32), J159 x2 x3 x4 x5 x6 A6 = some z → ∀ (H : Heap) (locs : List Loc) (ls : Array Slot), va_P D vwCl (wX6 C a6 S6 A6 G6) H → va_D A (wX6 C a6 S6 A6 G6) → va_S A s.heap H locs → lv_has ls 10 [(0, .ref (a6 0)), (2, .int x2), (3, .int x3), (4, .int x4), (5, .int x5), (6, .int x6)] → W p l e rmX6_least s m ([.ref (a6 0), .int p1, .int p2, .int p3] : List Value).toArray below meth c H locs 0 0 Q (F0 m 159 ls []) := by
        intro x2 x3 x4 x5 x6 A6 hF H locs ls hP hD hS hl
        rw [eJ159] at hF
        refine lv_iconst (v := 0) hx hb dX6_least_159 (by decide) ?_
        refine lv_istore (lv' := [(8, .int 0), (0, .ref (a6 0)), (2, .int x2), (3, .int x3), (4, .int x4), (5, .int x5), (6, .int x6)]) hx hb dX6_least_160 hl (by decide) rfl (fun ls hl => ?_)
        refine lv_iconst (v := 0) hx hb dX6_least_162 (by decide) ?_
        refine lv_istore (lv' := [(9, .int 0), (8, .int 0), (0, .ref (a6 0)), (2, .int x2), (3, .int x3), (4, .int x4), (5, .int x5), (6, .int x6)]) hx hb dX6_least_163 hl (by decide) rfl (fun ls hl => ?_)
        exact bL165 FU x2 x3 x4 x5 x6 0 0 A6 hF _ _ _ hP hD hS (lv_sub hl [2, 3, 4, 5, 6, 7, 1, 0] rfl)
      have bL122 : ∀ (n : Nat) (x2 : Int32) (x3 : Int32) (x4 : Int32) (x5 : Int32) (x6 : Int32) (x7 : Int32) (x8 : Int32) (A6 : Nat → Nat → Int32), L_X6_least_122 S6 J159 n x2 x3 x4 x5 x6 x7 x8 A6 = some z → ∀ (H : Heap) (locs : List Loc) (ls : Array Slot), va_P D vwCl (wX6 C a6 S6 A6 G6) H → va_D A (wX6 C a6 S6 A6 G6) → va_S A s.heap H locs → lv_has ls 10 [(0, .ref (a6 0)), (2, .int x2), (3, .int x3), (4, .int x4), (5, .int x5), (6, .int x6), (7, .int x7), (8, .int x8)] → W p l e rmX6_least s m ([.ref (a6 0), .int p1, .int p2, .int p3] : List Value).toArray below meth c H locs 0 0 Q (F0 m 122 ls []) := by
        intro n
        induction n with
        | zero => intro x2 x3 x4 x5 x6 x7 x8 A6 hF; rw [L_X6_least_122.eq_1] at hF; cases hF
        | succ n ih122 =>
          intro x2 x3 x4 x5 x6 x7 x8 A6 hF H locs ls hP hD hS hl
          rw [L_X6_least_122.eq_2] at hF
          refine lv_iload hx hb dX6_least_122 (lv_at hl 7 rfl) ?_
          refine lv_iload_n hx hb dX6_least_124 rfl (lv_at hl 1 rfl) ?_
          refine lv_icmp_ge (tgt := 159) hx hb dX6_least_125 (by decide) (fun c_11 => ?_) (fun c_11 => ?_)
          · have hF := ifp hF c_11
            exact bJ159 x2 x3 x4 x5 x6 A6 hF _ _ _ hP hD hS (lv_sub hl [0, 1, 2, 3, 4, 5] rfl)
          · have hF := ifn hF c_11
            refine lv_aload_n hx hb dX6_least_128 rfl (lv_at hl 0 rfl) ?_
            refine va_get (D := D) (ci := 6) (v := .ref (a6 15)) (C := RX6) (T := TX6) (N := 42) hx hb hts hiX6 hown hK hP 0 rfl rfl 14 (by decide) (hts (.fieldLink RX6 49 "PanoramaHouseModel" "load" "[I") (by decide +kernel)) (fun _ h9 => h9) rfl dX6_least_129 ?_
            refine lv_iload hx hb dX6_least_132 (lv_at hl 6 rfl) ?_
            refine lv_iload_n hx hb dX6_least_134 rfl (lv_at hl 2 rfl) ?_
            obtain ⟨n_12, hF⟩ := nz_at hF
            refine lv_irem hx hb dX6_least_135 n_12 ?_
            refine lv_dup2_11 hx hb dX6_least_136 rfl rfl ?_
            obtain ⟨h_13, hF⟩ := ix_at hF
            refine va_iald hx hb hK hP 13 0 rfl rfl h_13 dX6_least_137 ?_
            refine lv_aload_n hx hb dX6_least_138 rfl (lv_at hl 0 rfl) ?_
            refine va_get (D := D) (ci := 6) (v := .ref (a6 14)) (C := RX6) (T := TX6) (N := 42) hx hb hts hiX6 hown hK hP 0 rfl rfl 13 (by decide) (hts (.fieldLink RX6 46 "PanoramaHouseModel" "works" "[I") (by decide +kernel)) (fun _ h9 => h9) rfl dX6_least_139 ?_
            refine lv_iload hx hb dX6_least_142 (lv_at hl 7 rfl) ?_
            obtain ⟨h_14, hF⟩ := ix_at hF
            refine va_iald hx hb hK hP 12 0 rfl rfl h_14 dX6_least_144 ?_
            refine lv_iadd hx hb dX6_least_145 ?_
            obtain ⟨h_15, hF⟩ := ix_at hF
            refine va_iast hx hb hK hP hD hS 13 0 rfl rfl h_15 dX6_least_146 (fun H locs hP hD hS => ?_)
            obtain ⟨A6_16, eA6_16, hF⟩ := nm_ex hF
            have hP : va_P D vwCl (wX6 C a6 S6 A6_16 G6) H := by rw [eA6_16]; exact hP
            have hD : va_D A (wX6 C a6 S6 A6_16 G6) := by rw [eA6_16]; exact hD
            refine lv_iload hx hb dX6_least_147 (lv_at hl 6 rfl) ?_
            refine lv_iload_n hx hb dX6_least_149 rfl (lv_at hl 2 rfl) ?_
            obtain ⟨n_17, hF⟩ := nz_at hF
            refine lv_idiv hx hb dX6_least_150 n_17 ?_
            refine lv_topi (fun v_18 ev_18 => ?_)
            have hF := nm_at hF ev_18
            refine lv_istore (lv' := [(7, .int v_18), (0, .ref (a6 0)), (2, .int x2), (3, .int x3), (4, .int x4), (5, .int x5), (6, .int x6), (8, .int x8)]) hx hb dX6_least_151 hl (by decide) rfl (fun ls hl => ?_)
            obtain ⟨v_19, ev_19⟩ : ∃ y : Int32, y = x8 + 1 := ⟨_, rfl⟩
            have hF := nm_at hF ev_19
            refine lv_iinc (v := v_19) (lv' := [(8, .int v_19), (7, .int v_18), (0, .ref (a6 0)), (2, .int x2), (3, .int x3), (4, .int x4), (5, .int x5), (6, .int x6)]) hx hb dX6_least_153 hl (k := 7) rfl (by rw [ev_19]; rfl) (by decide) rfl (fun ls hl => ?_)
            refine lv_goto (tgt := 122) hx hb dX6_least_156 (by decide) ?_
            exact ih122 x2 x3 x4 x5 x6 v_18 v_19 A6_16 hF _ _ _ hP hD hS (lv_sub hl [2, 3, 4, 5, 6, 7, 1, 0] rfl)
      obtain ⟨J115, eJ115, hF⟩ := nm_ex hF
      have bJ115 : ∀ (x2 : Int32) (x3 : Int32) (x4 : Int32) (x5 : Int32) (x6 : Int32) (A6 : Nat → Nat → Int32), J115 x2 x3 x4 x5 x6 A6 = some z → ∀ (H : Heap) (locs : List Loc) (ls : Array Slot), va_P D vwCl (wX6 C a6 S6 A6 G6) H → va_D A (wX6 C a6 S6 A6 G6) → va_S A s.heap H locs → lv_has ls 10 [(0, .ref (a6 0)), (2, .int x2), (3, .int x3), (4, .int x4), (5, .int x5), (6, .int x6)] → W p l e rmX6_least s m ([.ref (a6 0), .int p1, .int p2, .int p3] : List Value).toArray below meth c H locs 0 0 Q (F0 m 115 ls []) := by
        intro x2 x3 x4 x5 x6 A6 hF H locs ls hP hD hS hl
        rw [eJ115] at hF
        refine lv_iload hx hb dX6_least_115 (lv_at hl 5 rfl) ?_
        refine lv_istore (lv' := [(7, .int x6), (0, .ref (a6 0)), (2, .int x2), (3, .int x3), (4, .int x4), (5, .int x5), (6, .int x6)]) hx hb dX6_least_117 hl (by decide) rfl (fun ls hl => ?_)
        refine lv_iconst (v := 0) hx hb dX6_least_119 (by decide) ?_
        refine lv_istore (lv' := [(8, .int 0), (7, .int x6), (0, .ref (a6 0)), (2, .int x2), (3, .int x3), (4, .int x4), (5, .int x5), (6, .int x6)]) hx hb dX6_least_120 hl (by decide) rfl (fun ls hl => ?_)
        exact bL122 FU x2 x3 x4 x5 x6 x6 0 A6 hF _ _ _ hP hD hS (lv_sub hl [2, 3, 4, 5, 6, 7, 1, 0] rfl)
      have bL95 : ∀ (n : Nat) (x2 : Int32) (x3 : Int32) (x4 : Int32) (x5 : Int32) (x6 : Int32) (x7 : Int32) (A6 : Nat → Nat → Int32), L_X6_least_95 S6 J115 n x2 x3 x4 x5 x6 x7 A6 = some z → ∀ (H : Heap) (locs : List Loc) (ls : Array Slot), va_P D vwCl (wX6 C a6 S6 A6 G6) H → va_D A (wX6 C a6 S6 A6 G6) → va_S A s.heap H locs → lv_has ls 10 [(0, .ref (a6 0)), (2, .int x2), (3, .int x3), (4, .int x4), (5, .int x5), (6, .int x6), (7, .int x7)] → W p l e rmX6_least s m ([.ref (a6 0), .int p1, .int p2, .int p3] : List Value).toArray below meth c H locs 0 0 Q (F0 m 95 ls []) := by
        intro n
        induction n with
        | zero => intro x2 x3 x4 x5 x6 x7 A6 hF; rw [L_X6_least_95.eq_1] at hF; cases hF
        | succ n ih95 =>
          intro x2 x3 x4 x5 x6 x7 A6 hF H locs ls hP hD hS hl
          rw [L_X6_least_95.eq_2] at hF
          refine lv_iload hx hb dX6_least_95 (lv_at hl 6 rfl) ?_
          refine lv_iload_n hx hb dX6_least_97 rfl (lv_at hl 2 rfl) ?_
          refine lv_icmp_ge (tgt := 115) hx hb dX6_least_98 (by decide) (fun c_20 => ?_) (fun c_20 => ?_)
          · have hF := ifp hF c_20
            exact bJ115 x2 x3 x4 x5 x6 A6 hF _ _ _ hP hD hS (lv_sub hl [0, 1, 2, 3, 4, 5] rfl)
          · have hF := ifn hF c_20
            refine lv_aload_n hx hb dX6_least_101 rfl (lv_at hl 0 rfl) ?_
            refine va_get (D := D) (ci := 6) (v := .ref (a6 15)) (C := RX6) (T := TX6) (N := 42) hx hb hts hiX6 hown hK hP 0 rfl rfl 14 (by decide) (hts (.fieldLink RX6 49 "PanoramaHouseModel" "load" "[I") (by decide +kernel)) (fun _ h9 => h9) rfl dX6_least_102 ?_
            refine lv_iload hx hb dX6_least_105 (lv_at hl 6 rfl) ?_
            refine lv_iconst (v := 0) hx hb dX6_least_107 (by decide) ?_
            obtain ⟨h_21, hF⟩ := ix_at hF
            refine va_iast hx hb hK hP hD hS 13 0 rfl rfl h_21 dX6_least_108 (fun H locs hP hD hS => ?_)
            obtain ⟨A6_22, eA6_22, hF⟩ := nm_ex hF
            have hP : va_P D vwCl (wX6 C a6 S6 A6_22 G6) H := by rw [eA6_22]; exact hP
            have hD : va_D A (wX6 C a6 S6 A6_22 G6) := by rw [eA6_22]; exact hD
            obtain ⟨v_23, ev_23⟩ : ∃ y : Int32, y = x7 + 1 := ⟨_, rfl⟩
            have hF := nm_at hF ev_23
            refine lv_iinc (v := v_23) (lv' := [(7, .int v_23), (0, .ref (a6 0)), (2, .int x2), (3, .int x3), (4, .int x4), (5, .int x5), (6, .int x6)]) hx hb dX6_least_109 hl (k := 6) rfl (by rw [ev_23]; rfl) (by decide) rfl (fun ls hl => ?_)
            refine lv_goto (tgt := 95) hx hb dX6_least_112 (by decide) ?_
            exact ih95 x2 x3 x4 x5 x6 v_23 A6_22 hF _ _ _ hP hD hS (lv_sub hl [1, 2, 3, 4, 5, 6, 0] rfl)
      refine lv_iload hx hb dX6_least_85 (lv_at hl 5 rfl) ?_
      refine lv_iload hx hb dX6_least_87 (lv_at hl 3 rfl) ?_
      refine lv_icmp_ge (tgt := 232) hx hb dX6_least_89 (by decide) (fun c_24 => ?_) (fun c_24 => ?_)
      · have hF := ifp hF c_24
        exact bJ232 x5 A6 hF _ _ _ hP hD hS (lv_sub hl [4] rfl)
      · have hF := ifn hF c_24
        refine lv_iconst (v := 0) hx hb dX6_least_92 (by decide) ?_
        refine lv_istore (lv' := [(7, .int 0), (0, .ref (a6 0)), (2, .int x2), (3, .int x3), (4, .int x4), (5, .int x5), (6, .int x6)]) hx hb dX6_least_93 hl (by decide) rfl (fun ls hl => ?_)
        exact bL95 FU x2 x3 x4 x5 x6 0 A6 hF _ _ _ hP hD hS (lv_sub hl [1, 2, 3, 4, 5, 6, 0] rfl)
  obtain ⟨J79, eJ79, hF⟩ := nm_ex hF
  have bJ79 : ∀ (x2 : Int32) (x3 : Int32) (x4 : Int32) (A6 : Nat → Nat → Int32), J79 x2 x3 x4 A6 = some z → ∀ (H : Heap) (locs : List Loc) (ls : Array Slot), va_P D vwCl (wX6 C a6 S6 A6 G6) H → va_D A (wX6 C a6 S6 A6 G6) → va_S A s.heap H locs → lv_has ls 10 [(0, .ref (a6 0)), (2, .int x2), (3, .int x3), (4, .int x4)] → W p l e rmX6_least s m ([.ref (a6 0), .int p1, .int p2, .int p3] : List Value).toArray below meth c H locs 0 0 Q (F0 m 79 ls []) := by
    intro x2 x3 x4 A6 hF H locs ls hP hD hS hl
    rw [eJ79] at hF
    refine lv_iconst (v := -1) hx hb dX6_least_79 (by decide) ?_
    refine lv_istore (lv' := [(5, .int (-1)), (0, .ref (a6 0)), (2, .int x2), (3, .int x3), (4, .int x4)]) hx hb dX6_least_80 hl (by decide) rfl (fun ls hl => ?_)
    refine lv_iconst (v := 0) hx hb dX6_least_82 (by decide) ?_
    refine lv_istore (lv' := [(6, .int 0), (5, .int (-1)), (0, .ref (a6 0)), (2, .int x2), (3, .int x3), (4, .int x4)]) hx hb dX6_least_83 hl (by decide) rfl (fun ls hl => ?_)
    exact bL85 FU x2 x3 x4 (-1) 0 A6 hF _ _ _ hP hD hS (lv_sub hl [2, 3, 4, 5, 1, 0] rfl)
  have bL46 : ∀ (n : Nat) (x1 : Int32) (x2 : Int32) (x3 : Int32) (x4 : Int32) (x5 : Int32) (A6 : Nat → Nat → Int32), L_X6_least_46 S6 J79 n x1 x2 x3 x4 x5 A6 = some z → ∀ (H : Heap) (locs : List Loc) (ls : Array Slot), va_P D vwCl (wX6 C a6 S6 A6 G6) H → va_D A (wX6 C a6 S6 A6 G6) → va_S A s.heap H locs → lv_has ls 10 [(0, .ref (a6 0)), (1, .int x1), (2, .int x2), (3, .int x3), (4, .int x4), (5, .int x5)] → W p l e rmX6_least s m ([.ref (a6 0), .int p1, .int p2, .int p3] : List Value).toArray below meth c H locs 0 0 Q (F0 m 46 ls []) := by
    intro n
    induction n with
    | zero => intro x1 x2 x3 x4 x5 A6 hF; rw [L_X6_least_46.eq_1] at hF; cases hF
    | succ n ih46 =>
      intro x1 x2 x3 x4 x5 A6 hF H locs ls hP hD hS hl
      rw [L_X6_least_46.eq_2] at hF
      refine lv_iload hx hb dX6_least_46 (lv_at hl 5 rfl) ?_
      refine lv_iload_n hx hb dX6_least_48 rfl (lv_at hl 2 rfl) ?_
      refine lv_icmp_ge (tgt := 79) hx hb dX6_least_49 (by decide) (fun c_25 => ?_) (fun c_25 => ?_)
      · have hF := ifp hF c_25
        exact bJ79 x2 x3 x4 A6 hF _ _ _ hP hD hS (lv_sub hl [0, 2, 3, 4] rfl)
      · have hF := ifn hF c_25
        refine lv_aload_n hx hb dX6_least_52 rfl (lv_at hl 0 rfl) ?_
        refine va_get (D := D) (ci := 6) (v := .ref (a6 14)) (C := RX6) (T := TX6) (N := 42) hx hb hts hiX6 hown hK hP 0 rfl rfl 13 (by decide) (hts (.fieldLink RX6 46 "PanoramaHouseModel" "works" "[I") (by decide +kernel)) (fun _ h9 => h9) rfl dX6_least_53 ?_
        refine lv_iload hx hb dX6_least_56 (lv_at hl 5 rfl) ?_
        refine lv_aload_n hx hb dX6_least_58 rfl (lv_at hl 0 rfl) ?_
        refine lv_iload_n hx hb dX6_least_59 rfl (lv_at hl 1 rfl) ?_
        refine lv_iload hx hb dX6_least_60 (lv_at hl 5 rfl) ?_
        refine lv_iadd hx hb dX6_least_62 ?_
        obtain ⟨z_26, fz_26, hF⟩ := bd_at hF
        refine callV_int ([]) ([]) (w' := wX6 C a6 S6 z_26.2 G6) (As := [.int (x1 + x5)]) (rest := [.int x5, .ref (a6 14)]) ⟨hx, hb, hml, hown, hts⟩ hK hA hZ (c_X6_work l K D C a6 S6 A6 G6 (x1 + x5) z_26 fz_26) (cwV 1 hts gX6_least_X6_work rfl rfl rfl (by decide +kernel) ⟨Nat.le_of_ble_eq_true rfl, Nat.le_of_ble_eq_true rfl⟩) 0 rfl rfl rfl rfl hl.1 rfl (Nat.le_of_ble_eq_true rfl) ⟨Nat.zero_le _, Nat.zero_le _⟩ (by simp only [List.append_assoc, List.append_nil, List.nil_append]) (by simp only [List.append_assoc, List.append_nil, List.nil_append]) hP hD hS dX6_least_63 (fun H locs hP hD hS => ?_)
        obtain ⟨h_27, hF⟩ := ix_at hF
        refine va_iast hx hb hK hP hD hS 12 0 rfl rfl h_27 dX6_least_66 (fun H locs hP hD hS => ?_)
        obtain ⟨A6_28, eA6_28, hF⟩ := nm_ex hF
        have hP : va_P D vwCl (wX6 C a6 S6 A6_28 G6) H := by rw [eA6_28]; exact hP
        have hD : va_D A (wX6 C a6 S6 A6_28 G6) := by rw [eA6_28]; exact hD
        refine lv_iload hx hb dX6_least_67 (lv_at hl 4 rfl) ?_
        refine lv_iload_n hx hb dX6_least_69 rfl (lv_at hl 3 rfl) ?_
        refine lv_imul hx hb dX6_least_70 ?_
        refine lv_topi (fun v_29 ev_29 => ?_)
        have hF := nm_at hF ev_29
        refine lv_istore (lv' := [(4, .int v_29), (0, .ref (a6 0)), (1, .int x1), (2, .int x2), (3, .int x3), (5, .int x5)]) hx hb dX6_least_71 hl (by decide) rfl (fun ls hl => ?_)
        obtain ⟨v_30, ev_30⟩ : ∃ y : Int32, y = x5 + 1 := ⟨_, rfl⟩
        have hF := nm_at hF ev_30
        refine lv_iinc (v := v_30) (lv' := [(5, .int v_30), (4, .int v_29), (0, .ref (a6 0)), (1, .int x1), (2, .int x2), (3, .int x3)]) hx hb dX6_least_73 hl (k := 5) rfl (by rw [ev_30]; rfl) (by decide) rfl (fun ls hl => ?_)
        refine lv_goto (tgt := 46) hx hb dX6_least_76 (by decide) ?_
        exact ih46 x1 x2 x3 v_29 v_30 A6_28 hF _ _ _ hP hD hS (lv_sub hl [2, 3, 4, 5, 1, 0] rfl)
  refine lv_iload_n hx hb dX6_least_0 rfl (lv_at hl 2 rfl) ?_
  refine lv_iconst (v := 1) hx hb dX6_least_1 (by decide) ?_
  refine lv_bipush (v := 6) hx hb dX6_least_2 (by decide) ?_
  obtain ⟨z_31, fz_31, hF⟩ := bd_at hF
  refine callS_int (As := [.int p2, .int 1, .int 6]) (rest := []) ⟨hx, hb, hml, hown, hts⟩ hK hA hZ (c_X6_isIn l K D C p2 1 6 z_31 fz_31) (va_cwS 3 hts gX6_least_X6_isIn rfl rfl rfl (by decide +kernel) ⟨Nat.le_of_ble_eq_true rfl, Nat.le_of_ble_eq_true rfl⟩) rfl hl.1 rfl (Nat.le_of_ble_eq_true rfl) ⟨Nat.zero_le _, Nat.zero_le _⟩ hP hS dX6_least_4 (fun H locs hP hS => ?_)
  refine lv_if_eq (tgt := 38) hx hb dX6_least_7 (by decide) (fun c_32 => ?_) (fun c_32 => ?_)
  · have hF := ifp hF c_32
    refine lv_iconst (v := -1) hx hb dX6_least_38 (by decide) ?_
    cases hF
    exact hret _ _ _ _ dX6_least_39 rfl hP hD hS
  · have hF := ifn hF c_32
    refine lv_iload_n hx hb dX6_least_10 rfl (lv_at hl 1 rfl) ?_
    refine lv_iconst (v := 0) hx hb dX6_least_11 (by decide) ?_
    refine lv_bipush (v := 72) hx hb dX6_least_12 (by decide) ?_
    refine lv_iload_n hx hb dX6_least_14 rfl (lv_at hl 2 rfl) ?_
    refine lv_isub hx hb dX6_least_15 ?_
    obtain ⟨z_33, fz_33, hF⟩ := bd_at hF
    refine callS_int (As := [.int p1, .int 0, .int (72 - p2)]) (rest := []) ⟨hx, hb, hml, hown, hts⟩ hK hA hZ (c_X6_isIn l K D C p1 0 (72 - p2) z_33 fz_33) (va_cwS 3 hts gX6_least_X6_isIn rfl rfl rfl (by decide +kernel) ⟨Nat.le_of_ble_eq_true rfl, Nat.le_of_ble_eq_true rfl⟩) rfl hl.1 rfl (Nat.le_of_ble_eq_true rfl) ⟨Nat.zero_le _, Nat.zero_le _⟩ hP hS dX6_least_16 (fun H locs hP hS => ?_)
    refine lv_if_eq (tgt := 38) hx hb dX6_least_19 (by decide) (fun c_34 => ?_) (fun c_34 => ?_)
    · have hF := ifp hF c_34
      refine lv_iconst (v := -1) hx hb dX6_least_38 (by decide) ?_
      cases hF
      exact hret _ _ _ _ dX6_least_39 rfl hP hD hS
    · have hF := ifn hF c_34
      refine lv_iload_n hx hb dX6_least_22 rfl (lv_at hl 3 rfl) ?_
      refine lv_iconst (v := 1) hx hb dX6_least_23 (by decide) ?_
      refine lv_iconst (v := 3) hx hb dX6_least_24 (by decide) ?_
      refine lv_aload_n hx hb dX6_least_25 rfl (lv_at hl 0 rfl) ?_
      refine va_get (D := D) (ci := 6) (v := .int (S6 4)) (C := RX6) (T := TX6) (N := 42) hx hb hts hiX6 hown hK hP 0 rfl rfl 4 (by decide) (hts (.fieldLink RX6 148 "PanoramaHouseModel" "gangs" "I") (by decide +kernel)) (fun _ h9 => h9) rfl dX6_least_26 ?_
      refine va_mmin hx hb (hml.trans hl.1.symm) hown (hts (.methodLink RX6 138 Lib.Math.min.name) (by decide +kernel)) (hts (.static Lib.Math.min.name) (by decide +kernel)) (hts (.initialized "java/lang/Math") (by decide +kernel)) (hts (.code Lib.Math.min.name Lib.Math.min.code 2 (some .int)) (by decide +kernel)) (Nat.le_of_ble_eq_true rfl) (Nat.le_of_ble_eq_true rfl) (Nat.zero_le _) (Nat.zero_le _) dX6_least_29 ?_
      refine lv_topi (fun v_35 ev_35 => ?_)
      have hF := nm_at hF ev_35
      obtain ⟨z_36, fz_36, hF⟩ := bd_at hF
      refine callS_int (As := [.int p3, .int 1, .int v_35]) (rest := []) ⟨hx, hb, hml, hown, hts⟩ hK hA hZ (c_X6_isIn l K D C p3 1 v_35 z_36 fz_36) (va_cwS 3 hts gX6_least_X6_isIn rfl rfl rfl (by decide +kernel) ⟨Nat.le_of_ble_eq_true rfl, Nat.le_of_ble_eq_true rfl⟩) rfl hl.1 rfl (Nat.le_of_ble_eq_true rfl) ⟨Nat.zero_le _, Nat.zero_le _⟩ hP hS dX6_least_32 (fun H locs hP hS => ?_)
      refine lv_if_ne (tgt := 40) hx hb dX6_least_35 (by decide) (fun c_37 => ?_) (fun c_37 => ?_)
      · have hF := ifn hF c_37
        refine lv_iconst (v := 1) hx hb dX6_least_40 (by decide) ?_
        refine lv_istore (lv' := [(4, .int 1), (0, .ref (a6 0)), (1, .int p1), (2, .int p2), (3, .int p3)]) hx hb dX6_least_41 hl (by decide) rfl (fun ls hl => ?_)
        refine lv_iconst (v := 0) hx hb dX6_least_43 (by decide) ?_
        refine lv_istore (lv' := [(5, .int 0), (4, .int 1), (0, .ref (a6 0)), (1, .int p1), (2, .int p2), (3, .int p3)]) hx hb dX6_least_44 hl (by decide) rfl (fun ls hl => ?_)
        exact bL46 FU p1 p2 p3 1 0 A6 hF _ _ _ hP hD hS (lv_sub hl [2, 3, 4, 5, 1, 0] rfl)
      · have hF := ifp hF c_37
        refine lv_iconst (v := -1) hx hb dX6_least_38 (by decide) ?_
        cases hF
        exact hret _ _ _ _ dX6_least_39 rfl hP hD hS
