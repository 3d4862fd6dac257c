abbrev rmX6_four : Room := { frames := 1, cells := 0, slots := 0, locals := 32 }
set_option maxRecDepth 100000 in
set_option maxHeartbeats 4000000 in
theorem c_X6_four (l : Launch) (K : Kx) (D : va_G) (C : Nat → ClassId) (a6 : Nat → Nat) (S6 : Nat → Int32) (A6 : Nat → Nat → Int32) (G6 : Nat → Nat → Int64) (p1 : Int32) (z : (Nat → Int32) × (Nat → Nat → Int32)) (hF : F_X6_four S6 A6 p1 = some z) : MetV l yX6_four wsX6_four rmX6_four K D (tyV C) (wX6 C a6 S6 A6 G6) [.ref (a6 0), .int p1] (wX6 C a6 z.1 z.2 G6) := by
  refine met_void (cc := cX6_four) (maxL := 3) (by decide +kernel) rfl (Nat.le_of_ble_eq_true rfl) ?_
  intro p e s m below meth c A Q ls ⟨hx, hb, hml, hown, hts, hK, hA, hZ⟩ hP hD hS hl hret
  have hown : s.vm.findClass RX6 = some m.cls := hown
  have hiX6 : ∀ w ∈ u_ws RX6 TX6 42, w ∈ wsX6_four := by decide +kernel
  have hl : lv_has ls 3 [(0, .ref (a6 0)), (1, .int p1)] := hl
  unfold F_X6_four at hF
  obtain ⟨J36, eJ36, hF⟩ := nm_ex hF
  have bJ36 : ∀ (S6 : Nat → Int32) (A6 : Nat → Nat → Int32), J36 S6 A6 = some z → ∀ (H : Heap) (locs : List Loc) (ls : Array Slot), va_P D vwCl (wX6 C a6 S6 A6 G6) H → va_D A (wX6 C a6 S6 A6 G6) → va_S A s.heap H locs → lv_has ls 3 [] → W p l e rmX6_four s m ([.ref (a6 0), .int p1] : List Value).toArray below meth c H locs 0 0 Q (F0 m 36 ls []) := by
    intro S6 A6 hF H locs ls hP hD hS hl
    rw [eJ36] at hF
    cases hF
    exact hret _ _ _ _ dX6_four_36 hP hD hS
  have bL3 : ∀ (n : Nat) (x1 : Int32) (x2 : Int32) (S6 : Nat → Int32) (A6 : Nat → Nat → Int32), L_X6_four_3 J36 n x1 x2 S6 A6 = some z → ∀ (H : Heap) (locs : List Loc) (ls : Array Slot), va_P D vwCl (wX6 C a6 S6 A6 G6) H → va_D A (wX6 C a6 S6 A6 G6) → va_S A s.heap H locs → lv_has ls 3 [(0, .ref (a6 0)), (1, .int x1), (2, .int x2)] → W p l e rmX6_four s m ([.ref (a6 0), .int p1] : List Value).toArray below meth c H locs 0 0 Q (F0 m 3 ls []) := by
    intro n
    induction n with
    | zero => intro x1 x2 S6 A6 hF; rw [L_X6_four_3.eq_1] at hF; cases hF
    | succ n ih3 =>
      intro x1 x2 S6 A6 hF H locs ls hP hD hS hl
      rw [L_X6_four_3.eq_2] at hF
      refine lv_iload_n hx hb dX6_four_3 rfl (lv_at hl 2 rfl) ?_
      refine lv_if_lt (tgt := 36) hx hb dX6_four_4 (by decide) (fun c_1 => ?_) (fun c_1 => ?_)
      · have hF := ifp hF c_1
        exact bJ36 S6 A6 hF _ _ _ hP hD hS (lv_sub hl [] rfl)
      · have hF := ifn hF c_1
        refine lv_aload_n hx hb dX6_four_7 rfl (lv_at hl 0 rfl) ?_
        refine va_get (D := D) (ci := 6) (v := .ref (a6 16)) (C := RX6) (T := TX6) (N := 42) hx hb hts hiX6 hown hK hP 0 rfl rfl 15 (by decide) (hts (.fieldLink RX6 52 "PanoramaHouseModel" "tape" "[B") (by decide +kernel)) (fun _ h9 => h9) rfl dX6_four_8 ?_
        refine lv_aload_n hx hb dX6_four_11 rfl (lv_at hl 0 rfl) ?_
        refine va_get (D := D) (ci := 6) (v := .int (S6 17)) (C := RX6) (T := TX6) (N := 42) hx hb hts hiX6 hown hK hP 0 rfl rfl 17 (by decide) (hts (.fieldLink RX6 161 "PanoramaHouseModel" "taped" "I") (by decide +kernel)) (fun _ h9 => h9) rfl dX6_four_12 ?_
        refine lv_iload_n hx hb dX6_four_15 rfl (lv_at hl 1 rfl) ?_
        refine lv_iload_n hx hb dX6_four_16 rfl (lv_at hl 2 rfl) ?_
        refine lv_ishr hx hb dX6_four_17 ?_
        refine lv_i2b (v := ((x1 >>> (x2 &&& 31))).toInt8.toInt32) hx hb dX6_four_18 rfl ?_
        obtain ⟨h_2, hF⟩ := ix_at hF
        refine va_bast hx hb hK hP hD hS 14 1 rfl rfl h_2 dX6_four_19 (fun H locs hP hD hS => ?_)
        obtain ⟨A6_3, eA6_3, hF⟩ := nm_ex hF
        have hP : va_P D vwCl (wX6 C a6 S6 A6_3 G6) H := by rw [eA6_3]; exact hP
        have hD : va_D A (wX6 C a6 S6 A6_3 G6) := by rw [eA6_3]; exact hD
        refine lv_aload_n hx hb dX6_four_20 rfl (lv_at hl 0 rfl) ?_
        refine lv_dup hx hb dX6_four_21 rfl ?_
        refine va_get (D := D) (ci := 6) (v := .int (S6 17)) (C := RX6) (T := TX6) (N := 42) hx hb hts hiX6 hown hK hP 0 rfl rfl 17 (by decide) (hts (.fieldLink RX6 161 "PanoramaHouseModel" "taped" "I") (by decide +kernel)) (fun _ h9 => h9) rfl dX6_four_22 ?_
        refine lv_iconst (v := 1) hx hb dX6_four_25 (by decide) ?_
        refine lv_iadd hx hb dX6_four_26 ?_
        refine va_put (D := D) (ci := 6) (v := .int ((S6 17) + 1)) (ty := .int) (C := RX6) (T := TX6) (N := 42) hx hb hts hiX6 tyX6 tyX6_ok nmX6 hown hK hP hD hS 0 rfl rfl 17 (by decide) (hts (.fieldLink RX6 161 "PanoramaHouseModel" "taped" "I") (by decide +kernel)) (fun _ h9 => h9) rfl (by decide +kernel) rfl rfl (Nat.le_of_ble_eq_true rfl) dX6_four_27 (fun H locs hP hD hS => ?_)
        obtain ⟨S6_4, eS6_4, hF⟩ := nm_ex hF
        have hP : va_P D vwCl (wX6 C a6 S6_4 A6_3 G6) H := by rw [eS6_4]; exact hP
        have hD : va_D A (wX6 C a6 S6_4 A6_3 G6) := by rw [eS6_4]; exact hD
        obtain ⟨v_5, ev_5⟩ : ∃ y : Int32, y = x2 + (-8) := ⟨_, rfl⟩
        have hF := nm_at hF ev_5
        refine lv_iinc (v := v_5) (lv' := [(2, .int v_5), (0, .ref (a6 0)), (1, .int x1)]) hx hb dX6_four_30 hl (k := 2) rfl (by rw [ev_5]; rfl) (by decide) rfl (fun ls hl => ?_)
        refine lv_goto (tgt := 3) hx hb dX6_four_33 (by decide) ?_
        exact ih3 x1 v_5 S6_4 A6_3 hF _ _ _ hP hD hS (lv_sub hl [1, 2, 0] rfl)
  refine lv_bipush (v := 24) hx hb dX6_four_0 (by decide) ?_
  refine lv_istore_n (lv' := [(2, .int 24), (0, .ref (a6 0)), (1, .int p1)]) hx hb dX6_four_2 rfl hl (by decide) rfl (fun ls hl => ?_)
  exact bL3 FU p1 24 S6 A6 hF _ _ _ hP hD hS (lv_sub hl [1, 2, 0] rfl)
abbrev rmX6_feed : Room := { frames := 2, cells := 0, slots := 0, locals := 54 }
set_option maxRecDepth 100000 in
set_option maxHeartbeats 4000000 in
theorem c_X6_feed (l : Launch) (K : Kx) (D : va_G) (C : Nat → ClassId) (a6 : Nat → Nat) (S6 : Nat → Int32) (A6 : Nat → Nat → Int32) (G6 : Nat → Nat → Int64) (p1 : Int32) (p2 : Int32) (p3 : Int32) (p4 : Int32) (p5 : Int32) (z : Int32 × (Nat → Int32) × (Nat → Nat → Int32)) (hF : F_X6_feed S6 A6 p1 p2 p3 p4 p5 = some z) : MetI l yX6_feed wsX6_feed rmX6_feed K D (tyV C) (wX6 C a6 S6 A6 G6) [.ref (a6 0), .int p1, .int p2, .int p3, .int p4, .int p5] (wX6 C a6 z.2.1 z.2.2 G6) z.1 := by
  refine met_int (cc := cX6_feed) (maxL := 6) (ty := .int) (by decide +kernel) rfl (Nat.le_of_ble_eq_true rfl) ?_
  intro p e s m below meth c A Q ls ⟨hx, hb, hml, hown, hts, hK, hA, hZ⟩ hP hD hS hl hret
  have hown : s.vm.findClass RX6 = some m.cls := hown
  have hiX6 : ∀ w ∈ u_ws RX6 TX6 42, w ∈ wsX6_feed := by decide +kernel
  have hl : lv_has ls 6 [(0, .ref (a6 0)), (1, .int p1), (2, .int p2), (3, .int p3), (4, .int p4), (5, .int p5)] := hl
  unfold F_X6_feed at hF
  refine lv_aload_n hx hb dX6_feed_0 rfl (lv_at hl 0 rfl) ?_
  refine va_get (D := D) (ci := 6) (v := .int (S6 17)) (C := RX6) (T := TX6) (N := 42) hx hb hts hiX6 hown hK hP 0 rfl rfl 17 (by decide) (hts (.fieldLink RX6 161 "PanoramaHouseModel" "taped" "I") (by decide +kernel)) (fun _ h9 => h9) rfl dX6_feed_1 ?_
  refine lv_bipush (v := 20) hx hb dX6_feed_4 (by decide) ?_
  refine lv_iadd hx hb dX6_feed_6 ?_
  refine lv_sipush (v := 600) hx hb dX6_feed_7 (by decide) ?_
  refine lv_icmp_le (tgt := 15) hx hb dX6_feed_10 (by decide) (fun c_1 => ?_) (fun c_1 => ?_)
  · have hF := ifp hF c_1
    refine lv_aload_n hx hb dX6_feed_15 rfl (lv_at hl 0 rfl) ?_
    refine lv_iload_n hx hb dX6_feed_16 rfl (lv_at hl 1 rfl) ?_
    obtain ⟨z_2, fz_2, hF⟩ := bd_at hF
    refine callV_void ([]) ([]) (w' := wX6 C a6 z_2.1 z_2.2 G6) (As := [.int p1]) (rest := []) ⟨hx, hb, hml, hown, hts⟩ hK hA hZ (c_X6_four l K D C a6 S6 A6 G6 p1 z_2 fz_2) (cwV 1 hts gX6_feed_X6_four rfl rfl rfl (by decide +kernel) ⟨Nat.le_of_ble_eq_true rfl, Nat.le_of_ble_eq_true rfl⟩) 0 rfl rfl rfl rfl hl.1 rfl (Nat.le_of_ble_eq_true rfl) ⟨Nat.zero_le _, Nat.zero_le _⟩ (by simp only [List.append_assoc, List.append_nil, List.nil_append]) (by simp only [List.append_assoc, List.append_nil, List.nil_append]) hP hD hS dX6_feed_17 (fun H locs hP hD hS => ?_)
    refine lv_aload_n hx hb dX6_feed_20 rfl (lv_at hl 0 rfl) ?_
    refine lv_iload_n hx hb dX6_feed_21 rfl (lv_at hl 2 rfl) ?_
    obtain ⟨z_3, fz_3, hF⟩ := bd_at hF
    refine callV_void ([]) ([]) (w' := wX6 C a6 z_3.1 z_3.2 G6) (As := [.int p2]) (rest := []) ⟨hx, hb, hml, hown, hts⟩ hK hA hZ (c_X6_four l K D C a6 z_2.1 z_2.2 G6 p2 z_3 fz_3) (cwV 1 hts gX6_feed_X6_four rfl rfl rfl (by decide +kernel) ⟨Nat.le_of_ble_eq_true rfl, Nat.le_of_ble_eq_true rfl⟩) 0 rfl rfl rfl rfl hl.1 rfl (Nat.le_of_ble_eq_true rfl) ⟨Nat.zero_le _, Nat.zero_le _⟩ (by simp only [List.append_assoc, List.append_nil, List.nil_append]) (by simp only [List.append_assoc, List.append_nil, List.nil_append]) hP hD hS dX6_feed_22 (fun H locs hP hD hS => ?_)
    refine lv_aload_n hx hb dX6_feed_25 rfl (lv_at hl 0 rfl) ?_
    refine lv_iload_n hx hb dX6_feed_26 rfl (lv_at hl 3 rfl) ?_
    obtain ⟨z_4, fz_4, hF⟩ := bd_at hF
    refine callV_void ([]) ([]) (w' := wX6 C a6 z_4.1 z_4.2 G6) (As := [.int p3]) (rest := []) ⟨hx, hb, hml, hown, hts⟩ hK hA hZ (c_X6_four l K D C a6 z_3.1 z_3.2 G6 p3 z_4 fz_4) (cwV 1 hts gX6_feed_X6_four rfl rfl rfl (by decide +kernel) ⟨Nat.le_of_ble_eq_true rfl, Nat.le_of_ble_eq_true rfl⟩) 0 rfl rfl rfl rfl hl.1 rfl (Nat.le_of_ble_eq_true rfl) ⟨Nat.zero_le _, Nat.zero_le _⟩ (by simp only [List.append_assoc, List.append_nil, List.nil_append]) (by simp only [List.append_assoc, List.append_nil, List.nil_append]) hP hD hS dX6_feed_27 (fun H locs hP hD hS => ?_)
    refine lv_aload_n hx hb dX6_feed_30 rfl (lv_at hl 0 rfl) ?_
    refine lv_iload hx hb dX6_feed_31 (lv_at hl 4 rfl) ?_
    obtain ⟨z_5, fz_5, hF⟩ := bd_at hF
    refine callV_void ([]) ([]) (w' := wX6 C a6 z_5.1 z_5.2 G6) (As := [.int p4]) (rest := []) ⟨hx, hb, hml, hown, hts⟩ hK hA hZ (c_X6_four l K D C a6 z_4.1 z_4.2 G6 p4 z_5 fz_5) (cwV 1 hts gX6_feed_X6_four rfl rfl rfl (by decide +kernel) ⟨Nat.le_of_ble_eq_true rfl, Nat.le_of_ble_eq_true rfl⟩) 0 rfl rfl rfl rfl hl.1 rfl (Nat.le_of_ble_eq_true rfl) ⟨Nat.zero_le _, Nat.zero_le _⟩ (by simp only [List.append_assoc, List.append_nil, List.nil_append]) (by simp only [List.append_assoc, List.append_nil, List.nil_append]) hP hD hS dX6_feed_33 (fun H locs hP hD hS => ?_)
    refine lv_aload_n hx hb dX6_feed_36 rfl (lv_at hl 0 rfl) ?_
    refine lv_iload hx hb dX6_feed_37 (lv_at hl 5 rfl) ?_
    obtain ⟨z_6, fz_6, hF⟩ := bd_at hF
    refine callV_void ([]) ([]) (w' := wX6 C a6 z_6.1 z_6.2 G6) (As := [.int p5]) (rest := []) ⟨hx, hb, hml, hown, hts⟩ hK hA hZ (c_X6_four l K D C a6 z_5.1 z_5.2 G6 p5 z_6 fz_6) (cwV 1 hts gX6_feed_X6_four rfl rfl rfl (by decide +kernel) ⟨Nat.le_of_ble_eq_true rfl, Nat.le_of_ble_eq_true rfl⟩) 0 rfl rfl rfl rfl hl.1 rfl (Nat.le_of_ble_eq_true rfl) ⟨Nat.zero_le _, Nat.zero_le _⟩ (by simp only [List.append_assoc, List.append_nil, List.nil_append]) (by simp only [List.append_assoc, List.append_nil, List.nil_append]) hP hD hS dX6_feed_39 (fun H locs hP hD hS => ?_)
    refine lv_aload_n hx hb dX6_feed_42 rfl (lv_at hl 0 rfl) ?_
    refine va_get (D := D) (ci := 6) (v := .int (z_6.1 17)) (C := RX6) (T := TX6) (N := 42) hx hb hts hiX6 hown hK hP 0 rfl rfl 17 (by decide) (hts (.fieldLink RX6 161 "PanoramaHouseModel" "taped" "I") (by decide +kernel)) (fun _ h9 => h9) rfl dX6_feed_43 ?_
    cases hF
    exact hret _ _ _ _ dX6_feed_46 rfl hP hD hS
  · have hF := ifn hF c_1
    refine lv_iconst (v := -1) hx hb dX6_feed_13 (by decide) ?_
    cases hF
    exact hret _ _ _ _ dX6_feed_14 rfl hP hD hS
abbrev rmX6_blanks : Room := { frames := 1, cells := 0, slots := 0, locals := 32 }
set_option maxRecDepth 100000 in
set_option maxHeartbeats 4000000 in
theorem c_X6_blanks (l : Launch) (K : Kx) (D : va_G) (C : Nat → ClassId) (a6 : Nat → Nat) (S6 : Nat → Int32) (A6 : Nat → Nat → Int32) (G6 : Nat → Nat → Int64) (z : (Nat → Int32)) (hF : F_X6_blanks S6 A6 = some z) : MetV l yX6_blanks wsX6_blanks rmX6_blanks K D (tyV C) (wX6 C a6 S6 A6 G6) [.ref (a6 0)] (wX6 C a6 z A6 G6) := by
  refine met_void (cc := cX6_blanks) (maxL := 1) (by decide +kernel) rfl (Nat.le_of_ble_eq_true rfl) ?_
  intro p e s m below meth c A Q ls ⟨hx, hb, hml, hown, hts, hK, hA, hZ⟩ hP hD hS hl hret
  have hown : s.vm.findClass RX6 = some m.cls := hown
  have hiX6 : ∀ w ∈ u_ws RX6 TX6 42, w ∈ wsX6_blanks := by decide +kernel
  have hl : lv_has ls 1 [(0, .ref (a6 0))] := hl
  unfold F_X6_blanks at hF
  obtain ⟨J52, eJ52, hF⟩ := nm_ex hF
  have bJ52 : ∀ (S6 : Nat → Int32), J52 S6 = some z → ∀ (H : Heap) (locs : List Loc) (ls : Array Slot), va_P D vwCl (wX6 C a6 S6 A6 G6) H → va_D A (wX6 C a6 S6 A6 G6) → va_S A s.heap H locs → lv_has ls 1 [] → W p l e rmX6_blanks s m ([.ref (a6 0)] : List Value).toArray below meth c H locs 0 0 Q (F0 m 52 ls []) := by
    intro S6 hF H locs ls hP hD hS hl
    rw [eJ52] at hF
    cases hF
    exact hret _ _ _ _ dX6_blanks_52 hP hD hS
  have bL0 : ∀ (n : Nat) (S6 : Nat → Int32), L_X6_blanks_0 A6 J52 n S6 = some z → ∀ (H : Heap) (locs : List Loc) (ls : Array Slot), va_P D vwCl (wX6 C a6 S6 A6 G6) H → va_D A (wX6 C a6 S6 A6 G6) → va_S A s.heap H locs → lv_has ls 1 [(0, .ref (a6 0))] → W p l e rmX6_blanks s m ([.ref (a6 0)] : List Value).toArray below meth c H locs 0 0 Q (F0 m 0 ls []) := by
    intro n
    induction n with
    | zero => intro S6 hF; rw [L_X6_blanks_0.eq_1] at hF; cases hF
    | succ n ih0 =>
      intro S6 hF H locs ls hP hD hS hl
      rw [L_X6_blanks_0.eq_2] at hF
      obtain ⟨J39, eJ39, hF⟩ := nm_ex hF
      have bJ39 : ∀ (S6 : Nat → Int32), J39 S6 = some z → ∀ (H : Heap) (locs : List Loc) (ls : Array Slot), va_P D vwCl (wX6 C a6 S6 A6 G6) H → va_D A (wX6 C a6 S6 A6 G6) → va_S A s.heap H locs → lv_has ls 1 [(0, .ref (a6 0))] → W p l e rmX6_blanks s m ([.ref (a6 0)] : List Value).toArray below meth c H locs 0 0 Q (F0 m 39 ls []) := by
        intro S6 hF H locs ls hP hD hS hl
        rw [eJ39] at hF
        refine lv_aload_n hx hb dX6_blanks_39 rfl (lv_at hl 0 rfl) ?_
        refine lv_dup hx hb dX6_blanks_40 rfl ?_
        refine va_get (D := D) (ci := 6) (v := .int (S6 19)) (C := RX6) (T := TX6) (N := 42) hx hb hts hiX6 hown hK hP 0 rfl rfl 19 (by decide) (hts (.fieldLink RX6 168 "PanoramaHouseModel" "at" "I") (by decide +kernel)) (fun _ h9 => h9) rfl dX6_blanks_41 ?_
        refine lv_iconst (v := 1) hx hb dX6_blanks_44 (by decide) ?_
        refine lv_iadd hx hb dX6_blanks_45 ?_
        refine va_put (D := D) (ci := 6) (v := .int ((S6 19) + 1)) (ty := .int) (C := RX6) (T := TX6) (N := 42) hx hb hts hiX6 tyX6 tyX6_ok nmX6 hown hK hP hD hS 0 rfl rfl 19 (by decide) (hts (.fieldLink RX6 168 "PanoramaHouseModel" "at" "I") (by decide +kernel)) (fun _ h9 => h9) rfl (by decide +kernel) rfl rfl (Nat.le_of_ble_eq_true rfl) dX6_blanks_46 (fun H locs hP hD hS => ?_)
        obtain ⟨S6_1, eS6_1, hF⟩ := nm_ex hF
        have hP : va_P D vwCl (wX6 C a6 S6_1 A6 G6) H := by rw [eS6_1]; exact hP
        have hD : va_D A (wX6 C a6 S6_1 A6 G6) := by rw [eS6_1]; exact hD
        refine lv_goto (tgt := 0) hx hb dX6_blanks_49 (by decide) ?_
        exact ih0 S6_1 hF _ _ _ hP hD hS (lv_sub hl [0] rfl)
      refine lv_aload_n hx hb dX6_blanks_0 rfl (lv_at hl 0 rfl) ?_
      refine va_get (D := D) (ci := 6) (v := .int (S6 19)) (C := RX6) (T := TX6) (N := 42) hx hb hts hiX6 hown hK hP 0 rfl rfl 19 (by decide) (hts (.fieldLink RX6 168 "PanoramaHouseModel" "at" "I") (by decide +kernel)) (fun _ h9 => h9) rfl dX6_blanks_1 ?_
      refine lv_aload_n hx hb dX6_blanks_4 rfl (lv_at hl 0 rfl) ?_
      refine va_get (D := D) (ci := 6) (v := .int (S6 18)) (C := RX6) (T := TX6) (N := 42) hx hb hts hiX6 hown hK hP 0 rfl rfl 18 (by decide) (hts (.fieldLink RX6 171 "PanoramaHouseModel" "size" "I") (by decide +kernel)) (fun _ h9 => h9) rfl dX6_blanks_5 ?_
      refine lv_icmp_ge (tgt := 52) hx hb dX6_blanks_8 (by decide) (fun c_2 => ?_) (fun c_2 => ?_)
      · have hF := ifp hF c_2
        exact bJ52 S6 hF _ _ _ hP hD hS (lv_sub hl [] rfl)
      · have hF := ifn hF c_2
        refine lv_aload_n hx hb dX6_blanks_11 rfl (lv_at hl 0 rfl) ?_
        refine va_get (D := D) (ci := 6) (v := .ref (a6 17)) (C := RX6) (T := TX6) (N := 42) hx hb hts hiX6 hown hK hP 0 rfl rfl 16 (by decide) (hts (.fieldLink RX6 55 "PanoramaHouseModel" "text" "[B") (by decide +kernel)) (fun _ h9 => h9) rfl dX6_blanks_12 ?_
        refine lv_aload_n hx hb dX6_blanks_15 rfl (lv_at hl 0 rfl) ?_
        refine va_get (D := D) (ci := 6) (v := .int (S6 19)) (C := RX6) (T := TX6) (N := 42) hx hb hts hiX6 hown hK hP 0 rfl rfl 19 (by decide) (hts (.fieldLink RX6 168 "PanoramaHouseModel" "at" "I") (by decide +kernel)) (fun _ h9 => h9) rfl dX6_blanks_16 ?_
        obtain ⟨h_3, hF⟩ := ix_at hF
        refine va_bald hx hb hK hP 15 1 rfl rfl h_3 dX6_blanks_19 ?_
        refine lv_bipush (v := 32) hx hb dX6_blanks_20 (by decide) ?_
        refine lv_icmp_eq (tgt := 39) hx hb dX6_blanks_22 (by decide) (fun c_4 => ?_) (fun c_4 => ?_)
        · have hF := ifp hF c_4
          exact bJ39 S6 hF _ _ _ hP hD hS (lv_sub hl [0] rfl)
        · have hF := ifn hF c_4
          refine lv_aload_n hx hb dX6_blanks_25 rfl (lv_at hl 0 rfl) ?_
          refine va_get (D := D) (ci := 6) (v := .ref (a6 17)) (C := RX6) (T := TX6) (N := 42) hx hb hts hiX6 hown hK hP 0 rfl rfl 16 (by decide) (hts (.fieldLink RX6 55 "PanoramaHouseModel" "text" "[B") (by decide +kernel)) (fun _ h9 => h9) rfl dX6_blanks_26 ?_
          refine lv_aload_n hx hb dX6_blanks_29 rfl (lv_at hl 0 rfl) ?_
          refine va_get (D := D) (ci := 6) (v := .int (S6 19)) (C := RX6) (T := TX6) (N := 42) hx hb hts hiX6 hown hK hP 0 rfl rfl 19 (by decide) (hts (.fieldLink RX6 168 "PanoramaHouseModel" "at" "I") (by decide +kernel)) (fun _ h9 => h9) rfl dX6_blanks_30 ?_
          obtain ⟨h_5, hF⟩ := ix_at hF
          refine va_bald hx hb hK hP 15 1 rfl rfl h_5 dX6_blanks_33 ?_
          refine lv_bipush (v := 10) hx hb dX6_blanks_34 (by decide) ?_
          refine lv_icmp_ne (tgt := 52) hx hb dX6_blanks_36 (by decide) (fun c_6 => ?_) (fun c_6 => ?_)
          · have hF := ifn hF c_6
            exact bJ52 S6 hF _ _ _ hP hD hS (lv_sub hl [] rfl)
          · have hF := ifp hF c_6
            exact bJ39 S6 hF _ _ _ hP hD hS (lv_sub hl [0] rfl)
  exact bL0 FU S6 hF _ _ _ hP hD hS (lv_sub hl [0] rfl)
abbrev rmX6_word : Room := { frames := 2, cells := 0, slots := 0, locals := 52 }
set_option maxRecDepth 100000 in
set_option maxHeartbeats 4000000 in
theorem c_X6_word (l : Launch) (K : Kx) (D : va_G) (C : Nat → ClassId) (a6 : Nat → Nat) (S6 : Nat → Int32) (A6 : Nat → Nat → Int32) (G6 : Nat → Nat → Int64) (z : Int64 × (Nat → Int32)) (hF : F_X6_word S6 A6 = some z) : MetL l yX6_word wsX6_word rmX6_word K D (tyV C) (wX6 C a6 S6 A6 G6) [.ref (a6 0)] (wX6 C a6 z.2 A6 G6) z.1 := by
  refine met_long (cc := cX6_word) (maxL := 3) (by decide +kernel) rfl (Nat.le_of_ble_eq_true rfl) ?_
  intro p e s m below meth c A Q ls ⟨hx, hb, hml, hown, hts, hK, hA, hZ⟩ hP hD hS hl hret
  have hown : s.vm.findClass RX6 = some m.cls := hown
  have hiX6 : ∀ w ∈ u_ws RX6 TX6 42, w ∈ wsX6_word := by decide +kernel
  have hl : lv_has ls 3 [(0, .ref (a6 0))] := hl
  unfold F_X6_word at hF
  obtain ⟨J100, eJ100, hF⟩ := nm_ex hF
  have bJ100 : ∀ (x1 : Int64) (S6 : Nat → Int32), J100 x1 S6 = some z → ∀ (H : Heap) (locs : List Loc) (ls : Array Slot), va_P D vwCl (wX6 C a6 S6 A6 G6) H → va_D A (wX6 C a6 S6 A6 G6) → va_S A s.heap H locs → lv_has ls 3 [(0, .ref (a6 0)), (1, .long x1)] → W p l e rmX6_word s m ([.ref (a6 0)] : List Value).toArray below meth c H locs 0 0 Q (F0 m 100 ls []) := by
    intro x1 S6 hF H locs ls hP hD hS hl
    rw [eJ100] at hF
    refine lv_aload_n hx hb dX6_word_100 rfl (lv_at hl 0 rfl) ?_
    refine va_get (D := D) (ci := 6) (v := .int (S6 33)) (C := RX6) (T := TX6) (N := 42) hx hb hts hiX6 hown hK hP 0 rfl rfl 33 (by decide) (hts (.fieldLink RX6 177 "PanoramaHouseModel" "wordEnd" "I") (by decide +kernel)) (fun _ h9 => h9) rfl dX6_word_101 ?_
    refine lv_aload_n hx hb dX6_word_104 rfl (lv_at hl 0 rfl) ?_
    refine va_get (D := D) (ci := 6) (v := .int (S6 19)) (C := RX6) (T := TX6) (N := 42) hx hb hts hiX6 hown hK hP 0 rfl rfl 19 (by decide) (hts (.fieldLink RX6 168 "PanoramaHouseModel" "at" "I") (by decide +kernel)) (fun _ h9 => h9) rfl dX6_word_105 ?_
    refine lv_isub hx hb dX6_word_108 ?_
    refine lv_bipush (v := 7) hx hb dX6_word_109 (by decide) ?_
    refine lv_icmp_le (tgt := 118) hx hb dX6_word_111 (by decide) (fun c_1 => ?_) (fun c_1 => ?_)
    · have hF := ifp hF c_1
      refine lv_lload_n hx hb dX6_word_118 rfl (lv_at hl 1 rfl) ?_
      cases hF
      exact hret _ _ _ _ dX6_word_119 hP hD hS
    · have hF := ifn hF c_1
      refine lv_lconst (v := 0) hx hb dX6_word_114 (by decide) ?_
      refine lv_goto (tgt := 119) hx hb dX6_word_115 (by decide) ?_
      cases hF
      exact hret _ _ _ _ dX6_word_119 hP hD hS
  have bL14 : ∀ (n : Nat) (x1 : Int64) (S6 : Nat → Int32), L_X6_word_14 A6 J100 n x1 S6 = some z → ∀ (H : Heap) (locs : List Loc) (ls : Array Slot), va_P D vwCl (wX6 C a6 S6 A6 G6) H → va_D A (wX6 C a6 S6 A6 G6) → va_S A s.heap H locs → lv_has ls 3 [(0, .ref (a6 0)), (1, .long x1)] → W p l e rmX6_word s m ([.ref (a6 0)] : List Value).toArray below meth c H locs 0 0 Q (F0 m 14 ls []) := by
    intro n
    induction n with
    | zero => intro x1 S6 hF; rw [L_X6_word_14.eq_1] at hF; cases hF
    | succ n ih14 =>
      intro x1 S6 hF H locs ls hP hD hS hl
      rw [L_X6_word_14.eq_2] at hF
      obtain ⟨J86, eJ86, hF⟩ := nm_ex hF
      have bJ86 : ∀ (y0 : Int64) (S6 : Nat → Int32), J86 y0 S6 = some z → ∀ (H : Heap) (locs : List Loc) (ls : Array Slot), va_P D vwCl (wX6 C a6 S6 A6 G6) H → va_D A (wX6 C a6 S6 A6 G6) → va_S A s.heap H locs → lv_has ls 3 [(0, .ref (a6 0))] → W p l e rmX6_word s m ([.ref (a6 0)] : List Value).toArray below meth c H locs 0 0 Q (F0 m 86 ls [.long y0]) := by
        intro y0 S6 hF H locs ls hP hD hS hl
        rw [eJ86] at hF
        refine lv_lstore_n (lv' := [(1, .long y0), (0, .ref (a6 0))]) hx hb dX6_word_86 rfl hl (by decide) rfl (fun ls hl => ?_)
        refine lv_aload_n hx hb dX6_word_87 rfl (lv_at hl 1 rfl) ?_
        refine lv_dup hx hb dX6_word_88 rfl ?_
        refine va_get (D := D) (ci := 6) (v := .int (S6 33)) (C := RX6) (T := TX6) (N := 42) hx hb hts hiX6 hown hK hP 0 rfl rfl 33 (by decide) (hts (.fieldLink RX6 177 "PanoramaHouseModel" "wordEnd" "I") (by decide +kernel)) (fun _ h9 => h9) rfl dX6_word_89 ?_
        refine lv_iconst (v := 1) hx hb dX6_word_92 (by decide) ?_
        refine lv_iadd hx hb dX6_word_93 ?_
        refine va_put (D := D) (ci := 6) (v := .int ((S6 33) + 1)) (ty := .int) (C := RX6) (T := TX6) (N := 42) hx hb hts hiX6 tyX6 tyX6_ok nmX6 hown hK hP hD hS 0 rfl rfl 33 (by decide) (hts (.fieldLink RX6 177 "PanoramaHouseModel" "wordEnd" "I") (by decide +kernel)) (fun _ h9 => h9) rfl (by decide +kernel) rfl rfl (Nat.le_of_ble_eq_true rfl) dX6_word_94 (fun H locs hP hD hS => ?_)
        obtain ⟨S6_2, eS6_2, hF⟩ := nm_ex hF
        have hP : va_P D vwCl (wX6 C a6 S6_2 A6 G6) H := by rw [eS6_2]; exact hP
        have hD : va_D A (wX6 C a6 S6_2 A6 G6) := by rw [eS6_2]; exact hD
        refine lv_goto (tgt := 14) hx hb dX6_word_97 (by decide) ?_
        exact ih14 y0 S6_2 hF _ _ _ hP hD hS (lv_sub hl [1, 0] rfl)
      refine lv_aload_n hx hb dX6_word_14 rfl (lv_at hl 0 rfl) ?_
      refine va_get (D := D) (ci := 6) (v := .int (S6 33)) (C := RX6) (T := TX6) (N := 42) hx hb hts hiX6 hown hK hP 0 rfl rfl 33 (by decide) (hts (.fieldLink RX6 177 "PanoramaHouseModel" "wordEnd" "I") (by decide +kernel)) (fun _ h9 => h9) rfl dX6_word_15 ?_
      refine lv_aload_n hx hb dX6_word_18 rfl (lv_at hl 0 rfl) ?_
      refine va_get (D := D) (ci := 6) (v := .int (S6 18)) (C := RX6) (T := TX6) (N := 42) hx hb hts hiX6 hown hK hP 0 rfl rfl 18 (by decide) (hts (.fieldLink RX6 171 "PanoramaHouseModel" "size" "I") (by decide +kernel)) (fun _ h9 => h9) rfl dX6_word_19 ?_
      refine lv_icmp_ge (tgt := 100) hx hb dX6_word_22 (by decide) (fun c_3 => ?_) (fun c_3 => ?_)
      · have hF := ifp hF c_3
        exact bJ100 x1 S6 hF _ _ _ hP hD hS (lv_sub hl [0, 1] rfl)
      · have hF := ifn hF c_3
        refine lv_aload_n hx hb dX6_word_25 rfl (lv_at hl 0 rfl) ?_
        refine va_get (D := D) (ci := 6) (v := .ref (a6 17)) (C := RX6) (T := TX6) (N := 42) hx hb hts hiX6 hown hK hP 0 rfl rfl 16 (by decide) (hts (.fieldLink RX6 55 "PanoramaHouseModel" "text" "[B") (by decide +kernel)) (fun _ h9 => h9) rfl dX6_word_26 ?_
        refine lv_aload_n hx hb dX6_word_29 rfl (lv_at hl 0 rfl) ?_
        refine va_get (D := D) (ci := 6) (v := .int (S6 33)) (C := RX6) (T := TX6) (N := 42) hx hb hts hiX6 hown hK hP 0 rfl rfl 33 (by decide) (hts (.fieldLink RX6 177 "PanoramaHouseModel" "wordEnd" "I") (by decide +kernel)) (fun _ h9 => h9) rfl dX6_word_30 ?_
        obtain ⟨h_4, hF⟩ := ix_at hF
        refine va_bald hx hb hK hP 15 1 rfl rfl h_4 dX6_word_33 ?_
        refine lv_bipush (v := 97) hx hb dX6_word_34 (by decide) ?_
        refine lv_icmp_lt (tgt := 100) hx hb dX6_word_36 (by decide) (fun c_5 => ?_) (fun c_5 => ?_)
        · have hF := ifp hF c_5
          exact bJ100 x1 S6 hF _ _ _ hP hD hS (lv_sub hl [0, 1] rfl)
        · have hF := ifn hF c_5
          refine lv_aload_n hx hb dX6_word_39 rfl (lv_at hl 0 rfl) ?_
          refine va_get (D := D) (ci := 6) (v := .ref (a6 17)) (C := RX6) (T := TX6) (N := 42) hx hb hts hiX6 hown hK hP 0 rfl rfl 16 (by decide) (hts (.fieldLink RX6 55 "PanoramaHouseModel" "text" "[B") (by decide +kernel)) (fun _ h9 => h9) rfl dX6_word_40 ?_
          refine lv_aload_n hx hb dX6_word_43 rfl (lv_at hl 0 rfl) ?_
          refine va_get (D := D) (ci := 6) (v := .int (S6 33)) (C := RX6) (T := TX6) (N := 42) hx hb hts hiX6 hown hK hP 0 rfl rfl 33 (by decide) (hts (.fieldLink RX6 177 "PanoramaHouseModel" "wordEnd" "I") (by decide +kernel)) (fun _ h9 => h9) rfl dX6_word_44 ?_
          obtain ⟨h_6, hF⟩ := ix_at hF
          refine va_bald hx hb hK hP 15 1 rfl rfl h_6 dX6_word_47 ?_
          refine lv_bipush (v := 122) hx hb dX6_word_48 (by decide) ?_
          refine lv_icmp_gt (tgt := 100) hx hb dX6_word_50 (by decide) (fun c_7 => ?_) (fun c_7 => ?_)
          · have hF := ifp hF c_7
            exact bJ100 x1 S6 hF _ _ _ hP hD hS (lv_sub hl [0, 1] rfl)
          · have hF := ifn hF c_7
            refine lv_aload_n hx hb dX6_word_53 rfl (lv_at hl 0 rfl) ?_
            refine va_get (D := D) (ci := 6) (v := .int (S6 33)) (C := RX6) (T := TX6) (N := 42) hx hb hts hiX6 hown hK hP 0 rfl rfl 33 (by decide) (hts (.fieldLink RX6 177 "PanoramaHouseModel" "wordEnd" "I") (by decide +kernel)) (fun _ h9 => h9) rfl dX6_word_54 ?_
            refine lv_aload_n hx hb dX6_word_57 rfl (lv_at hl 0 rfl) ?_
            refine va_get (D := D) (ci := 6) (v := .int (S6 19)) (C := RX6) (T := TX6) (N := 42) hx hb hts hiX6 hown hK hP 0 rfl rfl 19 (by decide) (hts (.fieldLink RX6 168 "PanoramaHouseModel" "at" "I") (by decide +kernel)) (fun _ h9 => h9) rfl dX6_word_58 ?_
            refine lv_isub hx hb dX6_word_61 ?_
            refine lv_bipush (v := 7) hx hb dX6_word_62 (by decide) ?_
            refine lv_icmp_ge (tgt := 85) hx hb dX6_word_64 (by decide) (fun c_8 => ?_) (fun c_8 => ?_)
            · have hF := ifp hF c_8
              refine lv_lconst (v := 0) hx hb dX6_word_85 (by decide) ?_
              exact bJ86 0 S6 hF _ _ _ hP hD hS (lv_sub hl [0] rfl)
            · have hF := ifn hF c_8
              refine lv_lload_n hx hb dX6_word_67 rfl (lv_at hl 1 rfl) ?_
              refine lv_bipush (v := 8) hx hb dX6_word_68 (by decide) ?_
              refine lv_lshl (v := (x1 <<< ((8 : Int32).toInt64 &&& 63))) hx hb dX6_word_70 rfl ?_
              refine lv_aload_n hx hb dX6_word_71 rfl (lv_at hl 0 rfl) ?_
              refine va_get (D := D) (ci := 6) (v := .ref (a6 17)) (C := RX6) (T := TX6) (N := 42) hx hb hts hiX6 hown hK hP 0 rfl rfl 16 (by decide) (hts (.fieldLink RX6 55 "PanoramaHouseModel" "text" "[B") (by decide +kernel)) (fun _ h9 => h9) rfl dX6_word_72 ?_
              refine lv_aload_n hx hb dX6_word_75 rfl (lv_at hl 0 rfl) ?_
              refine va_get (D := D) (ci := 6) (v := .int (S6 33)) (C := RX6) (T := TX6) (N := 42) hx hb hts hiX6 hown hK hP 0 rfl rfl 33 (by decide) (hts (.fieldLink RX6 177 "PanoramaHouseModel" "wordEnd" "I") (by decide +kernel)) (fun _ h9 => h9) rfl dX6_word_76 ?_
              obtain ⟨h_9, hF⟩ := ix_at hF
              refine va_bald hx hb hK hP 15 1 rfl rfl h_9 dX6_word_79 ?_
              refine lv_i2l (v := ((A6 16 (S6 33).toNatClampNeg)).toInt64) hx hb dX6_word_80 rfl ?_
              refine lv_lor hx hb dX6_word_81 ?_
              refine lv_goto (tgt := 86) hx hb dX6_word_82 (by decide) ?_
              exact bJ86 ((x1 <<< ((8 : Int32).toInt64 &&& 63)) ||| (((A6 16 (S6 33).toNatClampNeg)).toInt64)) S6 hF _ _ _ hP hD hS (lv_sub hl [0] rfl)
  refine lv_aload_n hx hb dX6_word_0 rfl (lv_at hl 0 rfl) ?_
  obtain ⟨z_10, fz_10, hF⟩ := bd_at hF
  refine callV_void ([]) ([]) (w' := wX6 C a6 z_10 A6 G6) (As := []) (rest := []) ⟨hx, hb, hml, hown, hts⟩ hK hA hZ (c_X6_blanks l K D C a6 S6 A6 G6 z_10 fz_10) (cwV 0 hts gX6_word_X6_blanks rfl rfl rfl (by decide +kernel) ⟨Nat.le_of_ble_eq_true rfl, Nat.le_of_ble_eq_true rfl⟩) 0 rfl rfl rfl rfl hl.1 rfl (Nat.le_of_ble_eq_true rfl) ⟨Nat.zero_le _, Nat.zero_le _⟩ (by simp only [List.append_assoc, List.append_nil, List.nil_append]) (by simp only [List.append_assoc, List.append_nil, List.nil_append]) hP hD hS dX6_word_1 (fun H locs hP hD hS => ?_)
  refine lv_aload_n hx hb dX6_word_4 rfl (lv_at hl 0 rfl) ?_
  refine lv_aload_n hx hb dX6_word_5 rfl (lv_at hl 0 rfl) ?_
  refine va_get (D := D) (ci := 6) (v := .int (z_10 19)) (C := RX6) (T := TX6) (N := 42) hx hb hts hiX6 hown hK hP 0 rfl rfl 19 (by decide) (hts (.fieldLink RX6 168 "PanoramaHouseModel" "at" "I") (by decide +kernel)) (fun _ h9 => h9) rfl dX6_word_6 ?_
  refine va_put (D := D) (ci := 6) (v := .int (z_10 19)) (ty := .int) (C := RX6) (T := TX6) (N := 42) hx hb hts hiX6 tyX6 tyX6_ok nmX6 hown hK hP hD hS 0 rfl rfl 33 (by decide) (hts (.fieldLink RX6 177 "PanoramaHouseModel" "wordEnd" "I") (by decide +kernel)) (fun _ h9 => h9) rfl (by decide +kernel) rfl rfl (Nat.le_of_ble_eq_true rfl) dX6_word_9 (fun H locs hP hD hS => ?_)
  obtain ⟨S6_11, eS6_11, hF⟩ := nm_ex hF
  have hP : va_P D vwCl (wX6 C a6 S6_11 A6 G6) H := by rw [eS6_11]; exact hP
  have hD : va_D A (wX6 C a6 S6_11 A6 G6) := by rw [eS6_11]; exact hD
  refine lv_lconst (v := 0) hx hb dX6_word_12 (by decide) ?_
  refine lv_lstore_n (lv' := [(1, .long 0), (0, .ref (a6 0))]) hx hb dX6_word_13 rfl hl (by decide) rfl (fun ls hl => ?_)
  exact bL14 FU 0 S6_11 hF _ _ _ hP hD hS (lv_sub hl [1, 0] rfl)
abbrev rmX6_takes : Room := { frames := 3, cells := 0, slots := 0, locals := 74 }
set_option maxRecDepth 100000 in
set_option maxHeartbeats 4000000 in
theorem c_X6_takes (l : Launch) (K : Kx) (D : va_G) (C : Nat → ClassId) (a6 : Nat → Nat) (S6 : Nat → Int32) (A6 : Nat → Nat → Int32) (G6 : Nat → Nat → Int64) (p1 : Int64) (z : Int32 × (Nat → Int32)) (hF : F_X6_takes S6 A6 p1 = some z) : MetI l yX6_takes wsX6_takes rmX6_takes K D (tyV C) (wX6 C a6 S6 A6 G6) [.ref (a6 0), .long p1] (wX6 C a6 z.2 A6 G6) z.1 := by
  refine met_int (cc := cX6_takes) (maxL := 3) (ty := .boolean) (by decide +kernel) rfl (Nat.le_of_ble_eq_true rfl) ?_
  intro p e s m below meth c A Q ls ⟨hx, hb, hml, hown, hts, hK, hA, hZ⟩ hP hD hS hl hret
  have hown : s.vm.findClass RX6 = some m.cls := hown
  have hiX6 : ∀ w ∈ u_ws RX6 TX6 42, w ∈ wsX6_takes := by decide +kernel
  have hl : lv_has ls 3 [(0, .ref (a6 0)), (1, .long p1)] := hl
  unfold F_X6_takes at hF
  refine lv_aload_n hx hb dX6_takes_0 rfl (lv_at hl 0 rfl) ?_
  obtain ⟨z_1, fz_1, hF⟩ := bd_at hF
  refine callV_long ([]) ([]) (w' := wX6 C a6 z_1.2 A6 G6) (As := []) (rest := []) ⟨hx, hb, hml, hown, hts⟩ hK hA hZ (c_X6_word l K D C a6 S6 A6 G6 z_1 fz_1) (cwV 0 hts gX6_takes_X6_word rfl rfl rfl (by decide +kernel) ⟨Nat.le_of_ble_eq_true rfl, Nat.le_of_ble_eq_true rfl⟩) 0 rfl rfl rfl rfl hl.1 rfl (Nat.le_of_ble_eq_true rfl) ⟨Nat.zero_le _, Nat.zero_le _⟩ (by simp only [List.append_assoc, List.append_nil, List.nil_append]) (by simp only [List.append_assoc, List.append_nil, List.nil_append]) hP hD hS dX6_takes_1 (fun H locs hP hD hS => ?_)
  refine lv_lload_n hx hb dX6_takes_4 rfl (lv_at hl 1 rfl) ?_
  refine W.lcmp hx hb dX6_takes_5 ?_
  refine lv_if_eq (tgt := 11) hx hb dX6_takes_6 (by decide) (fun c_2 => ?_) (fun c_2 => ?_)
  · have hF := ifp hF c_2
    refine lv_aload_n hx hb dX6_takes_11 rfl (lv_at hl 0 rfl) ?_
    refine lv_aload_n hx hb dX6_takes_12 rfl (lv_at hl 0 rfl) ?_
    refine va_get (D := D) (ci := 6) (v := .int (z_1.2 33)) (C := RX6) (T := TX6) (N := 42) hx hb hts hiX6 hown hK hP 0 rfl rfl 33 (by decide) (hts (.fieldLink RX6 177 "PanoramaHouseModel" "wordEnd" "I") (by decide +kernel)) (fun _ h9 => h9) rfl dX6_takes_13 ?_
    refine va_put (D := D) (ci := 6) (v := .int (z_1.2 33)) (ty := .int) (C := RX6) (T := TX6) (N := 42) hx hb hts hiX6 tyX6 tyX6_ok nmX6 hown hK hP hD hS 0 rfl rfl 19 (by decide) (hts (.fieldLink RX6 168 "PanoramaHouseModel" "at" "I") (by decide +kernel)) (fun _ h9 => h9) rfl (by decide +kernel) rfl rfl (Nat.le_of_ble_eq_true rfl) dX6_takes_16 (fun H locs hP hD hS => ?_)
    obtain ⟨S6_3, eS6_3, hF⟩ := nm_ex hF
    have hP : va_P D vwCl (wX6 C a6 S6_3 A6 G6) H := by rw [eS6_3]; exact hP
    have hD : va_D A (wX6 C a6 S6_3 A6 G6) := by rw [eS6_3]; exact hD
    refine lv_iconst (v := 1) hx hb dX6_takes_19 (by decide) ?_
    cases hF
    exact hret _ _ _ _ dX6_takes_20 nb1 hP hD hS
  · have hF := ifn hF c_2
    refine lv_iconst (v := 0) hx hb dX6_takes_9 (by decide) ?_
    cases hF
    exact hret _ _ _ _ dX6_takes_10 nb0 hP hD hS
abbrev rmX6_takesNumber : Room := { frames := 2, cells := 0, slots := 0, locals := 52 }
set_option maxRecDepth 100000 in
set_option maxHeartbeats 4000000 in
theorem c_X6_takesNumber (l : Launch) (K : Kx) (D : va_G) (C : Nat → ClassId) (a6 : Nat → Nat) (S6 : Nat → Int32) (A6 : Nat → Nat → Int32) (G6 : Nat → Nat → Int64) (p1 : Int32) (z : Int32 × (Nat → Int32)) (hF : F_X6_takesNumber S6 A6 p1 = some z) : MetI l yX6_takesNumber wsX6_takesNumber rmX6_takesNumber K D (tyV C) (wX6 C a6 S6 A6 G6) [.ref (a6 0), .int p1] (wX6 C a6 z.2 A6 G6) z.1 := by
  refine met_int (cc := cX6_takesNumber) (maxL := 3) (ty := .boolean) (by decide +kernel) rfl (Nat.le_of_ble_eq_true rfl) ?_
  intro p e s m below meth c A Q ls ⟨hx, hb, hml, hown, hts, hK, hA, hZ⟩ hP hD hS hl hret
  have hown : s.vm.findClass RX6 = some m.cls := hown
  have hiX6 : ∀ w ∈ u_ws RX6 TX6 42, w ∈ wsX6_takesNumber := by decide +kernel
  have hl : lv_has ls 3 [(0, .ref (a6 0)), (1, .int p1)] := hl
  unfold F_X6_takesNumber at hF
  obtain ⟨J81, eJ81, hF⟩ := nm_ex hF
  have bJ81 : ∀ (x1 : Int32) (x2 : Int32) (S6 : Nat → Int32), J81 x1 x2 S6 = some z → ∀ (H : Heap) (locs : List Loc) (ls : Array Slot), va_P D vwCl (wX6 C a6 S6 A6 G6) H → va_D A (wX6 C a6 S6 A6 G6) → va_S A s.heap H locs → lv_has ls 3 [(0, .ref (a6 0)), (1, .int x1), (2, .int x2)] → W p l e rmX6_takesNumber s m ([.ref (a6 0), .int p1] : List Value).toArray below meth c H locs 0 0 Q (F0 m 81 ls []) := by
    intro x1 x2 S6 hF H locs ls hP hD hS hl
    rw [eJ81] at hF
    refine lv_iload_n hx hb dX6_takesNumber_81 rfl (lv_at hl 2 rfl) ?_
    refine lv_aload_n hx hb dX6_takesNumber_82 rfl (lv_at hl 0 rfl) ?_
    refine va_get (D := D) (ci := 6) (v := .int (S6 19)) (C := RX6) (T := TX6) (N := 42) hx hb hts hiX6 hown hK hP 0 rfl rfl 19 (by decide) (hts (.fieldLink RX6 168 "PanoramaHouseModel" "at" "I") (by decide +kernel)) (fun _ h9 => h9) rfl dX6_takesNumber_83 ?_
    refine lv_icmp_eq (tgt := 107) hx hb dX6_takesNumber_86 (by decide) (fun c_1 => ?_) (fun c_1 => ?_)
    · have hF := ifp hF c_1
      refine lv_iconst (v := 0) hx hb dX6_takesNumber_107 (by decide) ?_
      cases hF
      exact hret _ _ _ _ dX6_takesNumber_108 nb0 hP hD hS
    · have hF := ifn hF c_1
      refine lv_iload_n hx hb dX6_takesNumber_89 rfl (lv_at hl 2 rfl) ?_
      refine lv_aload_n hx hb dX6_takesNumber_90 rfl (lv_at hl 0 rfl) ?_
      refine va_get (D := D) (ci := 6) (v := .int (S6 19)) (C := RX6) (T := TX6) (N := 42) hx hb hts hiX6 hown hK hP 0 rfl rfl 19 (by decide) (hts (.fieldLink RX6 168 "PanoramaHouseModel" "at" "I") (by decide +kernel)) (fun _ h9 => h9) rfl dX6_takesNumber_91 ?_
      refine lv_isub hx hb dX6_takesNumber_94 ?_
      refine lv_iconst (v := 5) hx hb dX6_takesNumber_95 (by decide) ?_
      refine lv_icmp_gt (tgt := 107) hx hb dX6_takesNumber_96 (by decide) (fun c_2 => ?_) (fun c_2 => ?_)
      · have hF := ifp hF c_2
        refine lv_iconst (v := 0) hx hb dX6_takesNumber_107 (by decide) ?_
        cases hF
        exact hret _ _ _ _ dX6_takesNumber_108 nb0 hP hD hS
      · have hF := ifn hF c_2
        refine lv_aload_n hx hb dX6_takesNumber_99 rfl (lv_at hl 0 rfl) ?_
        refine va_get (D := D) (ci := 6) (v := .int (S6 34)) (C := RX6) (T := TX6) (N := 42) hx hb hts hiX6 hown hK hP 0 rfl rfl 34 (by decide) (hts (.fieldLink RX6 184 "PanoramaHouseModel" "number" "I") (by decide +kernel)) (fun _ h9 => h9) rfl dX6_takesNumber_100 ?_
        refine lv_iload_n hx hb dX6_takesNumber_103 rfl (lv_at hl 1 rfl) ?_
        refine lv_icmp_le (tgt := 109) hx hb dX6_takesNumber_104 (by decide) (fun c_3 => ?_) (fun c_3 => ?_)
        · have hF := ifp hF c_3
          refine lv_aload_n hx hb dX6_takesNumber_109 rfl (lv_at hl 0 rfl) ?_
          refine lv_iload_n hx hb dX6_takesNumber_110 rfl (lv_at hl 2 rfl) ?_
          refine va_put (D := D) (ci := 6) (v := .int x2) (ty := .int) (C := RX6) (T := TX6) (N := 42) hx hb hts hiX6 tyX6 tyX6_ok nmX6 hown hK hP hD hS 0 rfl rfl 19 (by decide) (hts (.fieldLink RX6 168 "PanoramaHouseModel" "at" "I") (by decide +kernel)) (fun _ h9 => h9) rfl (by decide +kernel) rfl rfl (Nat.le_of_ble_eq_true rfl) dX6_takesNumber_111 (fun H locs hP hD hS => ?_)
          obtain ⟨S6_4, eS6_4, hF⟩ := nm_ex hF
          have hP : va_P D vwCl (wX6 C a6 S6_4 A6 G6) H := by rw [eS6_4]; exact hP
          have hD : va_D A (wX6 C a6 S6_4 A6 G6) := by rw [eS6_4]; exact hD
          refine lv_iconst (v := 1) hx hb dX6_takesNumber_114 (by decide) ?_
          cases hF
          exact hret _ _ _ _ dX6_takesNumber_115 nb1 hP hD hS
        · have hF := ifn hF c_3
          refine lv_iconst (v := 0) hx hb dX6_takesNumber_107 (by decide) ?_
          cases hF
          exact hret _ _ _ _ dX6_takesNumber_108 nb0 hP hD hS
  have bL14 : ∀ (n : Nat) (x1 : Int32) (x2 : Int32) (S6 : Nat → Int32), L_X6_takesNumber_14 A6 J81 n x1 x2 S6 = some z → ∀ (H : Heap) (locs : List Loc) (ls : Array Slot), va_P D vwCl (wX6 C a6 S6 A6 G6) H → va_D A (wX6 C a6 S6 A6 G6) → va_S A s.heap H locs → lv_has ls 3 [(0, .ref (a6 0)), (1, .int x1), (2, .int x2)] → W p l e rmX6_takesNumber s m ([.ref (a6 0), .int p1] : List Value).toArray below meth c H locs 0 0 Q (F0 m 14 ls []) := by
    intro n
    induction n with
    | zero => intro x1 x2 S6 hF; rw [L_X6_takesNumber_14.eq_1] at hF; cases hF
    | succ n ih14 =>
      intro x1 x2 S6 hF H locs ls hP hD hS hl
      rw [L_X6_takesNumber_14.eq_2] at hF
      obtain ⟨J75, eJ75, hF⟩ := nm_ex hF
      have bJ75 : ∀ (x1 : Int32) (x2 : Int32) (S6 : Nat → Int32), J75 x1 x2 S6 = some z → ∀ (H : Heap) (locs : List Loc) (ls : Array Slot), va_P D vwCl (wX6 C a6 S6 A6 G6) H → va_D A (wX6 C a6 S6 A6 G6) → va_S A s.heap H locs → lv_has ls 3 [(0, .ref (a6 0)), (1, .int x1), (2, .int x2)] → W p l e rmX6_takesNumber s m ([.ref (a6 0), .int p1] : List Value).toArray below meth c H locs 0 0 Q (F0 m 75 ls []) := by
        intro x1 x2 S6 hF H locs ls hP hD hS hl
        rw [eJ75] at hF
        obtain ⟨v_5, ev_5⟩ : ∃ y : Int32, y = x2 + 1 := ⟨_, rfl⟩
        have hF := nm_at hF ev_5
        refine lv_iinc (v := v_5) (lv' := [(2, .int v_5), (0, .ref (a6 0)), (1, .int x1)]) hx hb dX6_takesNumber_75 hl (k := 2) rfl (by rw [ev_5]; rfl) (by decide) rfl (fun ls hl => ?_)
        refine lv_goto (tgt := 14) hx hb dX6_takesNumber_78 (by decide) ?_
        exact ih14 x1 v_5 S6 hF _ _ _ hP hD hS (lv_sub hl [1, 2, 0] rfl)
      refine lv_iload_n hx hb dX6_takesNumber_14 rfl (lv_at hl 2 rfl) ?_
      refine lv_aload_n hx hb dX6_takesNumber_15 rfl (lv_at hl 0 rfl) ?_
      refine va_get (D := D) (ci := 6) (v := .int (S6 18)) (C := RX6) (T := TX6) (N := 42) hx hb hts hiX6 hown hK hP 0 rfl rfl 18 (by decide) (hts (.fieldLink RX6 171 "PanoramaHouseModel" "size" "I") (by decide +kernel)) (fun _ h9 => h9) rfl dX6_takesNumber_16 ?_
      refine lv_icmp_ge (tgt := 81) hx hb dX6_takesNumber_19 (by decide) (fun c_6 => ?_) (fun c_6 => ?_)
      · have hF := ifp hF c_6
        exact bJ81 x1 x2 S6 hF _ _ _ hP hD hS (lv_sub hl [0, 1, 2] rfl)
      · have hF := ifn hF c_6
        refine lv_aload_n hx hb dX6_takesNumber_22 rfl (lv_at hl 0 rfl) ?_
        refine va_get (D := D) (ci := 6) (v := .ref (a6 17)) (C := RX6) (T := TX6) (N := 42) hx hb hts hiX6 hown hK hP 0 rfl rfl 16 (by decide) (hts (.fieldLink RX6 55 "PanoramaHouseModel" "text" "[B") (by decide +kernel)) (fun _ h9 => h9) rfl dX6_takesNumber_23 ?_
        refine lv_iload_n hx hb dX6_takesNumber_26 rfl (lv_at hl 2 rfl) ?_
        obtain ⟨h_7, hF⟩ := ix_at hF
        refine va_bald hx hb hK hP 15 1 rfl rfl h_7 dX6_takesNumber_27 ?_
        refine lv_bipush (v := 48) hx hb dX6_takesNumber_28 (by decide) ?_
        refine lv_icmp_lt (tgt := 81) hx hb dX6_takesNumber_30 (by decide) (fun c_8 => ?_) (fun c_8 => ?_)
        · have hF := ifp hF c_8
          exact bJ81 x1 x2 S6 hF _ _ _ hP hD hS (lv_sub hl [0, 1, 2] rfl)
        · have hF := ifn hF c_8
          refine lv_aload_n hx hb dX6_takesNumber_33 rfl (lv_at hl 0 rfl) ?_
          refine va_get (D := D) (ci := 6) (v := .ref (a6 17)) (C := RX6) (T := TX6) (N := 42) hx hb hts hiX6 hown hK hP 0 rfl rfl 16 (by decide) (hts (.fieldLink RX6 55 "PanoramaHouseModel" "text" "[B") (by decide +kernel)) (fun _ h9 => h9) rfl dX6_takesNumber_34 ?_
          refine lv_iload_n hx hb dX6_takesNumber_37 rfl (lv_at hl 2 rfl) ?_
          obtain ⟨h_9, hF⟩ := ix_at hF
          refine va_bald hx hb hK hP 15 1 rfl rfl h_9 dX6_takesNumber_38 ?_
          refine lv_bipush (v := 57) hx hb dX6_takesNumber_39 (by decide) ?_
          refine lv_icmp_gt (tgt := 81) hx hb dX6_takesNumber_41 (by decide) (fun c_10 => ?_) (fun c_10 => ?_)
          · have hF := ifp hF c_10
            exact bJ81 x1 x2 S6 hF _ _ _ hP hD hS (lv_sub hl [0, 1, 2] rfl)
          · have hF := ifn hF c_10
            refine lv_iload_n hx hb dX6_takesNumber_44 rfl (lv_at hl 2 rfl) ?_
            refine lv_aload_n hx hb dX6_takesNumber_45 rfl (lv_at hl 0 rfl) ?_
            refine va_get (D := D) (ci := 6) (v := .int (S6 19)) (C := RX6) (T := TX6) (N := 42) hx hb hts hiX6 hown hK hP 0 rfl rfl 19 (by decide) (hts (.fieldLink RX6 168 "PanoramaHouseModel" "at" "I") (by decide +kernel)) (fun _ h9 => h9) rfl dX6_takesNumber_46 ?_
            refine lv_isub hx hb dX6_takesNumber_49 ?_
            refine lv_iconst (v := 5) hx hb dX6_takesNumber_50 (by decide) ?_
            refine lv_icmp_ge (tgt := 75) hx hb dX6_takesNumber_51 (by decide) (fun c_11 => ?_) (fun c_11 => ?_)
            · have hF := ifp hF c_11
              exact bJ75 x1 x2 S6 hF _ _ _ hP hD hS (lv_sub hl [0, 1, 2] rfl)
            · have hF := ifn hF c_11
              refine lv_aload_n hx hb dX6_takesNumber_54 rfl (lv_at hl 0 rfl) ?_
              refine lv_bipush (v := 10) hx hb dX6_takesNumber_55 (by decide) ?_
              refine lv_aload_n hx hb dX6_takesNumber_57 rfl (lv_at hl 0 rfl) ?_
              refine va_get (D := D) (ci := 6) (v := .int (S6 34)) (C := RX6) (T := TX6) (N := 42) hx hb hts hiX6 hown hK hP 0 rfl rfl 34 (by decide) (hts (.fieldLink RX6 184 "PanoramaHouseModel" "number" "I") (by decide +kernel)) (fun _ h9 => h9) rfl dX6_takesNumber_58 ?_
              refine lv_imul hx hb dX6_takesNumber_61 ?_
              refine lv_aload_n hx hb dX6_takesNumber_62 rfl (lv_at hl 0 rfl) ?_
              refine va_get (D := D) (ci := 6) (v := .ref (a6 17)) (C := RX6) (T := TX6) (N := 42) hx hb hts hiX6 hown hK hP 0 rfl rfl 16 (by decide) (hts (.fieldLink RX6 55 "PanoramaHouseModel" "text" "[B") (by decide +kernel)) (fun _ h9 => h9) rfl dX6_takesNumber_63 ?_
              refine lv_iload_n hx hb dX6_takesNumber_66 rfl (lv_at hl 2 rfl) ?_
              obtain ⟨h_12, hF⟩ := ix_at hF
              refine va_bald hx hb hK hP 15 1 rfl rfl h_12 dX6_takesNumber_67 ?_
              refine lv_iadd hx hb dX6_takesNumber_68 ?_
              refine lv_bipush (v := 48) hx hb dX6_takesNumber_69 (by decide) ?_
              refine lv_isub hx hb dX6_takesNumber_71 ?_
              refine va_put (D := D) (ci := 6) (v := .int (((10 * (S6 34)) + (A6 16 (x2).toNatClampNeg)) - 48)) (ty := .int) (C := RX6) (T := TX6) (N := 42) hx hb hts hiX6 tyX6 tyX6_ok nmX6 hown hK hP hD hS 0 rfl rfl 34 (by decide) (hts (.fieldLink RX6 184 "PanoramaHouseModel" "number" "I") (by decide +kernel)) (fun _ h9 => h9) rfl (by decide +kernel) rfl rfl (Nat.le_of_ble_eq_true rfl) dX6_takesNumber_72 (fun H locs hP hD hS => ?_)
              obtain ⟨S6_13, eS6_13, hF⟩ := nm_ex hF
              have hP : va_P D vwCl (wX6 C a6 S6_13 A6 G6) H := by rw [eS6_13]; exact hP
              have hD : va_D A (wX6 C a6 S6_13 A6 G6) := by rw [eS6_13]; exact hD
              exact bJ75 x1 x2 S6_13 hF _ _ _ hP hD hS (lv_sub hl [0, 1, 2] rfl)
  refine lv_aload_n hx hb dX6_takesNumber_0 rfl (lv_at hl 0 rfl) ?_
  obtain ⟨z_14, fz_14, hF⟩ := bd_at hF
  refine callV_void ([]) ([]) (w' := wX6 C a6 z_14 A6 G6) (As := []) (rest := []) ⟨hx, hb, hml, hown, hts⟩ hK hA hZ (c_X6_blanks l K D C a6 S6 A6 G6 z_14 fz_14) (cwV 0 hts gX6_takesNumber_X6_blanks rfl rfl rfl (by decide +kernel) ⟨Nat.le_of_ble_eq_true rfl, Nat.le_of_ble_eq_true rfl⟩) 0 rfl rfl rfl rfl hl.1 rfl (Nat.le_of_ble_eq_true rfl) ⟨Nat.zero_le _, Nat.zero_le _⟩ (by simp only [List.append_assoc, List.append_nil, List.nil_append]) (by simp only [List.append_assoc, List.append_nil, List.nil_append]) hP hD hS dX6_takesNumber_1 (fun H locs hP hD hS => ?_)
  refine lv_aload_n hx hb dX6_takesNumber_4 rfl (lv_at hl 0 rfl) ?_
  refine va_get (D := D) (ci := 6) (v := .int (z_14 19)) (C := RX6) (T := TX6) (N := 42) hx hb hts hiX6 hown hK hP 0 rfl rfl 19 (by decide) (hts (.fieldLink RX6 168 "PanoramaHouseModel" "at" "I") (by decide +kernel)) (fun _ h9 => h9) rfl dX6_takesNumber_5 ?_
  refine lv_topi (fun v_15 ev_15 => ?_)
  have hF := nm_at hF ev_15
  refine lv_istore_n (lv' := [(2, .int v_15), (0, .ref (a6 0)), (1, .int p1)]) hx hb dX6_takesNumber_8 rfl hl (by decide) rfl (fun ls hl => ?_)
  refine lv_aload_n hx hb dX6_takesNumber_9 rfl (lv_at hl 1 rfl) ?_
  refine lv_iconst (v := 0) hx hb dX6_takesNumber_10 (by decide) ?_
  refine va_put (D := D) (ci := 6) (v := .int 0) (ty := .int) (C := RX6) (T := TX6) (N := 42) hx hb hts hiX6 tyX6 tyX6_ok nmX6 hown hK hP hD hS 0 rfl rfl 34 (by decide) (hts (.fieldLink RX6 184 "PanoramaHouseModel" "number" "I") (by decide +kernel)) (fun _ h9 => h9) rfl (by decide +kernel) rfl rfl (Nat.le_of_ble_eq_true rfl) dX6_takesNumber_11 (fun H locs hP hD hS => ?_)
  obtain ⟨S6_16, eS6_16, hF⟩ := nm_ex hF
  have hP : va_P D vwCl (wX6 C a6 S6_16 A6 G6) H := by rw [eS6_16]; exact hP
  have hD : va_D A (wX6 C a6 S6_16 A6 G6) := by rw [eS6_16]; exact hD
  exact bL14 FU p1 v_15 S6_16 hF _ _ _ hP hD hS (lv_sub hl [1, 2, 0] rfl)
abbrev rmX6_test : Room := { frames := 3, cells := 0, slots := 0, locals := 74 }
set_option maxRecDepth 100000 in
set_option maxHeartbeats 4000000 in
theorem c_X6_test (l : Launch) (K : Kx) (D : va_G) (C : Nat → ClassId) (a6 : Nat → Nat) (S6 : Nat → Int32) (A6 : Nat → Nat → Int32) (G6 : Nat → Nat → Int64) (p1 : Int32) (z : Int32 × (Nat → Int32) × (Nat → Nat → Int32)) (hF : F_X6_test S6 A6 p1 = some z) : MetI l yX6_test wsX6_test rmX6_test K D (tyV C) (wX6 C a6 S6 A6 G6) [.ref (a6 0), .int p1] (wX6 C a6 z.2.1 z.2.2 G6) z.1 := by
  refine met_int (cc := cX6_test) (maxL := 4) (ty := .boolean) (by decide +kernel) rfl (Nat.le_of_ble_eq_true rfl) ?_
  intro p e s m below meth c A Q ls ⟨hx, hb, hml, hown, hts, hK, hA, hZ⟩ hP hD hS hl hret
  have hown : s.vm.findClass RX6 = some m.cls := hown
  have hiX6 : ∀ w ∈ u_ws RX6 TX6 42, w ∈ wsX6_test := by decide +kernel
  have hl : lv_has ls 4 [(0, .ref (a6 0)), (1, .int p1)] := hl
  unfold F_X6_test at hF
  obtain ⟨J127, eJ127, hF⟩ := nm_ex hF
  have bJ127 : ∀ (x1 : Int32) (S6 : Nat → Int32) (A6 : Nat → Nat → Int32), J127 x1 S6 A6 = some z → ∀ (H : Heap) (locs : List Loc) (ls : Array Slot), va_P D vwCl (wX6 C a6 S6 A6 G6) H → va_D A (wX6 C a6 S6 A6 G6) → va_S A s.heap H locs → lv_has ls 4 [(0, .ref (a6 0)), (1, .int x1)] → W p l e rmX6_test s m ([.ref (a6 0), .int p1] : List Value).toArray below meth c H locs 0 0 Q (F0 m 127 ls []) := by
    intro x1 S6 A6 hF H locs ls hP hD hS hl
    rw [eJ127] at hF
    refine lv_aload_n hx hb dX6_test_127 rfl (lv_at hl 0 rfl) ?_
    refine va_get (D := D) (ci := 6) (v := .ref (a6 28)) (C := RX6) (T := TX6) (N := 42) hx hb hts hiX6 hown hK hP 0 rfl rfl 27 (by decide) (hts (.fieldLink RX6 77 "PanoramaHouseModel" "testSign" "[I") (by decide +kernel)) (fun _ h9 => h9) rfl dX6_test_128 ?_
    refine lv_iload_n hx hb dX6_test_131 rfl (lv_at hl 1 rfl) ?_
    refine lv_aload_n hx hb dX6_test_132 rfl (lv_at hl 0 rfl) ?_
    refine va_get (D := D) (ci := 6) (v := .ref (a6 17)) (C := RX6) (T := TX6) (N := 42) hx hb hts hiX6 hown hK hP 0 rfl rfl 16 (by decide) (hts (.fieldLink RX6 55 "PanoramaHouseModel" "text" "[B") (by decide +kernel)) (fun _ h9 => h9) rfl dX6_test_133 ?_
    refine lv_aload_n hx hb dX6_test_136 rfl (lv_at hl 0 rfl) ?_
    refine va_get (D := D) (ci := 6) (v := .int (S6 19)) (C := RX6) (T := TX6) (N := 42) hx hb hts hiX6 hown hK hP 0 rfl rfl 19 (by decide) (hts (.fieldLink RX6 168 "PanoramaHouseModel" "at" "I") (by decide +kernel)) (fun _ h9 => h9) rfl dX6_test_137 ?_
    obtain ⟨h_1, hF⟩ := ix_at hF
    refine va_bald hx hb hK hP 15 1 rfl rfl h_1 dX6_test_140 ?_
    obtain ⟨h_2, hF⟩ := ix_at hF
    refine va_iast hx hb hK hP hD hS 21 0 rfl rfl h_2 dX6_test_141 (fun H locs hP hD hS => ?_)
    obtain ⟨A6_3, eA6_3, hF⟩ := nm_ex hF
    have hP : va_P D vwCl (wX6 C a6 S6 A6_3 G6) H := by rw [eA6_3]; exact hP
    have hD : va_D A (wX6 C a6 S6 A6_3 G6) := by rw [eA6_3]; exact hD
    refine lv_aload_n hx hb dX6_test_142 rfl (lv_at hl 0 rfl) ?_
    refine lv_dup hx hb dX6_test_143 rfl ?_
    refine va_get (D := D) (ci := 6) (v := .int (S6 19)) (C := RX6) (T := TX6) (N := 42) hx hb hts hiX6 hown hK hP 0 rfl rfl 19 (by decide) (hts (.fieldLink RX6 168 "PanoramaHouseModel" "at" "I") (by decide +kernel)) (fun _ h9 => h9) rfl dX6_test_144 ?_
    refine lv_iconst (v := 1) hx hb dX6_test_147 (by decide) ?_
    refine lv_iadd hx hb dX6_test_148 ?_
    refine va_put (D := D) (ci := 6) (v := .int ((S6 19) + 1)) (ty := .int) (C := RX6) (T := TX6) (N := 42) hx hb hts hiX6 tyX6 tyX6_ok nmX6 hown hK hP hD hS 0 rfl rfl 19 (by decide) (hts (.fieldLink RX6 168 "PanoramaHouseModel" "at" "I") (by decide +kernel)) (fun _ h9 => h9) rfl (by decide +kernel) rfl rfl (Nat.le_of_ble_eq_true rfl) dX6_test_149 (fun H locs hP hD hS => ?_)
    obtain ⟨S6_4, eS6_4, hF⟩ := nm_ex hF
    have hP : va_P D vwCl (wX6 C a6 S6_4 A6_3 G6) H := by rw [eS6_4]; exact hP
    have hD : va_D A (wX6 C a6 S6_4 A6_3 G6) := by rw [eS6_4]; exact hD
    refine lv_aload_n hx hb dX6_test_152 rfl (lv_at hl 0 rfl) ?_
    refine lv_ldc (v := 99999) hx hb hown (hts (.constant RX6 193 99999) (by decide +kernel)) dX6_test_153 ?_
    obtain ⟨z_5, fz_5, hF⟩ := bd_at hF
    refine callV_int ([]) ([]) (w' := wX6 C a6 z_5.2 A6_3 G6) (As := [.int 99999]) (rest := []) ⟨hx, hb, hml, hown, hts⟩ hK hA hZ (c_X6_takesNumber l K D C a6 S6_4 A6_3 G6 99999 z_5 fz_5) (cwV 1 hts gX6_test_X6_takesNumber rfl rfl rfl (by decide +kernel) ⟨Nat.le_of_ble_eq_true rfl, Nat.le_of_ble_eq_true rfl⟩) 0 rfl rfl rfl rfl hl.1 rfl (Nat.le_of_ble_eq_true rfl) ⟨Nat.zero_le _, Nat.zero_le _⟩ (by simp only [List.append_assoc, List.append_nil, List.nil_append]) (by simp only [List.append_assoc, List.append_nil, List.nil_append]) hP hD hS dX6_test_155 (fun H locs hP hD hS => ?_)
    refine lv_if_ne (tgt := 163) hx hb dX6_test_158 (by decide) (fun c_6 => ?_) (fun c_6 => ?_)
    · have hF := ifn hF c_6
      refine lv_aload_n hx hb dX6_test_163 rfl (lv_at hl 0 rfl) ?_
      refine va_get (D := D) (ci := 6) (v := .ref (a6 29)) (C := RX6) (T := TX6) (N := 42) hx hb hts hiX6 hown hK hP 0 rfl rfl 28 (by decide) (hts (.fieldLink RX6 80 "PanoramaHouseModel" "testNumber" "[I") (by decide +kernel)) (fun _ h9 => h9) rfl dX6_test_164 ?_
      refine lv_iload_n hx hb dX6_test_167 rfl (lv_at hl 1 rfl) ?_
      refine lv_aload_n hx hb dX6_test_168 rfl (lv_at hl 0 rfl) ?_
      refine va_get (D := D) (ci := 6) (v := .int (z_5.2 34)) (C := RX6) (T := TX6) (N := 42) hx hb hts hiX6 hown hK hP 0 rfl rfl 34 (by decide) (hts (.fieldLink RX6 184 "PanoramaHouseModel" "number" "I") (by decide +kernel)) (fun _ h9 => h9) rfl dX6_test_169 ?_
      obtain ⟨h_7, hF⟩ := ix_at hF
      refine va_iast hx hb hK hP hD hS 22 0 rfl rfl h_7 dX6_test_172 (fun H locs hP hD hS => ?_)
      obtain ⟨A6_8, eA6_8, hF⟩ := nm_ex hF
      have hP : va_P D vwCl (wX6 C a6 z_5.2 A6_8 G6) H := by rw [eA6_8]; exact hP
      have hD : va_D A (wX6 C a6 z_5.2 A6_8 G6) := by rw [eA6_8]; exact hD
      refine lv_iconst (v := 1) hx hb dX6_test_173 (by decide) ?_
      cases hF
      exact hret _ _ _ _ dX6_test_174 nb1 hP hD hS
    · have hF := ifp hF c_6
      refine lv_iconst (v := 0) hx hb dX6_test_161 (by decide) ?_
      cases hF
      exact hret _ _ _ _ dX6_test_162 nb0 hP hD hS
  obtain ⟨J47, eJ47, hF⟩ := nm_ex hF
  have bJ47 : ∀ (x1 : Int32) (y0 : Int32) (y1 : Int32) (S6 : Nat → Int32) (A6 : Nat → Nat → Int32), J47 x1 y0 y1 S6 A6 = some z → ∀ (H : Heap) (locs : List Loc) (ls : Array Slot), va_P D vwCl (wX6 C a6 S6 A6 G6) H → va_D A (wX6 C a6 S6 A6 G6) → va_S A s.heap H locs → lv_has ls 4 [(0, .ref (a6 0)), (1, .int x1)] → W p l e rmX6_test s m ([.ref (a6 0), .int p1] : List Value).toArray below meth c H locs 0 0 Q (F0 m 47 ls [.int y0, .int y1, .ref (a6 27)]) := by
    intro x1 y0 y1 S6 A6 hF H locs ls hP hD hS hl
    rw [eJ47] at hF
    obtain ⟨h_9, hF⟩ := ix_at hF
    refine va_iast hx hb hK hP hD hS 20 0 rfl rfl h_9 dX6_test_47 (fun H locs hP hD hS => ?_)
    obtain ⟨A6_10, eA6_10, hF⟩ := nm_ex hF
    have hP : va_P D vwCl (wX6 C a6 S6 A6_10 G6) H := by rw [eA6_10]; exact hP
    have hD : va_D A (wX6 C a6 S6 A6_10 G6) := by rw [eA6_10]; exact hD
    refine lv_aload_n hx hb dX6_test_48 rfl (lv_at hl 0 rfl) ?_
    refine va_get (D := D) (ci := 6) (v := .ref (a6 27)) (C := RX6) (T := TX6) (N := 42) hx hb hts hiX6 hown hK hP 0 rfl rfl 26 (by decide) (hts (.fieldLink RX6 74 "PanoramaHouseModel" "testName" "[I") (by decide +kernel)) (fun _ h9 => h9) rfl dX6_test_49 ?_
    refine lv_iload_n hx hb dX6_test_52 rfl (lv_at hl 1 rfl) ?_
    obtain ⟨h_11, hF⟩ := ix_at hF
    refine va_iald hx hb hK hP 20 0 rfl rfl h_11 dX6_test_53 ?_
    refine lv_iconst (v := -1) hx hb dX6_test_54 (by decide) ?_
    refine lv_icmp_ne (tgt := 60) hx hb dX6_test_55 (by decide) (fun c_12 => ?_) (fun c_12 => ?_)
    · have hF := ifn hF c_12
      refine lv_aload_n hx hb dX6_test_60 rfl (lv_at hl 0 rfl) ?_
      refine lv_aload_n hx hb dX6_test_61 rfl (lv_at hl 0 rfl) ?_
      refine va_get (D := D) (ci := 6) (v := .int (S6 33)) (C := RX6) (T := TX6) (N := 42) hx hb hts hiX6 hown hK hP 0 rfl rfl 33 (by decide) (hts (.fieldLink RX6 177 "PanoramaHouseModel" "wordEnd" "I") (by decide +kernel)) (fun _ h9 => h9) rfl dX6_test_62 ?_
      refine va_put (D := D) (ci := 6) (v := .int (S6 33)) (ty := .int) (C := RX6) (T := TX6) (N := 42) hx hb hts hiX6 tyX6 tyX6_ok nmX6 hown hK hP hD hS 0 rfl rfl 19 (by decide) (hts (.fieldLink RX6 168 "PanoramaHouseModel" "at" "I") (by decide +kernel)) (fun _ h9 => h9) rfl (by decide +kernel) rfl rfl (Nat.le_of_ble_eq_true rfl) dX6_test_65 (fun H locs hP hD hS => ?_)
      obtain ⟨S6_13, eS6_13, hF⟩ := nm_ex hF
      have hP : va_P D vwCl (wX6 C a6 S6_13 A6_10 G6) H := by rw [eS6_13]; exact hP
      have hD : va_D A (wX6 C a6 S6_13 A6_10 G6) := by rw [eS6_13]; exact hD
      refine lv_aload_n hx hb dX6_test_68 rfl (lv_at hl 0 rfl) ?_
      obtain ⟨z_14, fz_14, hF⟩ := bd_at hF
      refine callV_void ([]) ([]) (w' := wX6 C a6 z_14 A6_10 G6) (As := []) (rest := []) ⟨hx, hb, hml, hown, hts⟩ hK hA hZ (c_X6_blanks l K D C a6 S6_13 A6_10 G6 z_14 fz_14) (cwV 0 hts gX6_test_X6_blanks rfl rfl rfl (by decide +kernel) ⟨Nat.le_of_ble_eq_true rfl, Nat.le_of_ble_eq_true rfl⟩) 0 rfl rfl rfl rfl hl.1 rfl (Nat.le_of_ble_eq_true rfl) ⟨Nat.zero_le _, Nat.zero_le _⟩ (by simp only [List.append_assoc, List.append_nil, List.nil_append]) (by simp only [List.append_assoc, List.append_nil, List.nil_append]) hP hD hS dX6_test_69 (fun H locs hP hD hS => ?_)
      refine lv_aload_n hx hb dX6_test_72 rfl (lv_at hl 0 rfl) ?_
      refine va_get (D := D) (ci := 6) (v := .int (z_14 19)) (C := RX6) (T := TX6) (N := 42) hx hb hts hiX6 hown hK hP 0 rfl rfl 19 (by decide) (hts (.fieldLink RX6 168 "PanoramaHouseModel" "at" "I") (by decide +kernel)) (fun _ h9 => h9) rfl dX6_test_73 ?_
      refine lv_aload_n hx hb dX6_test_76 rfl (lv_at hl 0 rfl) ?_
      refine va_get (D := D) (ci := 6) (v := .int (z_14 18)) (C := RX6) (T := TX6) (N := 42) hx hb hts hiX6 hown hK hP 0 rfl rfl 18 (by decide) (hts (.fieldLink RX6 171 "PanoramaHouseModel" "size" "I") (by decide +kernel)) (fun _ h9 => h9) rfl dX6_test_77 ?_
      refine lv_icmp_eq (tgt := 125) hx hb dX6_test_80 (by decide) (fun c_15 => ?_) (fun c_15 => ?_)
      · have hF := ifp hF c_15
        refine lv_iconst (v := 0) hx hb dX6_test_125 (by decide) ?_
        cases hF
        exact hret _ _ _ _ dX6_test_126 nb0 hP hD hS
      · have hF := ifn hF c_15
        refine lv_aload_n hx hb dX6_test_83 rfl (lv_at hl 0 rfl) ?_
        refine va_get (D := D) (ci := 6) (v := .ref (a6 17)) (C := RX6) (T := TX6) (N := 42) hx hb hts hiX6 hown hK hP 0 rfl rfl 16 (by decide) (hts (.fieldLink RX6 55 "PanoramaHouseModel" "text" "[B") (by decide +kernel)) (fun _ h9 => h9) rfl dX6_test_84 ?_
        refine lv_aload_n hx hb dX6_test_87 rfl (lv_at hl 0 rfl) ?_
        refine va_get (D := D) (ci := 6) (v := .int (z_14 19)) (C := RX6) (T := TX6) (N := 42) hx hb hts hiX6 hown hK hP 0 rfl rfl 19 (by decide) (hts (.fieldLink RX6 168 "PanoramaHouseModel" "at" "I") (by decide +kernel)) (fun _ h9 => h9) rfl dX6_test_88 ?_
        obtain ⟨h_16, hF⟩ := ix_at hF
        refine va_bald hx hb hK hP 15 1 rfl rfl h_16 dX6_test_91 ?_
        refine lv_bipush (v := 60) hx hb dX6_test_92 (by decide) ?_
        refine lv_icmp_eq (tgt := 127) hx hb dX6_test_94 (by decide) (fun c_17 => ?_) (fun c_17 => ?_)
        · have hF := ifp hF c_17
          exact bJ127 x1 z_14 A6_10 hF _ _ _ hP hD hS (lv_sub hl [0, 1] rfl)
        · have hF := ifn hF c_17
          refine lv_aload_n hx hb dX6_test_97 rfl (lv_at hl 0 rfl) ?_
          refine va_get (D := D) (ci := 6) (v := .ref (a6 17)) (C := RX6) (T := TX6) (N := 42) hx hb hts hiX6 hown hK hP 0 rfl rfl 16 (by decide) (hts (.fieldLink RX6 55 "PanoramaHouseModel" "text" "[B") (by decide +kernel)) (fun _ h9 => h9) rfl dX6_test_98 ?_
          refine lv_aload_n hx hb dX6_test_101 rfl (lv_at hl 0 rfl) ?_
          refine va_get (D := D) (ci := 6) (v := .int (z_14 19)) (C := RX6) (T := TX6) (N := 42) hx hb hts hiX6 hown hK hP 0 rfl rfl 19 (by decide) (hts (.fieldLink RX6 168 "PanoramaHouseModel" "at" "I") (by decide +kernel)) (fun _ h9 => h9) rfl dX6_test_102 ?_
          obtain ⟨h_18, hF⟩ := ix_at hF
          refine va_bald hx hb hK hP 15 1 rfl rfl h_18 dX6_test_105 ?_
          refine lv_bipush (v := 62) hx hb dX6_test_106 (by decide) ?_
          refine lv_icmp_eq (tgt := 127) hx hb dX6_test_108 (by decide) (fun c_19 => ?_) (fun c_19 => ?_)
          · have hF := ifp hF c_19
            exact bJ127 x1 z_14 A6_10 hF _ _ _ hP hD hS (lv_sub hl [0, 1] rfl)
          · have hF := ifn hF c_19
            refine lv_aload_n hx hb dX6_test_111 rfl (lv_at hl 0 rfl) ?_
            refine va_get (D := D) (ci := 6) (v := .ref (a6 17)) (C := RX6) (T := TX6) (N := 42) hx hb hts hiX6 hown hK hP 0 rfl rfl 16 (by decide) (hts (.fieldLink RX6 55 "PanoramaHouseModel" "text" "[B") (by decide +kernel)) (fun _ h9 => h9) rfl dX6_test_112 ?_
            refine lv_aload_n hx hb dX6_test_115 rfl (lv_at hl 0 rfl) ?_
            refine va_get (D := D) (ci := 6) (v := .int (z_14 19)) (C := RX6) (T := TX6) (N := 42) hx hb hts hiX6 hown hK hP 0 rfl rfl 19 (by decide) (hts (.fieldLink RX6 168 "PanoramaHouseModel" "at" "I") (by decide +kernel)) (fun _ h9 => h9) rfl dX6_test_116 ?_
            obtain ⟨h_20, hF⟩ := ix_at hF
            refine va_bald hx hb hK hP 15 1 rfl rfl h_20 dX6_test_119 ?_
            refine lv_bipush (v := 61) hx hb dX6_test_120 (by decide) ?_
            refine lv_icmp_eq (tgt := 127) hx hb dX6_test_122 (by decide) (fun c_21 => ?_) (fun c_21 => ?_)
            · have hF := ifp hF c_21
              exact bJ127 x1 z_14 A6_10 hF _ _ _ hP hD hS (lv_sub hl [0, 1] rfl)
            · have hF := ifn hF c_21
              refine lv_iconst (v := 0) hx hb dX6_test_125 (by decide) ?_
              cases hF
              exact hret _ _ _ _ dX6_test_126 nb0 hP hD hS
    · have hF := ifp hF c_12
      refine lv_iconst (v := 0) hx hb dX6_test_58 (by decide) ?_
      cases hF
      exact hret _ _ _ _ dX6_test_59 nb0 hP hD hS
  refine lv_aload_n hx hb dX6_test_0 rfl (lv_at hl 0 rfl) ?_
  obtain ⟨z_22, fz_22, hF⟩ := bd_at hF
  refine callV_long ([]) ([]) (w' := wX6 C a6 z_22.2 A6 G6) (As := []) (rest := []) ⟨hx, hb, hml, hown, hts⟩ hK hA hZ (c_X6_word l K D C a6 S6 A6 G6 z_22 fz_22) (cwV 0 hts gX6_test_X6_word rfl rfl rfl (by decide +kernel) ⟨Nat.le_of_ble_eq_true rfl, Nat.le_of_ble_eq_true rfl⟩) 0 rfl rfl rfl rfl hl.1 rfl (Nat.le_of_ble_eq_true rfl) ⟨Nat.zero_le _, Nat.zero_le _⟩ (by simp only [List.append_assoc, List.append_nil, List.nil_append]) (by simp only [List.append_assoc, List.append_nil, List.nil_append]) hP hD hS dX6_test_1 (fun H locs hP hD hS => ?_)
  refine lv_lstore_n (lv' := [(2, .long z_22.1), (0, .ref (a6 0)), (1, .int p1)]) hx hb dX6_test_4 rfl hl (by decide) rfl (fun ls hl => ?_)
  refine lv_aload_n hx hb dX6_test_5 rfl (lv_at hl 1 rfl) ?_
  refine va_get (D := D) (ci := 6) (v := .ref (a6 27)) (C := RX6) (T := TX6) (N := 42) hx hb hts hiX6 hown hK hP 0 rfl rfl 26 (by decide) (hts (.fieldLink RX6 74 "PanoramaHouseModel" "testName" "[I") (by decide +kernel)) (fun _ h9 => h9) rfl dX6_test_6 ?_
  refine lv_iload_n hx hb dX6_test_9 rfl (lv_at hl 2 rfl) ?_
  refine lv_lload_n hx hb dX6_test_10 rfl (lv_at hl 0 rfl) ?_
  refine lv_ldc2 (v := 2003133803) hx hb hown (hts (.constantLong RX6 187 2003133803) (by decide +kernel)) dX6_test_11 ?_
  refine W.lcmp hx hb dX6_test_14 ?_
  refine lv_if_ne (tgt := 22) hx hb dX6_test_15 (by decide) (fun c_23 => ?_) (fun c_23 => ?_)
  · have hF := ifn hF c_23
    refine lv_lload_n hx hb dX6_test_22 rfl (lv_at hl 0 rfl) ?_
    refine lv_ldc2 (v := 123580963646565) hx hb hown (hts (.constantLong RX6 189 123580963646565) (by decide +kernel)) dX6_test_23 ?_
    refine W.lcmp hx hb dX6_test_26 ?_
    refine lv_if_ne (tgt := 34) hx hb dX6_test_27 (by decide) (fun c_24 => ?_) (fun c_24 => ?_)
    · have hF := ifn hF c_24
      refine lv_lload_n hx hb dX6_test_34 rfl (lv_at hl 0 rfl) ?_
      refine lv_ldc2 (v := 427070942835) hx hb hown (hts (.constantLong RX6 191 427070942835) (by decide +kernel)) dX6_test_35 ?_
      refine W.lcmp hx hb dX6_test_38 ?_
      refine lv_if_ne (tgt := 46) hx hb dX6_test_39 (by decide) (fun c_25 => ?_) (fun c_25 => ?_)
      · have hF := ifn hF c_25
        refine lv_iconst (v := -1) hx hb dX6_test_46 (by decide) ?_
        exact bJ47 p1 (-1) p1 z_22.2 A6 hF _ _ _ hP hD hS (lv_sub hl [1, 2] rfl)
      · have hF := ifp hF c_25
        refine lv_iconst (v := 2) hx hb dX6_test_42 (by decide) ?_
        refine lv_goto (tgt := 47) hx hb dX6_test_43 (by decide) ?_
        exact bJ47 p1 2 p1 z_22.2 A6 hF _ _ _ hP hD hS (lv_sub hl [1, 2] rfl)
    · have hF := ifp hF c_24
      refine lv_iconst (v := 1) hx hb dX6_test_30 (by decide) ?_
      refine lv_goto (tgt := 47) hx hb dX6_test_31 (by decide) ?_
      exact bJ47 p1 1 p1 z_22.2 A6 hF _ _ _ hP hD hS (lv_sub hl [1, 2] rfl)
  · have hF := ifp hF c_23
    refine lv_iconst (v := 0) hx hb dX6_test_18 (by decide) ?_
    refine lv_goto (tgt := 47) hx hb dX6_test_19 (by decide) ?_
    exact bJ47 p1 0 p1 z_22.2 A6 hF _ _ _ hP hD hS (lv_sub hl [1, 2] rfl)
abbrev rmX6_statement : Room := { frames := 4, cells := 0, slots := 0, locals := 97 }
set_option maxRecDepth 100000 in
set_option maxHeartbeats 4000000 in
theorem c_X6_statement (l : Launch) (K : Kx) (D : va_G) (C : Nat → ClassId) (a6 : Nat → Nat) (S6 : Nat → Int32) (A6 : Nat → Nat → Int32) (G6 : Nat → Nat → Int64) (p1 : Int32) (z : Int32 × (Nat → Int32) × (Nat → Nat → Int32)) (hF : F_X6_statement S6 A6 p1 = some z) : MetI l yX6_statement wsX6_statement rmX6_statement K D (tyV C) (wX6 C a6 S6 A6 G6) [.ref (a6 0), .int p1] (wX6 C a6 z.2.1 z.2.2 G6) z.1 := by
  refine met_int (cc := cX6_statement) (maxL := 3) (ty := .boolean) (by decide +kernel) rfl (Nat.le_of_ble_eq_true rfl) ?_
  intro p e s m below meth c A Q ls ⟨hx, hb, hml, hown, hts, hK, hA, hZ⟩ hP hD hS hl hret
  have hown : s.vm.findClass RX6 = some m.cls := hown
  have hiX6 : ∀ w ∈ u_ws RX6 TX6 42, w ∈ wsX6_statement := by decide +kernel
  have hl : lv_has ls 3 [(0, .ref (a6 0)), (1, .int p1)] := hl
  unfold F_X6_statement at hF
  obtain ⟨J186, eJ186, hF⟩ := nm_ex hF
  have bJ186 : ∀ (S6 : Nat → Int32) (A6 : Nat → Nat → Int32), J186 S6 A6 = some z → ∀ (H : Heap) (locs : List Loc) (ls : Array Slot), va_P D vwCl (wX6 C a6 S6 A6 G6) H → va_D A (wX6 C a6 S6 A6 G6) → va_S A s.heap H locs → lv_has ls 3 [(0, .ref (a6 0))] → W p l e rmX6_statement s m ([.ref (a6 0), .int p1] : List Value).toArray below meth c H locs 0 0 Q (F0 m 186 ls []) := by
    intro S6 A6 hF H locs ls hP hD hS hl
    rw [eJ186] at hF
    refine lv_aload_n hx hb dX6_statement_186 rfl (lv_at hl 0 rfl) ?_
    obtain ⟨z_1, fz_1, hF⟩ := bd_at hF
    refine callV_void ([]) ([]) (w' := wX6 C a6 z_1 A6 G6) (As := []) (rest := []) ⟨hx, hb, hml, hown, hts⟩ hK hA hZ (c_X6_blanks l K D C a6 S6 A6 G6 z_1 fz_1) (cwV 0 hts gX6_statement_X6_blanks rfl rfl rfl (by decide +kernel) ⟨Nat.le_of_ble_eq_true rfl, Nat.le_of_ble_eq_true rfl⟩) 0 rfl rfl rfl rfl hl.1 rfl (Nat.le_of_ble_eq_true rfl) ⟨Nat.zero_le _, Nat.zero_le _⟩ (by simp only [List.append_assoc, List.append_nil, List.nil_append]) (by simp only [List.append_assoc, List.append_nil, List.nil_append]) hP hD hS dX6_statement_187 (fun H locs hP hD hS => ?_)
    refine lv_aload_n hx hb dX6_statement_190 rfl (lv_at hl 0 rfl) ?_
    refine va_get (D := D) (ci := 6) (v := .int (z_1 19)) (C := RX6) (T := TX6) (N := 42) hx hb hts hiX6 hown hK hP 0 rfl rfl 19 (by decide) (hts (.fieldLink RX6 168 "PanoramaHouseModel" "at" "I") (by decide +kernel)) (fun _ h9 => h9) rfl dX6_statement_191 ?_
    refine lv_aload_n hx hb dX6_statement_194 rfl (lv_at hl 0 rfl) ?_
    refine va_get (D := D) (ci := 6) (v := .int (z_1 18)) (C := RX6) (T := TX6) (N := 42) hx hb hts hiX6 hown hK hP 0 rfl rfl 18 (by decide) (hts (.fieldLink RX6 171 "PanoramaHouseModel" "size" "I") (by decide +kernel)) (fun _ h9 => h9) rfl dX6_statement_195 ?_
    refine lv_icmp_eq (tgt := 215) hx hb dX6_statement_198 (by decide) (fun c_2 => ?_) (fun c_2 => ?_)
    · have hF := ifp hF c_2
      refine lv_iconst (v := 0) hx hb dX6_statement_215 (by decide) ?_
      cases hF
      exact hret _ _ _ _ dX6_statement_216 nb0 hP hD hS
    · have hF := ifn hF c_2
      refine lv_aload_n hx hb dX6_statement_201 rfl (lv_at hl 0 rfl) ?_
      refine va_get (D := D) (ci := 6) (v := .ref (a6 17)) (C := RX6) (T := TX6) (N := 42) hx hb hts hiX6 hown hK hP 0 rfl rfl 16 (by decide) (hts (.fieldLink RX6 55 "PanoramaHouseModel" "text" "[B") (by decide +kernel)) (fun _ h9 => h9) rfl dX6_statement_202 ?_
      refine lv_aload_n hx hb dX6_statement_205 rfl (lv_at hl 0 rfl) ?_
      refine va_get (D := D) (ci := 6) (v := .int (z_1 19)) (C := RX6) (T := TX6) (N := 42) hx hb hts hiX6 hown hK hP 0 rfl rfl 19 (by decide) (hts (.fieldLink RX6 168 "PanoramaHouseModel" "at" "I") (by decide +kernel)) (fun _ h9 => h9) rfl dX6_statement_206 ?_
      obtain ⟨h_3, hF⟩ := ix_at hF
      refine va_bald hx hb hK hP 15 1 rfl rfl h_3 dX6_statement_209 ?_
      refine lv_bipush (v := 59) hx hb dX6_statement_210 (by decide) ?_
      refine lv_icmp_eq (tgt := 217) hx hb dX6_statement_212 (by decide) (fun c_4 => ?_) (fun c_4 => ?_)
      · have hF := ifp hF c_4
        refine lv_aload_n hx hb dX6_statement_217 rfl (lv_at hl 0 rfl) ?_
        refine lv_dup hx hb dX6_statement_218 rfl ?_
        refine va_get (D := D) (ci := 6) (v := .int (z_1 19)) (C := RX6) (T := TX6) (N := 42) hx hb hts hiX6 hown hK hP 0 rfl rfl 19 (by decide) (hts (.fieldLink RX6 168 "PanoramaHouseModel" "at" "I") (by decide +kernel)) (fun _ h9 => h9) rfl dX6_statement_219 ?_
        refine lv_iconst (v := 1) hx hb dX6_statement_222 (by decide) ?_
        refine lv_iadd hx hb dX6_statement_223 ?_
        refine va_put (D := D) (ci := 6) (v := .int ((z_1 19) + 1)) (ty := .int) (C := RX6) (T := TX6) (N := 42) hx hb hts hiX6 tyX6 tyX6_ok nmX6 hown hK hP hD hS 0 rfl rfl 19 (by decide) (hts (.fieldLink RX6 168 "PanoramaHouseModel" "at" "I") (by decide +kernel)) (fun _ h9 => h9) rfl (by decide +kernel) rfl rfl (Nat.le_of_ble_eq_true rfl) dX6_statement_224 (fun H locs hP hD hS => ?_)
        obtain ⟨S6_5, eS6_5, hF⟩ := nm_ex hF
        have hP : va_P D vwCl (wX6 C a6 S6_5 A6 G6) H := by rw [eS6_5]; exact hP
        have hD : va_D A (wX6 C a6 S6_5 A6 G6) := by rw [eS6_5]; exact hD
        refine lv_iconst (v := 1) hx hb dX6_statement_227 (by decide) ?_
        cases hF
        exact hret _ _ _ _ dX6_statement_228 nb1 hP hD hS
      · have hF := ifn hF c_4
        refine lv_iconst (v := 0) hx hb dX6_statement_215 (by decide) ?_
        cases hF
        exact hret _ _ _ _ dX6_statement_216 nb0 hP hD hS
  have bL128 : ∀ (n : Nat) (x1 : Int32) (x2 : Int32) (S6 : Nat → Int32) (A6 : Nat → Nat → Int32), L_X6_statement_128 J186 n x1 x2 S6 A6 = some z → ∀ (H : Heap) (locs : List Loc) (ls : Array Slot), va_P D vwCl (wX6 C a6 S6 A6 G6) H → va_D A (wX6 C a6 S6 A6 G6) → va_S A s.heap H locs → lv_has ls 3 [(0, .ref (a6 0)), (1, .int x1), (2, .int x2)] → W p l e rmX6_statement s m ([.ref (a6 0), .int p1] : List Value).toArray below meth c H locs 0 0 Q (F0 m 128 ls []) := by
    intro n
    induction n with
    | zero => intro x1 x2 S6 A6 hF; rw [L_X6_statement_128.eq_1] at hF; cases hF
    | succ n ih128 =>
      intro x1 x2 S6 A6 hF H locs ls hP hD hS hl
      rw [L_X6_statement_128.eq_2] at hF
      refine lv_iload_n hx hb dX6_statement_128 rfl (lv_at hl 2 rfl) ?_
      refine lv_if_eq (tgt := 186) hx hb dX6_statement_129 (by decide) (fun c_6 => ?_) (fun c_6 => ?_)
      · have hF := ifp hF c_6
        exact bJ186 S6 A6 hF _ _ _ hP hD hS (lv_sub hl [0] rfl)
      · have hF := ifn hF c_6
        refine lv_aload_n hx hb dX6_statement_132 rfl (lv_at hl 0 rfl) ?_
        obtain ⟨z_7, fz_7, hF⟩ := bd_at hF
        refine callV_void ([]) ([]) (w' := wX6 C a6 z_7 A6 G6) (As := []) (rest := []) ⟨hx, hb, hml, hown, hts⟩ hK hA hZ (c_X6_blanks l K D C a6 S6 A6 G6 z_7 fz_7) (cwV 0 hts gX6_statement_X6_blanks rfl rfl rfl (by decide +kernel) ⟨Nat.le_of_ble_eq_true rfl, Nat.le_of_ble_eq_true rfl⟩) 0 rfl rfl rfl rfl hl.1 rfl (Nat.le_of_ble_eq_true rfl) ⟨Nat.zero_le _, Nat.zero_le _⟩ (by simp only [List.append_assoc, List.append_nil, List.nil_append]) (by simp only [List.append_assoc, List.append_nil, List.nil_append]) hP hD hS dX6_statement_133 (fun H locs hP hD hS => ?_)
        refine lv_aload_n hx hb dX6_statement_136 rfl (lv_at hl 0 rfl) ?_
        refine va_get (D := D) (ci := 6) (v := .ref (a6 26)) (C := RX6) (T := TX6) (N := 42) hx hb hts hiX6 hown hK hP 0 rfl rfl 25 (by decide) (hts (.fieldLink RX6 71 "PanoramaHouseModel" "testMany" "[I") (by decide +kernel)) (fun _ h9 => h9) rfl dX6_statement_137 ?_
        refine lv_iload_n hx hb dX6_statement_140 rfl (lv_at hl 1 rfl) ?_
        obtain ⟨h_8, hF⟩ := ix_at hF
        refine va_iald hx hb hK hP 19 0 rfl rfl h_8 dX6_statement_141 ?_
        refine lv_iconst (v := 3) hx hb dX6_statement_142 (by decide) ?_
        refine lv_icmp_eq (tgt := 163) hx hb dX6_statement_143 (by decide) (fun c_9 => ?_) (fun c_9 => ?_)
        · have hF := ifp hF c_9
          refine lv_iconst (v := 0) hx hb dX6_statement_163 (by decide) ?_
          cases hF
          exact hret _ _ _ _ dX6_statement_164 nb0 hP hD hS
        · have hF := ifn hF c_9
          refine lv_aload_n hx hb dX6_statement_146 rfl (lv_at hl 0 rfl) ?_
          refine lv_iconst (v := 3) hx hb dX6_statement_147 (by decide) ?_
          refine lv_iload_n hx hb dX6_statement_148 rfl (lv_at hl 1 rfl) ?_
          refine lv_imul hx hb dX6_statement_149 ?_
          refine lv_aload_n hx hb dX6_statement_150 rfl (lv_at hl 0 rfl) ?_
          refine va_get (D := D) (ci := 6) (v := .ref (a6 26)) (C := RX6) (T := TX6) (N := 42) hx hb hts hiX6 hown hK hP 0 rfl rfl 25 (by decide) (hts (.fieldLink RX6 71 "PanoramaHouseModel" "testMany" "[I") (by decide +kernel)) (fun _ h9 => h9) rfl dX6_statement_151 ?_
          refine lv_iload_n hx hb dX6_statement_154 rfl (lv_at hl 1 rfl) ?_
          obtain ⟨h_10, hF⟩ := ix_at hF
          refine va_iald hx hb hK hP 19 0 rfl rfl h_10 dX6_statement_155 ?_
          refine lv_iadd hx hb dX6_statement_156 ?_
          obtain ⟨z_11, fz_11, hF⟩ := bd_at hF
          refine callV_int ([]) ([]) (w' := wX6 C a6 z_11.2.1 z_11.2.2 G6) (As := [.int ((3 * x1) + (A6 25 (x1).toNatClampNeg))]) (rest := []) ⟨hx, hb, hml, hown, hts⟩ hK hA hZ (c_X6_test l K D C a6 z_7 A6 G6 ((3 * x1) + (A6 25 (x1).toNatClampNeg)) z_11 fz_11) (cwV 1 hts gX6_statement_X6_test rfl rfl rfl (by decide +kernel) ⟨Nat.le_of_ble_eq_true rfl, Nat.le_of_ble_eq_true rfl⟩) 0 rfl rfl rfl rfl hl.1 rfl (Nat.le_of_ble_eq_true rfl) ⟨Nat.zero_le _, Nat.zero_le _⟩ (by simp only [List.append_assoc, List.append_nil, List.nil_append]) (by simp only [List.append_assoc, List.append_nil, List.nil_append]) hP hD hS dX6_statement_157 (fun H locs hP hD hS => ?_)
          refine lv_if_ne (tgt := 165) hx hb dX6_statement_160 (by decide) (fun c_12 => ?_) (fun c_12 => ?_)
          · have hF := ifn hF c_12
            refine lv_aload_n hx hb dX6_statement_165 rfl (lv_at hl 0 rfl) ?_
            refine va_get (D := D) (ci := 6) (v := .ref (a6 26)) (C := RX6) (T := TX6) (N := 42) hx hb hts hiX6 hown hK hP 0 rfl rfl 25 (by decide) (hts (.fieldLink RX6 71 "PanoramaHouseModel" "testMany" "[I") (by decide +kernel)) (fun _ h9 => h9) rfl dX6_statement_166 ?_
            refine lv_iload_n hx hb dX6_statement_169 rfl (lv_at hl 1 rfl) ?_
            refine lv_dup2_11 hx hb dX6_statement_170 rfl rfl ?_
            obtain ⟨h_13, hF⟩ := ix_at hF
            refine va_iald hx hb hK hP 19 0 rfl rfl h_13 dX6_statement_171 ?_
            refine lv_iconst (v := 1) hx hb dX6_statement_172 (by decide) ?_
            refine lv_iadd hx hb dX6_statement_173 ?_
            obtain ⟨h_14, hF⟩ := ix_at hF
            refine va_iast hx hb hK hP hD hS 19 0 rfl rfl h_14 dX6_statement_174 (fun H locs hP hD hS => ?_)
            obtain ⟨A6_15, eA6_15, hF⟩ := nm_ex hF
            have hP : va_P D vwCl (wX6 C a6 z_11.2.1 A6_15 G6) H := by rw [eA6_15]; exact hP
            have hD : va_D A (wX6 C a6 z_11.2.1 A6_15 G6) := by rw [eA6_15]; exact hD
            refine lv_aload_n hx hb dX6_statement_175 rfl (lv_at hl 0 rfl) ?_
            refine lv_ldc2 (v := 6385252) hx hb hown (hts (.constantLong RX6 212 6385252) (by decide +kernel)) dX6_statement_176 ?_
            obtain ⟨z_16, fz_16, hF⟩ := bd_at hF
            refine callV_int ([]) ([]) (w' := wX6 C a6 z_16.2 A6_15 G6) (As := [.long 6385252]) (rest := []) ⟨hx, hb, hml, hown, hts⟩ hK hA hZ (c_X6_takes l K D C a6 z_11.2.1 A6_15 G6 6385252 z_16 fz_16) (cwV 1 hts gX6_statement_X6_takes rfl rfl rfl (by decide +kernel) ⟨Nat.le_of_ble_eq_true rfl, Nat.le_of_ble_eq_true rfl⟩) 0 rfl rfl rfl rfl hl.1 rfl (Nat.le_of_ble_eq_true rfl) ⟨Nat.zero_le _, Nat.zero_le _⟩ (by simp only [List.append_assoc, List.append_nil, List.nil_append]) (by simp only [List.append_assoc, List.append_nil, List.nil_append]) hP hD hS dX6_statement_179 (fun H locs hP hD hS => ?_)
            refine lv_istore_n (lv' := [(2, .int z_16.1), (0, .ref (a6 0)), (1, .int x1)]) hx hb dX6_statement_182 rfl hl (by decide) rfl (fun ls hl => ?_)
            refine lv_goto (tgt := 128) hx hb dX6_statement_183 (by decide) ?_
            exact ih128 x1 z_16.1 z_16.2 A6_15 hF _ _ _ hP hD hS (lv_sub hl [1, 2, 0] rfl)
          · have hF := ifp hF c_12
            refine lv_iconst (v := 0) hx hb dX6_statement_163 (by decide) ?_
            cases hF
            exact hret _ _ _ _ dX6_statement_164 nb0 hP hD hS
  obtain ⟨J127, eJ127, hF⟩ := nm_ex hF
  have bJ127 : ∀ (x1 : Int32) (y0 : Int32) (S6 : Nat → Int32) (A6 : Nat → Nat → Int32), J127 x1 y0 S6 A6 = some z → ∀ (H : Heap) (locs : List Loc) (ls : Array Slot), va_P D vwCl (wX6 C a6 S6 A6 G6) H → va_D A (wX6 C a6 S6 A6 G6) → va_S A s.heap H locs → lv_has ls 3 [(0, .ref (a6 0)), (1, .int x1)] → W p l e rmX6_statement s m ([.ref (a6 0), .int p1] : List Value).toArray below meth c H locs 0 0 Q (F0 m 127 ls [.int y0]) := by
    intro x1 y0 S6 A6 hF H locs ls hP hD hS hl
    rw [eJ127] at hF
    refine lv_istore_n (lv' := [(2, .int y0), (0, .ref (a6 0)), (1, .int x1)]) hx hb dX6_statement_127 rfl hl (by decide) rfl (fun ls hl => ?_)
    exact bL128 FU x1 y0 S6 A6 hF _ _ _ hP hD hS (lv_sub hl [1, 2, 0] rfl)
  obtain ⟨J126, eJ126, hF⟩ := nm_ex hF
  have bJ126 : ∀ (x1 : Int32) (S6 : Nat → Int32) (A6 : Nat → Nat → Int32), J126 x1 S6 A6 = some z → ∀ (H : Heap) (locs : List Loc) (ls : Array Slot), va_P D vwCl (wX6 C a6 S6 A6 G6) H → va_D A (wX6 C a6 S6 A6 G6) → va_S A s.heap H locs → lv_has ls 3 [(0, .ref (a6 0)), (1, .int x1)] → W p l e rmX6_statement s m ([.ref (a6 0), .int p1] : List Value).toArray below meth c H locs 0 0 Q (F0 m 126 ls []) := by
    intro x1 S6 A6 hF H locs ls hP hD hS hl
    rw [eJ126] at hF
    refine lv_iconst (v := 0) hx hb dX6_statement_126 (by decide) ?_
    exact bJ127 x1 0 S6 A6 hF _ _ _ hP hD hS (lv_sub hl [0, 1] rfl)
  obtain ⟨J84, eJ84, hF⟩ := nm_ex hF
  have bJ84 : ∀ (x1 : Int32) (y0 : Int32) (S6 : Nat → Int32) (A6 : Nat → Nat → Int32), J84 x1 y0 S6 A6 = some z → ∀ (H : Heap) (locs : List Loc) (ls : Array Slot), va_P D vwCl (wX6 C a6 S6 A6 G6) H → va_D A (wX6 C a6 S6 A6 G6) → va_S A s.heap H locs → lv_has ls 3 [(0, .ref (a6 0)), (1, .int x1)] → W p l e rmX6_statement s m ([.ref (a6 0), .int p1] : List Value).toArray below meth c H locs 0 0 Q (F0 m 84 ls [.int y0, .ref (a6 0)]) := by
    intro x1 y0 S6 A6 hF H locs ls hP hD hS hl
    rw [eJ84] at hF
    obtain ⟨z_17, fz_17, hF⟩ := bd_at hF
    refine callV_int ([]) ([]) (w' := wX6 C a6 z_17.2 A6 G6) (As := [.int y0]) (rest := []) ⟨hx, hb, hml, hown, hts⟩ hK hA hZ (c_X6_takesNumber l K D C a6 S6 A6 G6 y0 z_17 fz_17) (cwV 1 hts gX6_statement_X6_takesNumber rfl rfl rfl (by decide +kernel) ⟨Nat.le_of_ble_eq_true rfl, Nat.le_of_ble_eq_true rfl⟩) 0 rfl rfl rfl rfl hl.1 rfl (Nat.le_of_ble_eq_true rfl) ⟨Nat.zero_le _, Nat.zero_le _⟩ (by simp only [List.append_assoc, List.append_nil, List.nil_append]) (by simp only [List.append_assoc, List.append_nil, List.nil_append]) hP hD hS dX6_statement_84 (fun H locs hP hD hS => ?_)
    refine lv_if_ne (tgt := 92) hx hb dX6_statement_87 (by decide) (fun c_18 => ?_) (fun c_18 => ?_)
    · have hF := ifn hF c_18
      refine lv_aload_n hx hb dX6_statement_92 rfl (lv_at hl 0 rfl) ?_
      refine va_get (D := D) (ci := 6) (v := .ref (a6 25)) (C := RX6) (T := TX6) (N := 42) hx hb hts hiX6 hown hK hP 0 rfl rfl 24 (by decide) (hts (.fieldLink RX6 68 "PanoramaHouseModel" "gives" "[I") (by decide +kernel)) (fun _ h9 => h9) rfl dX6_statement_93 ?_
      refine lv_iload_n hx hb dX6_statement_96 rfl (lv_at hl 1 rfl) ?_
      refine lv_aload_n hx hb dX6_statement_97 rfl (lv_at hl 0 rfl) ?_
      refine va_get (D := D) (ci := 6) (v := .int (z_17.2 34)) (C := RX6) (T := TX6) (N := 42) hx hb hts hiX6 hown hK hP 0 rfl rfl 34 (by decide) (hts (.fieldLink RX6 184 "PanoramaHouseModel" "number" "I") (by decide +kernel)) (fun _ h9 => h9) rfl dX6_statement_98 ?_
      obtain ⟨h_19, hF⟩ := ix_at hF
      refine va_iast hx hb hK hP hD hS 18 0 rfl rfl h_19 dX6_statement_101 (fun H locs hP hD hS => ?_)
      obtain ⟨A6_20, eA6_20, hF⟩ := nm_ex hF
      have hP : va_P D vwCl (wX6 C a6 z_17.2 A6_20 G6) H := by rw [eA6_20]; exact hP
      have hD : va_D A (wX6 C a6 z_17.2 A6_20 G6) := by rw [eA6_20]; exact hD
      refine lv_aload_n hx hb dX6_statement_102 rfl (lv_at hl 0 rfl) ?_
      refine va_get (D := D) (ci := 6) (v := .ref (a6 24)) (C := RX6) (T := TX6) (N := 42) hx hb hts hiX6 hown hK hP 0 rfl rfl 23 (by decide) (hts (.fieldLink RX6 65 "PanoramaHouseModel" "kind" "[I") (by decide +kernel)) (fun _ h9 => h9) rfl dX6_statement_103 ?_
      refine lv_iload_n hx hb dX6_statement_106 rfl (lv_at hl 1 rfl) ?_
      obtain ⟨h_21, hF⟩ := ix_at hF
      refine va_iald hx hb hK hP 17 0 rfl rfl h_21 dX6_statement_107 ?_
      refine lv_iconst (v := 2) hx hb dX6_statement_108 (by decide) ?_
      refine lv_icmp_ne (tgt := 126) hx hb dX6_statement_109 (by decide) (fun c_22 => ?_) (fun c_22 => ?_)
      · have hF := ifn hF c_22
        exact bJ126 x1 z_17.2 A6_20 hF _ _ _ hP hD hS (lv_sub hl [0, 1] rfl)
      · have hF := ifp hF c_22
        refine lv_aload_n hx hb dX6_statement_112 rfl (lv_at hl 0 rfl) ?_
        refine lv_ldc2 (v := 26982) hx hb hown (hts (.constantLong RX6 207 26982) (by decide +kernel)) dX6_statement_113 ?_
        obtain ⟨z_23, fz_23, hF⟩ := bd_at hF
        refine callV_int ([]) ([]) (w' := wX6 C a6 z_23.2 A6_20 G6) (As := [.long 26982]) (rest := []) ⟨hx, hb, hml, hown, hts⟩ hK hA hZ (c_X6_takes l K D C a6 z_17.2 A6_20 G6 26982 z_23 fz_23) (cwV 1 hts gX6_statement_X6_takes rfl rfl rfl (by decide +kernel) ⟨Nat.le_of_ble_eq_true rfl, Nat.le_of_ble_eq_true rfl⟩) 0 rfl rfl rfl rfl hl.1 rfl (Nat.le_of_ble_eq_true rfl) ⟨Nat.zero_le _, Nat.zero_le _⟩ (by simp only [List.append_assoc, List.append_nil, List.nil_append]) (by simp only [List.append_assoc, List.append_nil, List.nil_append]) hP hD hS dX6_statement_116 (fun H locs hP hD hS => ?_)
        refine lv_if_eq (tgt := 126) hx hb dX6_statement_119 (by decide) (fun c_24 => ?_) (fun c_24 => ?_)
        · have hF := ifp hF c_24
          exact bJ126 x1 z_23.2 A6_20 hF _ _ _ hP hD hS (lv_sub hl [0, 1] rfl)
        · have hF := ifn hF c_24
          refine lv_iconst (v := 1) hx hb dX6_statement_122 (by decide) ?_
          refine lv_goto (tgt := 127) hx hb dX6_statement_123 (by decide) ?_
          exact bJ127 x1 1 z_23.2 A6_20 hF _ _ _ hP hD hS (lv_sub hl [0, 1] rfl)
    · have hF := ifp hF c_18
      refine lv_iconst (v := 0) hx hb dX6_statement_90 (by decide) ?_
      cases hF
      exact hret _ _ _ _ dX6_statement_91 nb0 hP hD hS
  obtain ⟨J55, eJ55, hF⟩ := nm_ex hF
  have bJ55 : ∀ (x1 : Int32) (y0 : Int32) (y1 : Int32) (S6 : Nat → Int32) (A6 : Nat → Nat → Int32), J55 x1 y0 y1 S6 A6 = some z → ∀ (H : Heap) (locs : List Loc) (ls : Array Slot), va_P D vwCl (wX6 C a6 S6 A6 G6) H → va_D A (wX6 C a6 S6 A6 G6) → va_S A s.heap H locs → lv_has ls 3 [(0, .ref (a6 0)), (1, .int x1)] → W p l e rmX6_statement s m ([.ref (a6 0), .int p1] : List Value).toArray below meth c H locs 0 0 Q (F0 m 55 ls [.int y0, .int y1, .ref (a6 24)]) := by
    intro x1 y0 y1 S6 A6 hF H locs ls hP hD hS hl
    rw [eJ55] at hF
    obtain ⟨h_25, hF⟩ := ix_at hF
    refine va_iast hx hb hK hP hD hS 17 0 rfl rfl h_25 dX6_statement_55 (fun H locs hP hD hS => ?_)
    obtain ⟨A6_26, eA6_26, hF⟩ := nm_ex hF
    have hP : va_P D vwCl (wX6 C a6 S6 A6_26 G6) H := by rw [eA6_26]; exact hP
    have hD : va_D A (wX6 C a6 S6 A6_26 G6) := by rw [eA6_26]; exact hD
    refine lv_aload_n hx hb dX6_statement_56 rfl (lv_at hl 0 rfl) ?_
    refine va_get (D := D) (ci := 6) (v := .ref (a6 24)) (C := RX6) (T := TX6) (N := 42) hx hb hts hiX6 hown hK hP 0 rfl rfl 23 (by decide) (hts (.fieldLink RX6 65 "PanoramaHouseModel" "kind" "[I") (by decide +kernel)) (fun _ h9 => h9) rfl dX6_statement_57 ?_
    refine lv_iload_n hx hb dX6_statement_60 rfl (lv_at hl 1 rfl) ?_
    obtain ⟨h_27, hF⟩ := ix_at hF
    refine va_iald hx hb hK hP 17 0 rfl rfl h_27 dX6_statement_61 ?_
    refine lv_iconst (v := -1) hx hb dX6_statement_62 (by decide) ?_
    refine lv_icmp_eq (tgt := 90) hx hb dX6_statement_63 (by decide) (fun c_28 => ?_) (fun c_28 => ?_)
    · have hF := ifp hF c_28
      refine lv_iconst (v := 0) hx hb dX6_statement_90 (by decide) ?_
      cases hF
      exact hret _ _ _ _ dX6_statement_91 nb0 hP hD hS
    · have hF := ifn hF c_28
      refine lv_aload_n hx hb dX6_statement_66 rfl (lv_at hl 0 rfl) ?_
      refine lv_aload_n hx hb dX6_statement_67 rfl (lv_at hl 0 rfl) ?_
      refine va_get (D := D) (ci := 6) (v := .ref (a6 24)) (C := RX6) (T := TX6) (N := 42) hx hb hts hiX6 hown hK hP 0 rfl rfl 23 (by decide) (hts (.fieldLink RX6 65 "PanoramaHouseModel" "kind" "[I") (by decide +kernel)) (fun _ h9 => h9) rfl dX6_statement_68 ?_
      refine lv_iload_n hx hb dX6_statement_71 rfl (lv_at hl 1 rfl) ?_
      obtain ⟨h_29, hF⟩ := ix_at hF
      refine va_iald hx hb hK hP 17 0 rfl rfl h_29 dX6_statement_72 ?_
      refine lv_iconst (v := 2) hx hb dX6_statement_73 (by decide) ?_
      refine lv_icmp_ne (tgt := 82) hx hb dX6_statement_74 (by decide) (fun c_30 => ?_) (fun c_30 => ?_)
      · have hF := ifn hF c_30
        refine lv_ldc (v := 99999) hx hb hown (hts (.constant RX6 193 99999) (by decide +kernel)) dX6_statement_82 ?_
        exact bJ84 x1 99999 S6 A6_26 hF _ _ _ hP hD hS (lv_sub hl [0, 1] rfl)
      · have hF := ifp hF c_30
        refine lv_bipush (v := 100) hx hb dX6_statement_77 (by decide) ?_
        refine lv_goto (tgt := 84) hx hb dX6_statement_79 (by decide) ?_
        exact bJ84 x1 100 S6 A6_26 hF _ _ _ hP hD hS (lv_sub hl [0, 1] rfl)
  refine lv_aload_n hx hb dX6_statement_0 rfl (lv_at hl 0 rfl) ?_
  refine va_get (D := D) (ci := 6) (v := .ref (a6 26)) (C := RX6) (T := TX6) (N := 42) hx hb hts hiX6 hown hK hP 0 rfl rfl 25 (by decide) (hts (.fieldLink RX6 71 "PanoramaHouseModel" "testMany" "[I") (by decide +kernel)) (fun _ h9 => h9) rfl dX6_statement_1 ?_
  refine lv_iload_n hx hb dX6_statement_4 rfl (lv_at hl 1 rfl) ?_
  refine lv_iconst (v := 0) hx hb dX6_statement_5 (by decide) ?_
  obtain ⟨h_31, hF⟩ := ix_at hF
  refine va_iast hx hb hK hP hD hS 19 0 rfl rfl h_31 dX6_statement_6 (fun H locs hP hD hS => ?_)
  obtain ⟨A6_32, eA6_32, hF⟩ := nm_ex hF
  have hP : va_P D vwCl (wX6 C a6 S6 A6_32 G6) H := by rw [eA6_32]; exact hP
  have hD : va_D A (wX6 C a6 S6 A6_32 G6) := by rw [eA6_32]; exact hD
  refine lv_aload_n hx hb dX6_statement_7 rfl (lv_at hl 0 rfl) ?_
  refine va_get (D := D) (ci := 6) (v := .ref (a6 24)) (C := RX6) (T := TX6) (N := 42) hx hb hts hiX6 hown hK hP 0 rfl rfl 23 (by decide) (hts (.fieldLink RX6 65 "PanoramaHouseModel" "kind" "[I") (by decide +kernel)) (fun _ h9 => h9) rfl dX6_statement_8 ?_
  refine lv_iload_n hx hb dX6_statement_11 rfl (lv_at hl 1 rfl) ?_
  refine lv_aload_n hx hb dX6_statement_12 rfl (lv_at hl 0 rfl) ?_
  refine lv_ldc2 (v := 512802253683) hx hb hown (hts (.constantLong RX6 197 512802253683) (by decide +kernel)) dX6_statement_13 ?_
  obtain ⟨z_33, fz_33, hF⟩ := bd_at hF
  refine callV_int ([]) ([]) (w' := wX6 C a6 z_33.2 A6_32 G6) (As := [.long 512802253683]) (rest := [.int p1, .ref (a6 24)]) ⟨hx, hb, hml, hown, hts⟩ hK hA hZ (c_X6_takes l K D C a6 S6 A6_32 G6 512802253683 z_33 fz_33) (cwV 1 hts gX6_statement_X6_takes rfl rfl rfl (by decide +kernel) ⟨Nat.le_of_ble_eq_true rfl, Nat.le_of_ble_eq_true rfl⟩) 0 rfl rfl rfl rfl hl.1 rfl (Nat.le_of_ble_eq_true rfl) ⟨Nat.zero_le _, Nat.zero_le _⟩ (by simp only [List.append_assoc, List.append_nil, List.nil_append]) (by simp only [List.append_assoc, List.append_nil, List.nil_append]) hP hD hS dX6_statement_16 (fun H locs hP hD hS => ?_)
  refine lv_if_eq (tgt := 26) hx hb dX6_statement_19 (by decide) (fun c_34 => ?_) (fun c_34 => ?_)
  · have hF := ifp hF c_34
    refine lv_aload_n hx hb dX6_statement_26 rfl (lv_at hl 0 rfl) ?_
    refine lv_ldc2 (v := 1919250036) hx hb hown (hts (.constantLong RX6 203 1919250036) (by decide +kernel)) dX6_statement_27 ?_
    obtain ⟨z_35, fz_35, hF⟩ := bd_at hF
    refine callV_int ([]) ([]) (w' := wX6 C a6 z_35.2 A6_32 G6) (As := [.long 1919250036]) (rest := [.int p1, .ref (a6 24)]) ⟨hx, hb, hml, hown, hts⟩ hK hA hZ (c_X6_takes l K D C a6 z_33.2 A6_32 G6 1919250036 z_35 fz_35) (cwV 1 hts gX6_statement_X6_takes rfl rfl rfl (by decide +kernel) ⟨Nat.le_of_ble_eq_true rfl, Nat.le_of_ble_eq_true rfl⟩) 0 rfl rfl rfl rfl hl.1 rfl (Nat.le_of_ble_eq_true rfl) ⟨Nat.zero_le _, Nat.zero_le _⟩ (by simp only [List.append_assoc, List.append_nil, List.nil_append]) (by simp only [List.append_assoc, List.append_nil, List.nil_append]) hP hD hS dX6_statement_30 (fun H locs hP hD hS => ?_)
    refine lv_if_eq (tgt := 40) hx hb dX6_statement_33 (by decide) (fun c_36 => ?_) (fun c_36 => ?_)
    · have hF := ifp hF c_36
      refine lv_aload_n hx hb dX6_statement_40 rfl (lv_at hl 0 rfl) ?_
      refine lv_ldc2 (v := 1885434484) hx hb hown (hts (.constantLong RX6 205 1885434484) (by decide +kernel)) dX6_statement_41 ?_
      obtain ⟨z_37, fz_37, hF⟩ := bd_at hF
      refine callV_int ([]) ([]) (w' := wX6 C a6 z_37.2 A6_32 G6) (As := [.long 1885434484]) (rest := [.int p1, .ref (a6 24)]) ⟨hx, hb, hml, hown, hts⟩ hK hA hZ (c_X6_takes l K D C a6 z_35.2 A6_32 G6 1885434484 z_37 fz_37) (cwV 1 hts gX6_statement_X6_takes rfl rfl rfl (by decide +kernel) ⟨Nat.le_of_ble_eq_true rfl, Nat.le_of_ble_eq_true rfl⟩) 0 rfl rfl rfl rfl hl.1 rfl (Nat.le_of_ble_eq_true rfl) ⟨Nat.zero_le _, Nat.zero_le _⟩ (by simp only [List.append_assoc, List.append_nil, List.nil_append]) (by simp only [List.append_assoc, List.append_nil, List.nil_append]) hP hD hS dX6_statement_44 (fun H locs hP hD hS => ?_)
      refine lv_if_eq (tgt := 54) hx hb dX6_statement_47 (by decide) (fun c_38 => ?_) (fun c_38 => ?_)
      · have hF := ifp hF c_38
        refine lv_iconst (v := -1) hx hb dX6_statement_54 (by decide) ?_
        exact bJ55 p1 (-1) p1 z_37.2 A6_32 hF _ _ _ hP hD hS (lv_sub hl [0, 1] rfl)
      · have hF := ifn hF c_38
        refine lv_iconst (v := 2) hx hb dX6_statement_50 (by decide) ?_
        refine lv_goto (tgt := 55) hx hb dX6_statement_51 (by decide) ?_
        exact bJ55 p1 2 p1 z_37.2 A6_32 hF _ _ _ hP hD hS (lv_sub hl [0, 1] rfl)
    · have hF := ifn hF c_36
      refine lv_iconst (v := 1) hx hb dX6_statement_36 (by decide) ?_
      refine lv_goto (tgt := 55) hx hb dX6_statement_37 (by decide) ?_
      exact bJ55 p1 1 p1 z_35.2 A6_32 hF _ _ _ hP hD hS (lv_sub hl [0, 1] rfl)
  · have hF := ifn hF c_34
    refine lv_iconst (v := 0) hx hb dX6_statement_22 (by decide) ?_
    refine lv_goto (tgt := 55) hx hb dX6_statement_23 (by decide) ?_
    exact bJ55 p1 0 p1 z_33.2 A6_32 hF _ _ _ hP hD hS (lv_sub hl [0, 1] rfl)
abbrev rmX6_hall : Room := { frames := 5, cells := 0, slots := 0, locals := 119 }
set_option maxRecDepth 100000 in
set_option maxHeartbeats 4000000 in
theorem c_X6_hall (l : Launch) (K : Kx) (D : va_G) (C : Nat → ClassId) (a6 : Nat → Nat) (S6 : Nat → Int32) (A6 : Nat → Nat → Int32) (G6 : Nat → Nat → Int64) (p1 : Int32) (z : Int32 × (Nat → Int32) × (Nat → Nat → Int32)) (hF : F_X6_hall S6 A6 p1 = some z) : MetI l yX6_hall wsX6_hall rmX6_hall K D (tyV C) (wX6 C a6 S6 A6 G6) [.ref (a6 0), .int p1] (wX6 C a6 z.2.1 z.2.2 G6) z.1 := by
  refine met_int (cc := cX6_hall) (maxL := 3) (ty := .int) (by decide +kernel) rfl (Nat.le_of_ble_eq_true rfl) ?_
  intro p e s m below meth c A Q ls ⟨hx, hb, hml, hown, hts, hK, hA, hZ⟩ hP hD hS hl hret
  have hown : s.vm.findClass RX6 = some m.cls := hown
  have hiX6 : ∀ w ∈ u_ws RX6 TX6 42, w ∈ wsX6_hall := by decide +kernel
  have hl : lv_has ls 3 [(0, .ref (a6 0)), (1, .int p1)] := hl
  unfold F_X6_hall at hF
  obtain ⟨J182, eJ182, hF⟩ := nm_ex hF
  have bJ182 : ∀ (x2 : Int32) (y0 : Int32) (S6 : Nat → Int32) (A6 : Nat → Nat → Int32), J182 x2 y0 S6 A6 = some z → ∀ (H : Heap) (locs : List Loc) (ls : Array Slot), va_P D vwCl (wX6 C a6 S6 A6 G6) H → va_D A (wX6 C a6 S6 A6 G6) → va_S A s.heap H locs → lv_has ls 3 [(0, .ref (a6 0)), (2, .int x2)] → W p l e rmX6_hall s m ([.ref (a6 0), .int p1] : List Value).toArray below meth c H locs 0 0 Q (F0 m 182 ls [.int y0, .ref (a6 0)]) := by
    intro x2 y0 S6 A6 hF H locs ls hP hD hS hl
    rw [eJ182] at hF
    refine va_put (D := D) (ci := 6) (v := .int y0) (ty := .int) (C := RX6) (T := TX6) (N := 42) hx hb hts hiX6 tyX6 tyX6_ok nmX6 hown hK hP hD hS 0 rfl rfl 20 (by decide) (hts (.fieldLink RX6 58 "PanoramaHouseModel" "fault" "I") (by decide +kernel)) (fun _ h9 => h9) rfl (by decide +kernel) rfl rfl (Nat.le_of_ble_eq_true rfl) dX6_hall_182 (fun H locs hP hD hS => ?_)
    obtain ⟨S6_1, eS6_1, hF⟩ := nm_ex hF
    have hP : va_P D vwCl (wX6 C a6 S6_1 A6 G6) H := by rw [eS6_1]; exact hP
    have hD : va_D A (wX6 C a6 S6_1 A6 G6) := by rw [eS6_1]; exact hD
    refine lv_iload_n hx hb dX6_hall_185 rfl (lv_at hl 1 rfl) ?_
    refine lv_if_ne (tgt := 191) hx hb dX6_hall_186 (by decide) (fun c_2 => ?_) (fun c_2 => ?_)
    · have hF := ifn hF c_2
      refine lv_aload_n hx hb dX6_hall_191 rfl (lv_at hl 0 rfl) ?_
      refine lv_dup hx hb dX6_hall_192 rfl ?_
      refine va_get (D := D) (ci := 6) (v := .int (S6_1 21)) (C := RX6) (T := TX6) (N := 42) hx hb hts hiX6 hown hK hP 0 rfl rfl 21 (by decide) (hts (.fieldLink RX6 214 "PanoramaHouseModel" "halls" "I") (by decide +kernel)) (fun _ h9 => h9) rfl dX6_hall_193 ?_
      refine lv_iconst (v := 1) hx hb dX6_hall_196 (by decide) ?_
      refine lv_iadd hx hb dX6_hall_197 ?_
      refine va_put (D := D) (ci := 6) (v := .int ((S6_1 21) + 1)) (ty := .int) (C := RX6) (T := TX6) (N := 42) hx hb hts hiX6 tyX6 tyX6_ok nmX6 hown hK hP hD hS 0 rfl rfl 21 (by decide) (hts (.fieldLink RX6 214 "PanoramaHouseModel" "halls" "I") (by decide +kernel)) (fun _ h9 => h9) rfl (by decide +kernel) rfl rfl (Nat.le_of_ble_eq_true rfl) dX6_hall_198 (fun H locs hP hD hS => ?_)
      obtain ⟨S6_3, eS6_3, hF⟩ := nm_ex hF
      have hP : va_P D vwCl (wX6 C a6 S6_3 A6 G6) H := by rw [eS6_3]; exact hP
      have hD : va_D A (wX6 C a6 S6_3 A6 G6) := by rw [eS6_3]; exact hD
      refine lv_aload_n hx hb dX6_hall_201 rfl (lv_at hl 0 rfl) ?_
      refine va_get (D := D) (ci := 6) (v := .int (S6_3 21)) (C := RX6) (T := TX6) (N := 42) hx hb hts hiX6 hown hK hP 0 rfl rfl 21 (by decide) (hts (.fieldLink RX6 214 "PanoramaHouseModel" "halls" "I") (by decide +kernel)) (fun _ h9 => h9) rfl dX6_hall_202 ?_
      refine lv_iconst (v := 1) hx hb dX6_hall_205 (by decide) ?_
      refine lv_isub hx hb dX6_hall_206 ?_
      cases hF
      exact hret _ _ _ _ dX6_hall_207 rfl hP hD hS
    · have hF := ifp hF c_2
      refine lv_iconst (v := -1) hx hb dX6_hall_189 (by decide) ?_
      cases hF
      exact hret _ _ _ _ dX6_hall_190 rfl hP hD hS
  obtain ⟨J169, eJ169, hF⟩ := nm_ex hF
  have bJ169 : ∀ (x2 : Int32) (S6 : Nat → Int32) (A6 : Nat → Nat → Int32), J169 x2 S6 A6 = some z → ∀ (H : Heap) (locs : List Loc) (ls : Array Slot), va_P D vwCl (wX6 C a6 S6 A6 G6) H → va_D A (wX6 C a6 S6 A6 G6) → va_S A s.heap H locs → lv_has ls 3 [(0, .ref (a6 0)), (2, .int x2)] → W p l e rmX6_hall s m ([.ref (a6 0), .int p1] : List Value).toArray below meth c H locs 0 0 Q (F0 m 169 ls []) := by
    intro x2 S6 A6 hF H locs ls hP hD hS hl
    rw [eJ169] at hF
    refine lv_aload_n hx hb dX6_hall_169 rfl (lv_at hl 0 rfl) ?_
    refine lv_iload_n hx hb dX6_hall_170 rfl (lv_at hl 1 rfl) ?_
    refine lv_if_eq (tgt := 178) hx hb dX6_hall_171 (by decide) (fun c_4 => ?_) (fun c_4 => ?_)
    · have hF := ifp hF c_4
      refine lv_aload_n hx hb dX6_hall_178 rfl (lv_at hl 0 rfl) ?_
      refine va_get (D := D) (ci := 6) (v := .int (S6 19)) (C := RX6) (T := TX6) (N := 42) hx hb hts hiX6 hown hK hP 0 rfl rfl 19 (by decide) (hts (.fieldLink RX6 168 "PanoramaHouseModel" "at" "I") (by decide +kernel)) (fun _ h9 => h9) rfl dX6_hall_179 ?_
      exact bJ182 x2 (S6 19) S6 A6 hF _ _ _ hP hD hS (lv_sub hl [0, 1] rfl)
    · have hF := ifn hF c_4
      refine lv_iconst (v := -1) hx hb dX6_hall_174 (by decide) ?_
      refine lv_goto (tgt := 182) hx hb dX6_hall_175 (by decide) ?_
      exact bJ182 x2 (-1) S6 A6 hF _ _ _ hP hD hS (lv_sub hl [0, 1] rfl)
  have bL83 : ∀ (n : Nat) (x2 : Int32) (S6 : Nat → Int32) (A6 : Nat → Nat → Int32), L_X6_hall_83 J169 n x2 S6 A6 = some z → ∀ (H : Heap) (locs : List Loc) (ls : Array Slot), va_P D vwCl (wX6 C a6 S6 A6 G6) H → va_D A (wX6 C a6 S6 A6 G6) → va_S A s.heap H locs → lv_has ls 3 [(0, .ref (a6 0)), (2, .int x2)] → W p l e rmX6_hall s m ([.ref (a6 0), .int p1] : List Value).toArray below meth c H locs 0 0 Q (F0 m 83 ls []) := by
    intro n
    induction n with
    | zero => intro x2 S6 A6 hF; rw [L_X6_hall_83.eq_1] at hF; cases hF
    | succ n ih83 =>
      intro x2 S6 A6 hF H locs ls hP hD hS hl
      rw [L_X6_hall_83.eq_2] at hF
      obtain ⟨J141, eJ141, hF⟩ := nm_ex hF
      have bJ141 : ∀ (y0 : Int32) (S6 : Nat → Int32) (A6 : Nat → Nat → Int32), J141 y0 S6 A6 = some z → ∀ (H : Heap) (locs : List Loc) (ls : Array Slot), va_P D vwCl (wX6 C a6 S6 A6 G6) H → va_D A (wX6 C a6 S6 A6 G6) → va_S A s.heap H locs → lv_has ls 3 [(0, .ref (a6 0))] → W p l e rmX6_hall s m ([.ref (a6 0), .int p1] : List Value).toArray below meth c H locs 0 0 Q (F0 m 141 ls [.int y0]) := by
        intro y0 S6 A6 hF H locs ls hP hD hS hl
        rw [eJ141] at hF
        refine lv_istore_n (lv' := [(2, .int y0), (0, .ref (a6 0))]) hx hb dX6_hall_141 rfl hl (by decide) rfl (fun ls hl => ?_)
        refine lv_iload_n hx hb dX6_hall_142 rfl (lv_at hl 0 rfl) ?_
        refine lv_if_ne (tgt := 149) hx hb dX6_hall_143 (by decide) (fun c_5 => ?_) (fun c_5 => ?_)
        · have hF := ifn hF c_5
          refine lv_aload_n hx hb dX6_hall_149 rfl (lv_at hl 1 rfl) ?_
          refine va_get (D := D) (ci := 6) (v := .ref (a6 23)) (C := RX6) (T := TX6) (N := 42) hx hb hts hiX6 hown hK hP 0 rfl rfl 22 (by decide) (hts (.fieldLink RX6 62 "PanoramaHouseModel" "statements" "[I") (by decide +kernel)) (fun _ h9 => h9) rfl dX6_hall_150 ?_
          refine lv_aload_n hx hb dX6_hall_153 rfl (lv_at hl 1 rfl) ?_
          refine va_get (D := D) (ci := 6) (v := .int (S6 21)) (C := RX6) (T := TX6) (N := 42) hx hb hts hiX6 hown hK hP 0 rfl rfl 21 (by decide) (hts (.fieldLink RX6 214 "PanoramaHouseModel" "halls" "I") (by decide +kernel)) (fun _ h9 => h9) rfl dX6_hall_154 ?_
          refine lv_dup2_11 hx hb dX6_hall_157 rfl rfl ?_
          obtain ⟨h_6, hF⟩ := ix_at hF
          refine va_iald hx hb hK hP 16 0 rfl rfl h_6 dX6_hall_158 ?_
          refine lv_iconst (v := 1) hx hb dX6_hall_159 (by decide) ?_
          refine lv_iadd hx hb dX6_hall_160 ?_
          obtain ⟨h_7, hF⟩ := ix_at hF
          refine va_iast hx hb hK hP hD hS 16 0 rfl rfl h_7 dX6_hall_161 (fun H locs hP hD hS => ?_)
          obtain ⟨A6_8, eA6_8, hF⟩ := nm_ex hF
          have hP : va_P D vwCl (wX6 C a6 S6 A6_8 G6) H := by rw [eA6_8]; exact hP
          have hD : va_D A (wX6 C a6 S6 A6_8 G6) := by rw [eA6_8]; exact hD
          refine lv_aload_n hx hb dX6_hall_162 rfl (lv_at hl 1 rfl) ?_
          obtain ⟨z_9, fz_9, hF⟩ := bd_at hF
          refine callV_void ([]) ([]) (w' := wX6 C a6 z_9 A6_8 G6) (As := []) (rest := []) ⟨hx, hb, hml, hown, hts⟩ hK hA hZ (c_X6_blanks l K D C a6 S6 A6_8 G6 z_9 fz_9) (cwV 0 hts gX6_hall_X6_blanks rfl rfl rfl (by decide +kernel) ⟨Nat.le_of_ble_eq_true rfl, Nat.le_of_ble_eq_true rfl⟩) 0 rfl rfl rfl rfl hl.1 rfl (Nat.le_of_ble_eq_true rfl) ⟨Nat.zero_le _, Nat.zero_le _⟩ (by simp only [List.append_assoc, List.append_nil, List.nil_append]) (by simp only [List.append_assoc, List.append_nil, List.nil_append]) hP hD hS dX6_hall_163 (fun H locs hP hD hS => ?_)
          refine lv_goto (tgt := 83) hx hb dX6_hall_166 (by decide) ?_
          exact ih83 y0 z_9 A6_8 hF _ _ _ hP hD hS (lv_sub hl [1, 0] rfl)
        · have hF := ifp hF c_5
          refine lv_goto (tgt := 83) hx hb dX6_hall_146 (by decide) ?_
          exact ih83 y0 S6 A6 hF _ _ _ hP hD hS (lv_sub hl [1, 0] rfl)
      obtain ⟨J140, eJ140, hF⟩ := nm_ex hF
      have bJ140 : ∀ (S6 : Nat → Int32) (A6 : Nat → Nat → Int32), J140 S6 A6 = some z → ∀ (H : Heap) (locs : List Loc) (ls : Array Slot), va_P D vwCl (wX6 C a6 S6 A6 G6) H → va_D A (wX6 C a6 S6 A6 G6) → va_S A s.heap H locs → lv_has ls 3 [(0, .ref (a6 0))] → W p l e rmX6_hall s m ([.ref (a6 0), .int p1] : List Value).toArray below meth c H locs 0 0 Q (F0 m 140 ls []) := by
        intro S6 A6 hF H locs ls hP hD hS hl
        rw [eJ140] at hF
        refine lv_iconst (v := 0) hx hb dX6_hall_140 (by decide) ?_
        exact bJ141 0 S6 A6 hF _ _ _ hP hD hS (lv_sub hl [0] rfl)
      refine lv_iload_n hx hb dX6_hall_83 rfl (lv_at hl 1 rfl) ?_
      refine lv_if_eq (tgt := 169) hx hb dX6_hall_84 (by decide) (fun c_10 => ?_) (fun c_10 => ?_)
      · have hF := ifp hF c_10
        exact bJ169 x2 S6 A6 hF _ _ _ hP hD hS (lv_sub hl [0, 1] rfl)
      · have hF := ifn hF c_10
        refine lv_aload_n hx hb dX6_hall_87 rfl (lv_at hl 0 rfl) ?_
        refine va_get (D := D) (ci := 6) (v := .int (S6 19)) (C := RX6) (T := TX6) (N := 42) hx hb hts hiX6 hown hK hP 0 rfl rfl 19 (by decide) (hts (.fieldLink RX6 168 "PanoramaHouseModel" "at" "I") (by decide +kernel)) (fun _ h9 => h9) rfl dX6_hall_88 ?_
        refine lv_aload_n hx hb dX6_hall_91 rfl (lv_at hl 0 rfl) ?_
        refine va_get (D := D) (ci := 6) (v := .int (S6 18)) (C := RX6) (T := TX6) (N := 42) hx hb hts hiX6 hown hK hP 0 rfl rfl 18 (by decide) (hts (.fieldLink RX6 171 "PanoramaHouseModel" "size" "I") (by decide +kernel)) (fun _ h9 => h9) rfl dX6_hall_92 ?_
        refine lv_icmp_ge (tgt := 169) hx hb dX6_hall_95 (by decide) (fun c_11 => ?_) (fun c_11 => ?_)
        · have hF := ifp hF c_11
          exact bJ169 x2 S6 A6 hF _ _ _ hP hD hS (lv_sub hl [0, 1] rfl)
        · have hF := ifn hF c_11
          refine lv_aload_n hx hb dX6_hall_98 rfl (lv_at hl 0 rfl) ?_
          refine va_get (D := D) (ci := 6) (v := .ref (a6 23)) (C := RX6) (T := TX6) (N := 42) hx hb hts hiX6 hown hK hP 0 rfl rfl 22 (by decide) (hts (.fieldLink RX6 62 "PanoramaHouseModel" "statements" "[I") (by decide +kernel)) (fun _ h9 => h9) rfl dX6_hall_99 ?_
          refine lv_aload_n hx hb dX6_hall_102 rfl (lv_at hl 0 rfl) ?_
          refine va_get (D := D) (ci := 6) (v := .int (S6 21)) (C := RX6) (T := TX6) (N := 42) hx hb hts hiX6 hown hK hP 0 rfl rfl 21 (by decide) (hts (.fieldLink RX6 214 "PanoramaHouseModel" "halls" "I") (by decide +kernel)) (fun _ h9 => h9) rfl dX6_hall_103 ?_
          obtain ⟨h_12, hF⟩ := ix_at hF
          refine va_iald hx hb hK hP 16 0 rfl rfl h_12 dX6_hall_106 ?_
          refine lv_bipush (v := 12) hx hb dX6_hall_107 (by decide) ?_
          refine lv_icmp_ge (tgt := 140) hx hb dX6_hall_109 (by decide) (fun c_13 => ?_) (fun c_13 => ?_)
          · have hF := ifp hF c_13
            exact bJ140 S6 A6 hF _ _ _ hP hD hS (lv_sub hl [0] rfl)
          · have hF := ifn hF c_13
            refine lv_aload_n hx hb dX6_hall_112 rfl (lv_at hl 0 rfl) ?_
            refine lv_bipush (v := 12) hx hb dX6_hall_113 (by decide) ?_
            refine lv_aload_n hx hb dX6_hall_115 rfl (lv_at hl 0 rfl) ?_
            refine va_get (D := D) (ci := 6) (v := .int (S6 21)) (C := RX6) (T := TX6) (N := 42) hx hb hts hiX6 hown hK hP 0 rfl rfl 21 (by decide) (hts (.fieldLink RX6 214 "PanoramaHouseModel" "halls" "I") (by decide +kernel)) (fun _ h9 => h9) rfl dX6_hall_116 ?_
            refine lv_imul hx hb dX6_hall_119 ?_
            refine lv_aload_n hx hb dX6_hall_120 rfl (lv_at hl 0 rfl) ?_
            refine va_get (D := D) (ci := 6) (v := .ref (a6 23)) (C := RX6) (T := TX6) (N := 42) hx hb hts hiX6 hown hK hP 0 rfl rfl 22 (by decide) (hts (.fieldLink RX6 62 "PanoramaHouseModel" "statements" "[I") (by decide +kernel)) (fun _ h9 => h9) rfl dX6_hall_121 ?_
            refine lv_aload_n hx hb dX6_hall_124 rfl (lv_at hl 0 rfl) ?_
            refine va_get (D := D) (ci := 6) (v := .int (S6 21)) (C := RX6) (T := TX6) (N := 42) hx hb hts hiX6 hown hK hP 0 rfl rfl 21 (by decide) (hts (.fieldLink RX6 214 "PanoramaHouseModel" "halls" "I") (by decide +kernel)) (fun _ h9 => h9) rfl dX6_hall_125 ?_
            obtain ⟨h_14, hF⟩ := ix_at hF
            refine va_iald hx hb hK hP 16 0 rfl rfl h_14 dX6_hall_128 ?_
            refine lv_iadd hx hb dX6_hall_129 ?_
            obtain ⟨z_15, fz_15, hF⟩ := bd_at hF
            refine callV_int ([]) ([]) (w' := wX6 C a6 z_15.2.1 z_15.2.2 G6) (As := [.int ((12 * (S6 21)) + (A6 22 (S6 21).toNatClampNeg))]) (rest := []) ⟨hx, hb, hml, hown, hts⟩ hK hA hZ (c_X6_statement l K D C a6 S6 A6 G6 ((12 * (S6 21)) + (A6 22 (S6 21).toNatClampNeg)) z_15 fz_15) (cwV 1 hts gX6_hall_X6_statement rfl rfl rfl (by decide +kernel) ⟨Nat.le_of_ble_eq_true rfl, Nat.le_of_ble_eq_true rfl⟩) 0 rfl rfl rfl rfl hl.1 rfl (Nat.le_of_ble_eq_true rfl) ⟨Nat.zero_le _, Nat.zero_le _⟩ (by simp only [List.append_assoc, List.append_nil, List.nil_append]) (by simp only [List.append_assoc, List.append_nil, List.nil_append]) hP hD hS dX6_hall_130 (fun H locs hP hD hS => ?_)
            refine lv_if_eq (tgt := 140) hx hb dX6_hall_133 (by decide) (fun c_16 => ?_) (fun c_16 => ?_)
            · have hF := ifp hF c_16
              exact bJ140 z_15.2.1 z_15.2.2 hF _ _ _ hP hD hS (lv_sub hl [0] rfl)
            · have hF := ifn hF c_16
              refine lv_iconst (v := 1) hx hb dX6_hall_136 (by decide) ?_
              refine lv_goto (tgt := 141) hx hb dX6_hall_137 (by decide) ?_
              exact bJ141 1 z_15.2.1 z_15.2.2 hF _ _ _ hP hD hS (lv_sub hl [0] rfl)
  obtain ⟨J52, eJ52, hF⟩ := nm_ex hF
  have bJ52 : ∀ (x1 : Int32) (S6 : Nat → Int32) (A6 : Nat → Nat → Int32), J52 x1 S6 A6 = some z → ∀ (H : Heap) (locs : List Loc) (ls : Array Slot), va_P D vwCl (wX6 C a6 S6 A6 G6) H → va_D A (wX6 C a6 S6 A6 G6) → va_S A s.heap H locs → lv_has ls 3 [(0, .ref (a6 0)), (1, .int x1)] → W p l e rmX6_hall s m ([.ref (a6 0), .int p1] : List Value).toArray below meth c H locs 0 0 Q (F0 m 52 ls []) := by
    intro x1 S6 A6 hF H locs ls hP hD hS hl
    rw [eJ52] at hF
    refine lv_aload_n hx hb dX6_hall_52 rfl (lv_at hl 0 rfl) ?_
    refine lv_iload_n hx hb dX6_hall_53 rfl (lv_at hl 1 rfl) ?_
    refine va_put (D := D) (ci := 6) (v := .int x1) (ty := .int) (C := RX6) (T := TX6) (N := 42) hx hb hts hiX6 tyX6 tyX6_ok nmX6 hown hK hP hD hS 0 rfl rfl 18 (by decide) (hts (.fieldLink RX6 171 "PanoramaHouseModel" "size" "I") (by decide +kernel)) (fun _ h9 => h9) rfl (by decide +kernel) rfl rfl (Nat.le_of_ble_eq_true rfl) dX6_hall_54 (fun H locs hP hD hS => ?_)
    obtain ⟨S6_17, eS6_17, hF⟩ := nm_ex hF
    have hP : va_P D vwCl (wX6 C a6 S6_17 A6 G6) H := by rw [eS6_17]; exact hP
    have hD : va_D A (wX6 C a6 S6_17 A6 G6) := by rw [eS6_17]; exact hD
    refine lv_aload_n hx hb dX6_hall_57 rfl (lv_at hl 0 rfl) ?_
    refine lv_iconst (v := 0) hx hb dX6_hall_58 (by decide) ?_
    refine va_put (D := D) (ci := 6) (v := .int 0) (ty := .int) (C := RX6) (T := TX6) (N := 42) hx hb hts hiX6 tyX6 tyX6_ok nmX6 hown hK hP hD hS 0 rfl rfl 17 (by decide) (hts (.fieldLink RX6 161 "PanoramaHouseModel" "taped" "I") (by decide +kernel)) (fun _ h9 => h9) rfl (by decide +kernel) rfl rfl (Nat.le_of_ble_eq_true rfl) dX6_hall_59 (fun H locs hP hD hS => ?_)
    obtain ⟨S6_18, eS6_18, hF⟩ := nm_ex hF
    have hP : va_P D vwCl (wX6 C a6 S6_18 A6 G6) H := by rw [eS6_18]; exact hP
    have hD : va_D A (wX6 C a6 S6_18 A6 G6) := by rw [eS6_18]; exact hD
    refine lv_aload_n hx hb dX6_hall_62 rfl (lv_at hl 0 rfl) ?_
    refine lv_iconst (v := 0) hx hb dX6_hall_63 (by decide) ?_
    refine va_put (D := D) (ci := 6) (v := .int 0) (ty := .int) (C := RX6) (T := TX6) (N := 42) hx hb hts hiX6 tyX6 tyX6_ok nmX6 hown hK hP hD hS 0 rfl rfl 19 (by decide) (hts (.fieldLink RX6 168 "PanoramaHouseModel" "at" "I") (by decide +kernel)) (fun _ h9 => h9) rfl (by decide +kernel) rfl rfl (Nat.le_of_ble_eq_true rfl) dX6_hall_64 (fun H locs hP hD hS => ?_)
    obtain ⟨S6_19, eS6_19, hF⟩ := nm_ex hF
    have hP : va_P D vwCl (wX6 C a6 S6_19 A6 G6) H := by rw [eS6_19]; exact hP
    have hD : va_D A (wX6 C a6 S6_19 A6 G6) := by rw [eS6_19]; exact hD
    refine lv_aload_n hx hb dX6_hall_67 rfl (lv_at hl 0 rfl) ?_
    refine va_get (D := D) (ci := 6) (v := .ref (a6 23)) (C := RX6) (T := TX6) (N := 42) hx hb hts hiX6 hown hK hP 0 rfl rfl 22 (by decide) (hts (.fieldLink RX6 62 "PanoramaHouseModel" "statements" "[I") (by decide +kernel)) (fun _ h9 => h9) rfl dX6_hall_68 ?_
    refine lv_aload_n hx hb dX6_hall_71 rfl (lv_at hl 0 rfl) ?_
    refine va_get (D := D) (ci := 6) (v := .int (S6_19 21)) (C := RX6) (T := TX6) (N := 42) hx hb hts hiX6 hown hK hP 0 rfl rfl 21 (by decide) (hts (.fieldLink RX6 214 "PanoramaHouseModel" "halls" "I") (by decide +kernel)) (fun _ h9 => h9) rfl dX6_hall_72 ?_
    refine lv_iconst (v := 0) hx hb dX6_hall_75 (by decide) ?_
    obtain ⟨h_20, hF⟩ := ix_at hF
    refine va_iast hx hb hK hP hD hS 16 0 rfl rfl h_20 dX6_hall_76 (fun H locs hP hD hS => ?_)
    obtain ⟨A6_21, eA6_21, hF⟩ := nm_ex hF
    have hP : va_P D vwCl (wX6 C a6 S6_19 A6_21 G6) H := by rw [eA6_21]; exact hP
    have hD : va_D A (wX6 C a6 S6_19 A6_21 G6) := by rw [eA6_21]; exact hD
    refine lv_iconst (v := 1) hx hb dX6_hall_77 (by decide) ?_
    refine lv_istore_n (lv' := [(2, .int 1), (0, .ref (a6 0)), (1, .int x1)]) hx hb dX6_hall_78 rfl hl (by decide) rfl (fun ls hl => ?_)
    refine lv_aload_n hx hb dX6_hall_79 rfl (lv_at hl 1 rfl) ?_
    obtain ⟨z_22, fz_22, hF⟩ := bd_at hF
    refine callV_void ([]) ([]) (w' := wX6 C a6 z_22 A6_21 G6) (As := []) (rest := []) ⟨hx, hb, hml, hown, hts⟩ hK hA hZ (c_X6_blanks l K D C a6 S6_19 A6_21 G6 z_22 fz_22) (cwV 0 hts gX6_hall_X6_blanks rfl rfl rfl (by decide +kernel) ⟨Nat.le_of_ble_eq_true rfl, Nat.le_of_ble_eq_true rfl⟩) 0 rfl rfl rfl rfl hl.1 rfl (Nat.le_of_ble_eq_true rfl) ⟨Nat.zero_le _, Nat.zero_le _⟩ (by simp only [List.append_assoc, List.append_nil, List.nil_append]) (by simp only [List.append_assoc, List.append_nil, List.nil_append]) hP hD hS dX6_hall_80 (fun H locs hP hD hS => ?_)
    exact bL83 FU 1 z_22 A6_21 hF _ _ _ hP hD hS (lv_sub hl [1, 0] rfl)
  have bL29 : ∀ (n : Nat) (x1 : Int32) (x2 : Int32) (S6 : Nat → Int32) (A6 : Nat → Nat → Int32), L_X6_hall_29 J52 n x1 x2 S6 A6 = some z → ∀ (H : Heap) (locs : List Loc) (ls : Array Slot), va_P D vwCl (wX6 C a6 S6 A6 G6) H → va_D A (wX6 C a6 S6 A6 G6) → va_S A s.heap H locs → lv_has ls 3 [(0, .ref (a6 0)), (1, .int x1), (2, .int x2)] → W p l e rmX6_hall s m ([.ref (a6 0), .int p1] : List Value).toArray below meth c H locs 0 0 Q (F0 m 29 ls []) := by
    intro n
    induction n with
    | zero => intro x1 x2 S6 A6 hF; rw [L_X6_hall_29.eq_1] at hF; cases hF
    | succ n ih29 =>
      intro x1 x2 S6 A6 hF H locs ls hP hD hS hl
      rw [L_X6_hall_29.eq_2] at hF
      refine lv_iload_n hx hb dX6_hall_29 rfl (lv_at hl 2 rfl) ?_
      refine lv_iload_n hx hb dX6_hall_30 rfl (lv_at hl 1 rfl) ?_
      refine lv_icmp_ge (tgt := 52) hx hb dX6_hall_31 (by decide) (fun c_23 => ?_) (fun c_23 => ?_)
      · have hF := ifp hF c_23
        exact bJ52 x1 S6 A6 hF _ _ _ hP hD hS (lv_sub hl [0, 1] rfl)
      · have hF := ifn hF c_23
        refine lv_aload_n hx hb dX6_hall_34 rfl (lv_at hl 0 rfl) ?_
        refine va_get (D := D) (ci := 6) (v := .ref (a6 17)) (C := RX6) (T := TX6) (N := 42) hx hb hts hiX6 hown hK hP 0 rfl rfl 16 (by decide) (hts (.fieldLink RX6 55 "PanoramaHouseModel" "text" "[B") (by decide +kernel)) (fun _ h9 => h9) rfl dX6_hall_35 ?_
        refine lv_iload_n hx hb dX6_hall_38 rfl (lv_at hl 2 rfl) ?_
        refine lv_aload_n hx hb dX6_hall_39 rfl (lv_at hl 0 rfl) ?_
        refine va_get (D := D) (ci := 6) (v := .ref (a6 16)) (C := RX6) (T := TX6) (N := 42) hx hb hts hiX6 hown hK hP 0 rfl rfl 15 (by decide) (hts (.fieldLink RX6 52 "PanoramaHouseModel" "tape" "[B") (by decide +kernel)) (fun _ h9 => h9) rfl dX6_hall_40 ?_
        refine lv_iload_n hx hb dX6_hall_43 rfl (lv_at hl 2 rfl) ?_
        obtain ⟨h_24, hF⟩ := ix_at hF
        refine va_bald hx hb hK hP 14 1 rfl rfl h_24 dX6_hall_44 ?_
        obtain ⟨h_25, hF⟩ := ix_at hF
        refine va_bast hx hb hK hP hD hS 15 1 rfl rfl h_25 dX6_hall_45 (fun H locs hP hD hS => ?_)
        obtain ⟨A6_26, eA6_26, hF⟩ := nm_ex hF
        have hP : va_P D vwCl (wX6 C a6 S6 A6_26 G6) H := by rw [eA6_26]; exact hP
        have hD : va_D A (wX6 C a6 S6 A6_26 G6) := by rw [eA6_26]; exact hD
        obtain ⟨v_27, ev_27⟩ : ∃ y : Int32, y = x2 + 1 := ⟨_, rfl⟩
        have hF := nm_at hF ev_27
        refine lv_iinc (v := v_27) (lv' := [(2, .int v_27), (0, .ref (a6 0)), (1, .int x1)]) hx hb dX6_hall_46 hl (k := 2) rfl (by rw [ev_27]; rfl) (by decide) rfl (fun ls hl => ?_)
        refine lv_goto (tgt := 29) hx hb dX6_hall_49 (by decide) ?_
        exact ih29 x1 v_27 S6 A6_26 hF _ _ _ hP hD hS (lv_sub hl [1, 2, 0] rfl)
  refine lv_iload_n hx hb dX6_hall_0 rfl (lv_at hl 1 rfl) ?_
  refine lv_iconst (v := 0) hx hb dX6_hall_1 (by decide) ?_
  refine lv_aload_n hx hb dX6_hall_2 rfl (lv_at hl 0 rfl) ?_
  refine va_get (D := D) (ci := 6) (v := .int (S6 17)) (C := RX6) (T := TX6) (N := 42) hx hb hts hiX6 hown hK hP 0 rfl rfl 17 (by decide) (hts (.fieldLink RX6 161 "PanoramaHouseModel" "taped" "I") (by decide +kernel)) (fun _ h9 => h9) rfl dX6_hall_3 ?_
  obtain ⟨z_28, fz_28, hF⟩ := bd_at hF
  refine callS_int (As := [.int p1, .int 0, .int (S6 17)]) (rest := []) ⟨hx, hb, hml, hown, hts⟩ hK hA hZ (c_X6_isIn l K D C p1 0 (S6 17) z_28 fz_28) (va_cwS 3 hts gX6_hall_X6_isIn rfl rfl rfl (by decide +kernel) ⟨Nat.le_of_ble_eq_true rfl, Nat.le_of_ble_eq_true rfl⟩) rfl hl.1 rfl (Nat.le_of_ble_eq_true rfl) ⟨Nat.zero_le _, Nat.zero_le _⟩ hP hS dX6_hall_6 (fun H locs hP hS => ?_)
  refine lv_if_ne (tgt := 15) hx hb dX6_hall_9 (by decide) (fun c_29 => ?_) (fun c_29 => ?_)
  · have hF := ifn hF c_29
    refine lv_aload_n hx hb dX6_hall_15 rfl (lv_at hl 0 rfl) ?_
    refine va_get (D := D) (ci := 6) (v := .int (S6 21)) (C := RX6) (T := TX6) (N := 42) hx hb hts hiX6 hown hK hP 0 rfl rfl 21 (by decide) (hts (.fieldLink RX6 214 "PanoramaHouseModel" "halls" "I") (by decide +kernel)) (fun _ h9 => h9) rfl dX6_hall_16 ?_
    refine lv_bipush (v := 12) hx hb dX6_hall_19 (by decide) ?_
    refine lv_icmp_ne (tgt := 27) hx hb dX6_hall_21 (by decide) (fun c_30 => ?_) (fun c_30 => ?_)
    · have hF := ifn hF c_30
      refine lv_iconst (v := 0) hx hb dX6_hall_27 (by decide) ?_
      refine lv_istore_n (lv' := [(2, .int 0), (0, .ref (a6 0)), (1, .int p1)]) hx hb dX6_hall_28 rfl hl (by decide) rfl (fun ls hl => ?_)
      exact bL29 FU p1 0 S6 A6 hF _ _ _ hP hD hS (lv_sub hl [1, 2, 0] rfl)
    · have hF := ifp hF c_30
      refine lv_bipush (v := -3) hx hb dX6_hall_24 (by decide) ?_
      cases hF
      exact hret _ _ _ _ dX6_hall_26 rfl hP hD hS
  · have hF := ifp hF c_29
    refine lv_bipush (v := -2) hx hb dX6_hall_12 (by decide) ?_
    cases hF
    exact hret _ _ _ _ dX6_hall_14 rfl hP hD hS
abbrev rmX6_fault : Room := { frames := 1, cells := 0, slots := 0, locals := 32 }
set_option maxRecDepth 100000 in
set_option maxHeartbeats 4000000 in
theorem c_X6_fault (l : Launch) (K : Kx) (D : va_G) (C : Nat → ClassId) (a6 : Nat → Nat) (S6 : Nat → Int32) (A6 : Nat → Nat → Int32) (G6 : Nat → Nat → Int64) (z : Int32) (hF : F_X6_fault S6 = some z) : MetI l yX6_fault wsX6_fault rmX6_fault K D (tyV C) (wX6 C a6 S6 A6 G6) [.ref (a6 0)] (wX6 C a6 S6 A6 G6) z := by
  refine met_int (cc := cX6_fault) (maxL := 1) (ty := .int) (by decide +kernel) rfl (Nat.le_of_ble_eq_true rfl) ?_
  intro p e s m below meth c A Q ls ⟨hx, hb, hml, hown, hts, hK, hA, hZ⟩ hP hD hS hl hret
  have hown : s.vm.findClass RX6 = some m.cls := hown
  have hiX6 : ∀ w ∈ u_ws RX6 TX6 42, w ∈ wsX6_fault := by decide +kernel
  have hl : lv_has ls 1 [(0, .ref (a6 0))] := hl
  unfold F_X6_fault at hF
  refine lv_aload_n hx hb dX6_fault_0 rfl (lv_at hl 0 rfl) ?_
  refine va_get (D := D) (ci := 6) (v := .int (S6 20)) (C := RX6) (T := TX6) (N := 42) hx hb hts hiX6 hown hK hP 0 rfl rfl 20 (by decide) (hts (.fieldLink RX6 58 "PanoramaHouseModel" "fault" "I") (by decide +kernel)) (fun _ h9 => h9) rfl dX6_fault_1 ?_
  cases hF
  exact hret _ _ _ _ dX6_fault_4 rfl hP hD hS
abbrev rmX6_lastOf : Room := { frames := 1, cells := 0, slots := 0, locals := 32 }
set_option maxRecDepth 100000 in
set_option maxHeartbeats 4000000 in
theorem c_X6_lastOf (l : Launch) (K : Kx) (D : va_G) (C : Nat → ClassId) (a6 : Nat → Nat) (S6 : Nat → Int32) (A6 : Nat → Nat → Int32) (G6 : Nat → Nat → Int64) (p1 : Int32) (p2 : Int32) (p3 : Int32) (z : Int32) (hF : F_X6_lastOf A6 p1 p2 p3 = some z) : MetI l yX6_lastOf wsX6_lastOf rmX6_lastOf K D (tyV C) (wX6 C a6 S6 A6 G6) [.ref (a6 0), .int p1, .int p2, .int p3] (wX6 C a6 S6 A6 G6) z := by
  refine met_int (cc := cX6_lastOf) (maxL := 6) (ty := .int) (by decide +kernel) rfl (Nat.le_of_ble_eq_true rfl) ?_
  intro p e s m below meth c A Q ls ⟨hx, hb, hml, hown, hts, hK, hA, hZ⟩ hP hD hS hl hret
  have hown : s.vm.findClass RX6 = some m.cls := hown
  have hiX6 : ∀ w ∈ u_ws RX6 TX6 42, w ∈ wsX6_lastOf := by decide +kernel
  have hl : lv_has ls 6 [(0, .ref (a6 0)), (1, .int p1), (2, .int p2), (3, .int p3)] := hl
  unfold F_X6_lastOf at hF
  obtain ⟨J51, eJ51, hF⟩ := nm_ex hF
  have bJ51 : ∀ (x4 : Int32), J51 x4 = some z → ∀ (H : Heap) (locs : List Loc) (ls : Array Slot), va_P D vwCl (wX6 C a6 S6 A6 G6) H → va_D A (wX6 C a6 S6 A6 G6) → va_S A s.heap H locs → lv_has ls 6 [(4, .int x4)] → W p l e rmX6_lastOf s m ([.ref (a6 0), .int p1, .int p2, .int p3] : List Value).toArray below meth c H locs 0 0 Q (F0 m 51 ls []) := by
    intro x4 hF H locs ls hP hD hS hl
    rw [eJ51] at hF
    refine lv_iload hx hb dX6_lastOf_51 (lv_at hl 0 rfl) ?_
    cases hF
    exact hret _ _ _ _ dX6_lastOf_53 rfl hP hD hS
  have bL9 : ∀ (n : Nat) (x1 : Int32) (x2 : Int32) (x4 : Int32) (x5 : Int32), L_X6_lastOf_9 A6 J51 n x1 x2 x4 x5 = some z → ∀ (H : Heap) (locs : List Loc) (ls : Array Slot), va_P D vwCl (wX6 C a6 S6 A6 G6) H → va_D A (wX6 C a6 S6 A6 G6) → va_S A s.heap H locs → lv_has ls 6 [(0, .ref (a6 0)), (1, .int x1), (2, .int x2), (4, .int x4), (5, .int x5)] → W p l e rmX6_lastOf s m ([.ref (a6 0), .int p1, .int p2, .int p3] : List Value).toArray below meth c H locs 0 0 Q (F0 m 9 ls []) := by
    intro n
    induction n with
    | zero => intro x1 x2 x4 x5 hF; rw [L_X6_lastOf_9.eq_1] at hF; cases hF
    | succ n ih9 =>
      intro x1 x2 x4 x5 hF H locs ls hP hD hS hl
      rw [L_X6_lastOf_9.eq_2] at hF
      obtain ⟨J45, eJ45, hF⟩ := nm_ex hF
      have bJ45 : ∀ (x1 : Int32) (x2 : Int32) (x4 : Int32) (x5 : Int32), J45 x1 x2 x4 x5 = some z → ∀ (H : Heap) (locs : List Loc) (ls : Array Slot), va_P D vwCl (wX6 C a6 S6 A6 G6) H → va_D A (wX6 C a6 S6 A6 G6) → va_S A s.heap H locs → lv_has ls 6 [(0, .ref (a6 0)), (1, .int x1), (2, .int x2), (4, .int x4), (5, .int x5)] → W p l e rmX6_lastOf s m ([.ref (a6 0), .int p1, .int p2, .int p3] : List Value).toArray below meth c H locs 0 0 Q (F0 m 45 ls []) := by
        intro x1 x2 x4 x5 hF H locs ls hP hD hS hl
        rw [eJ45] at hF
        obtain ⟨v_1, ev_1⟩ : ∃ y : Int32, y = x5 + 1 := ⟨_, rfl⟩
        have hF := nm_at hF ev_1
        refine lv_iinc (v := v_1) (lv' := [(5, .int v_1), (0, .ref (a6 0)), (1, .int x1), (2, .int x2), (4, .int x4)]) hx hb dX6_lastOf_45 hl (k := 4) rfl (by rw [ev_1]; rfl) (by decide) rfl (fun ls hl => ?_)
        refine lv_goto (tgt := 9) hx hb dX6_lastOf_48 (by decide) ?_
        exact ih9 x1 x2 x4 v_1 hF _ _ _ hP hD hS (lv_sub hl [1, 2, 3, 4, 0] rfl)
      refine lv_iload hx hb dX6_lastOf_9 (lv_at hl 4 rfl) ?_
      refine lv_bipush (v := 12) hx hb dX6_lastOf_11 (by decide) ?_
      refine lv_iload_n hx hb dX6_lastOf_13 rfl (lv_at hl 1 rfl) ?_
      refine lv_imul hx hb dX6_lastOf_14 ?_
      refine lv_aload_n hx hb dX6_lastOf_15 rfl (lv_at hl 0 rfl) ?_
      refine va_get (D := D) (ci := 6) (v := .ref (a6 23)) (C := RX6) (T := TX6) (N := 42) hx hb hts hiX6 hown hK hP 0 rfl rfl 22 (by decide) (hts (.fieldLink RX6 62 "PanoramaHouseModel" "statements" "[I") (by decide +kernel)) (fun _ h9 => h9) rfl dX6_lastOf_16 ?_
      refine lv_iload_n hx hb dX6_lastOf_19 rfl (lv_at hl 1 rfl) ?_
      obtain ⟨h_2, hF⟩ := ix_at hF
      refine va_iald hx hb hK hP 16 0 rfl rfl h_2 dX6_lastOf_20 ?_
      refine lv_iadd hx hb dX6_lastOf_21 ?_
      refine lv_icmp_ge (tgt := 51) hx hb dX6_lastOf_22 (by decide) (fun c_3 => ?_) (fun c_3 => ?_)
      · have hF := ifp hF c_3
        exact bJ51 x4 hF _ _ _ hP hD hS (lv_sub hl [3] rfl)
      · have hF := ifn hF c_3
        refine lv_aload_n hx hb dX6_lastOf_25 rfl (lv_at hl 0 rfl) ?_
        refine va_get (D := D) (ci := 6) (v := .ref (a6 24)) (C := RX6) (T := TX6) (N := 42) hx hb hts hiX6 hown hK hP 0 rfl rfl 23 (by decide) (hts (.fieldLink RX6 65 "PanoramaHouseModel" "kind" "[I") (by decide +kernel)) (fun _ h9 => h9) rfl dX6_lastOf_26 ?_
        refine lv_iload hx hb dX6_lastOf_29 (lv_at hl 4 rfl) ?_
        obtain ⟨h_4, hF⟩ := ix_at hF
        refine va_iald hx hb hK hP 17 0 rfl rfl h_4 dX6_lastOf_31 ?_
        refine lv_iload_n hx hb dX6_lastOf_32 rfl (lv_at hl 2 rfl) ?_
        refine lv_icmp_ne (tgt := 45) hx hb dX6_lastOf_33 (by decide) (fun c_5 => ?_) (fun c_5 => ?_)
        · have hF := ifn hF c_5
          exact bJ45 x1 x2 x4 x5 hF _ _ _ hP hD hS (lv_sub hl [0, 1, 2, 3, 4] rfl)
        · have hF := ifp hF c_5
          refine lv_aload_n hx hb dX6_lastOf_36 rfl (lv_at hl 0 rfl) ?_
          refine va_get (D := D) (ci := 6) (v := .ref (a6 25)) (C := RX6) (T := TX6) (N := 42) hx hb hts hiX6 hown hK hP 0 rfl rfl 24 (by decide) (hts (.fieldLink RX6 68 "PanoramaHouseModel" "gives" "[I") (by decide +kernel)) (fun _ h9 => h9) rfl dX6_lastOf_37 ?_
          refine lv_iload hx hb dX6_lastOf_40 (lv_at hl 4 rfl) ?_
          obtain ⟨h_6, hF⟩ := ix_at hF
          refine va_iald hx hb hK hP 18 0 rfl rfl h_6 dX6_lastOf_42 ?_
          refine lv_topi (fun v_7 ev_7 => ?_)
          have hF := nm_at hF ev_7
          refine lv_istore (lv' := [(4, .int v_7), (0, .ref (a6 0)), (1, .int x1), (2, .int x2), (5, .int x5)]) hx hb dX6_lastOf_43 hl (by decide) rfl (fun ls hl => ?_)
          exact bJ45 x1 x2 v_7 x5 hF _ _ _ hP hD hS (lv_sub hl [1, 2, 3, 0, 4] rfl)
  refine lv_iload_n hx hb dX6_lastOf_0 rfl (lv_at hl 3 rfl) ?_
  refine lv_istore (lv' := [(4, .int p3), (0, .ref (a6 0)), (1, .int p1), (2, .int p2), (3, .int p3)]) hx hb dX6_lastOf_1 hl (by decide) rfl (fun ls hl => ?_)
  refine lv_bipush (v := 12) hx hb dX6_lastOf_3 (by decide) ?_
  refine lv_iload_n hx hb dX6_lastOf_5 rfl (lv_at hl 2 rfl) ?_
  refine lv_imul hx hb dX6_lastOf_6 ?_
  refine lv_topi (fun v_8 ev_8 => ?_)
  have hF := nm_at hF ev_8
  refine lv_istore (lv' := [(5, .int v_8), (4, .int p3), (0, .ref (a6 0)), (1, .int p1), (2, .int p2), (3, .int p3)]) hx hb dX6_lastOf_7 hl (by decide) rfl (fun ls hl => ?_)
  exact bL9 FU p1 p2 p3 v_8 hF _ _ _ hP hD hS (lv_sub hl [2, 3, 4, 1, 0] rfl)
abbrev rmX6_partOf : Room := { frames := 1, cells := 0, slots := 0, locals := 32 }
set_option maxRecDepth 100000 in
set_option maxHeartbeats 4000000 in
theorem c_X6_partOf (l : Launch) (K : Kx) (D : va_G) (C : Nat → ClassId) (a6 : Nat → Nat) (S6 : Nat → Int32) (A6 : Nat → Nat → Int32) (G6 : Nat → Nat → Int64) (p1 : Int32) (p2 : Int32) (p3 : Int32) (p4 : Int32) (z : Int32) (hF : F_X6_partOf A6 p1 p2 p3 p4 = some z) : MetI l yX6_partOf wsX6_partOf rmX6_partOf K D (tyV C) (wX6 C a6 S6 A6 G6) [.ref (a6 0), .int p1, .int p2, .int p3, .int p4] (wX6 C a6 S6 A6 G6) z := by
  refine met_int (cc := cX6_partOf) (maxL := 9) (ty := .int) (by decide +kernel) rfl (Nat.le_of_ble_eq_true rfl) ?_
  intro p e s m below meth c A Q ls ⟨hx, hb, hml, hown, hts, hK, hA, hZ⟩ hP hD hS hl hret
  have hown : s.vm.findClass RX6 = some m.cls := hown
  have hiX6 : ∀ w ∈ u_ws RX6 TX6 42, w ∈ wsX6_partOf := by decide +kernel
  have hl : lv_has ls 9 [(0, .ref (a6 0)), (1, .int p1), (2, .int p2), (3, .int p3), (4, .int p4)] := hl
  unfold F_X6_partOf at hF
  obtain ⟨J199, eJ199, hF⟩ := nm_ex hF
  have bJ199 : J199 = some z → ∀ (H : Heap) (locs : List Loc) (ls : Array Slot), va_P D vwCl (wX6 C a6 S6 A6 G6) H → va_D A (wX6 C a6 S6 A6 G6) → va_S A s.heap H locs → lv_has ls 9 [] → W p l e rmX6_partOf s m ([.ref (a6 0), .int p1, .int p2, .int p3, .int p4] : List Value).toArray below meth c H locs 0 0 Q (F0 m 199 ls []) := by
    intro  hF H locs ls hP hD hS hl
    rw [eJ199] at hF
    refine lv_bipush (v := 50) hx hb dX6_partOf_199 (by decide) ?_
    cases hF
    exact hret _ _ _ _ dX6_partOf_201 rfl hP hD hS
  have bL6 : ∀ (n : Nat) (x1 : Int32) (x2 : Int32) (x3 : Int32) (x4 : Int32) (x5 : Int32), L_X6_partOf_6 A6 J199 n x1 x2 x3 x4 x5 = some z → ∀ (H : Heap) (locs : List Loc) (ls : Array Slot), va_P D vwCl (wX6 C a6 S6 A6 G6) H → va_D A (wX6 C a6 S6 A6 G6) → va_S A s.heap H locs → lv_has ls 9 [(0, .ref (a6 0)), (1, .int x1), (2, .int x2), (3, .int x3), (4, .int x4), (5, .int x5)] → W p l e rmX6_partOf s m ([.ref (a6 0), .int p1, .int p2, .int p3, .int p4] : List Value).toArray below meth c H locs 0 0 Q (F0 m 6 ls []) := by
    intro n
    induction n with
    | zero => intro x1 x2 x3 x4 x5 hF; rw [L_X6_partOf_6.eq_1] at hF; cases hF
    | succ n ih6 =>
      intro x1 x2 x3 x4 x5 hF H locs ls hP hD hS hl
      rw [L_X6_partOf_6.eq_2] at hF
      obtain ⟨J180, eJ180, hF⟩ := nm_ex hF
      have bJ180 : ∀ (x1 : Int32) (x2 : Int32) (x3 : Int32) (x4 : Int32) (x5 : Int32) (x6 : Int32), J180 x1 x2 x3 x4 x5 x6 = some z → ∀ (H : Heap) (locs : List Loc) (ls : Array Slot), va_P D vwCl (wX6 C a6 S6 A6 G6) H → va_D A (wX6 C a6 S6 A6 G6) → va_S A s.heap H locs → lv_has ls 9 [(0, .ref (a6 0)), (1, .int x1), (2, .int x2), (3, .int x3), (4, .int x4), (5, .int x5), (6, .int x6)] → W p l e rmX6_partOf s m ([.ref (a6 0), .int p1, .int p2, .int p3, .int p4] : List Value).toArray below meth c H locs 0 0 Q (F0 m 180 ls []) := by
        intro x1 x2 x3 x4 x5 x6 hF H locs ls hP hD hS hl
        rw [eJ180] at hF
        refine lv_iload hx hb dX6_partOf_180 (lv_at hl 6 rfl) ?_
        refine lv_if_eq (tgt := 193) hx hb dX6_partOf_182 (by decide) (fun c_1 => ?_) (fun c_1 => ?_)
        · have hF := ifp hF c_1
          obtain ⟨v_2, ev_2⟩ : ∃ y : Int32, y = x5 + 1 := ⟨_, rfl⟩
          have hF := nm_at hF ev_2
          refine lv_iinc (v := v_2) (lv' := [(5, .int v_2), (0, .ref (a6 0)), (1, .int x1), (2, .int x2), (3, .int x3), (4, .int x4), (6, .int x6)]) hx hb dX6_partOf_193 hl (k := 5) rfl (by rw [ev_2]; rfl) (by decide) rfl (fun ls hl => ?_)
          refine lv_goto (tgt := 6) hx hb dX6_partOf_196 (by decide) ?_
          exact ih6 x1 x2 x3 x4 v_2 hF _ _ _ hP hD hS (lv_sub hl [1, 2, 3, 4, 5, 0] rfl)
        · have hF := ifn hF c_1
          refine lv_aload_n hx hb dX6_partOf_185 rfl (lv_at hl 0 rfl) ?_
          refine va_get (D := D) (ci := 6) (v := .ref (a6 25)) (C := RX6) (T := TX6) (N := 42) hx hb hts hiX6 hown hK hP 0 rfl rfl 24 (by decide) (hts (.fieldLink RX6 68 "PanoramaHouseModel" "gives" "[I") (by decide +kernel)) (fun _ h9 => h9) rfl dX6_partOf_186 ?_
          refine lv_iload hx hb dX6_partOf_189 (lv_at hl 5 rfl) ?_
          obtain ⟨h_3, hF⟩ := ix_at hF
          refine va_iald hx hb hK hP 18 0 rfl rfl h_3 dX6_partOf_191 ?_
          cases hF
          exact hret _ _ _ _ dX6_partOf_192 rfl hP hD hS
      have bL46 : ∀ (n : Nat) (x1 : Int32) (x2 : Int32) (x3 : Int32) (x4 : Int32) (x5 : Int32) (x6 : Int32) (x7 : Int32), L_X6_partOf_46 A6 J180 n x1 x2 x3 x4 x5 x6 x7 = some z → ∀ (H : Heap) (locs : List Loc) (ls : Array Slot), va_P D vwCl (wX6 C a6 S6 A6 G6) H → va_D A (wX6 C a6 S6 A6 G6) → va_S A s.heap H locs → lv_has ls 9 [(0, .ref (a6 0)), (1, .int x1), (2, .int x2), (3, .int x3), (4, .int x4), (5, .int x5), (6, .int x6), (7, .int x7)] → W p l e rmX6_partOf s m ([.ref (a6 0), .int p1, .int p2, .int p3, .int p4] : List Value).toArray below meth c H locs 0 0 Q (F0 m 46 ls []) := by
        intro n
        induction n with
        | zero => intro x1 x2 x3 x4 x5 x6 x7 hF; rw [L_X6_partOf_46.eq_1] at hF; cases hF
        | succ n ih46 =>
          intro x1 x2 x3 x4 x5 x6 x7 hF H locs ls hP hD hS hl
          rw [L_X6_partOf_46.eq_2] at hF
          obtain ⟨J172, eJ172, hF⟩ := nm_ex hF
          have bJ172 : ∀ (x1 : Int32) (x2 : Int32) (x3 : Int32) (x4 : Int32) (x5 : Int32) (x7 : Int32) (y0 : Int32), J172 x1 x2 x3 x4 x5 x7 y0 = some z → ∀ (H : Heap) (locs : List Loc) (ls : Array Slot), va_P D vwCl (wX6 C a6 S6 A6 G6) H → va_D A (wX6 C a6 S6 A6 G6) → va_S A s.heap H locs → lv_has ls 9 [(0, .ref (a6 0)), (1, .int x1), (2, .int x2), (3, .int x3), (4, .int x4), (5, .int x5), (7, .int x7)] → W p l e rmX6_partOf s m ([.ref (a6 0), .int p1, .int p2, .int p3, .int p4] : List Value).toArray below meth c H locs 0 0 Q (F0 m 172 ls [.int y0]) := by
            intro x1 x2 x3 x4 x5 x7 y0 hF H locs ls hP hD hS hl
            rw [eJ172] at hF
            refine lv_istore (lv' := [(6, .int y0), (0, .ref (a6 0)), (1, .int x1), (2, .int x2), (3, .int x3), (4, .int x4), (5, .int x5), (7, .int x7)]) hx hb dX6_partOf_172 hl (by decide) rfl (fun ls hl => ?_)
            obtain ⟨v_4, ev_4⟩ : ∃ y : Int32, y = x7 + 1 := ⟨_, rfl⟩
            have hF := nm_at hF ev_4
            refine lv_iinc (v := v_4) (lv' := [(7, .int v_4), (6, .int y0), (0, .ref (a6 0)), (1, .int x1), (2, .int x2), (3, .int x3), (4, .int x4), (5, .int x5)]) hx hb dX6_partOf_174 hl (k := 7) rfl (by rw [ev_4]; rfl) (by decide) rfl (fun ls hl => ?_)
            refine lv_goto (tgt := 46) hx hb dX6_partOf_177 (by decide) ?_
            exact ih46 x1 x2 x3 x4 x5 y0 v_4 hF _ _ _ hP hD hS (lv_sub hl [2, 3, 4, 5, 6, 7, 1, 0] rfl)
          obtain ⟨J171, eJ171, hF⟩ := nm_ex hF
          have bJ171 : ∀ (x1 : Int32) (x2 : Int32) (x3 : Int32) (x4 : Int32) (x5 : Int32) (x7 : Int32), J171 x1 x2 x3 x4 x5 x7 = some z → ∀ (H : Heap) (locs : List Loc) (ls : Array Slot), va_P D vwCl (wX6 C a6 S6 A6 G6) H → va_D A (wX6 C a6 S6 A6 G6) → va_S A s.heap H locs → lv_has ls 9 [(0, .ref (a6 0)), (1, .int x1), (2, .int x2), (3, .int x3), (4, .int x4), (5, .int x5), (7, .int x7)] → W p l e rmX6_partOf s m ([.ref (a6 0), .int p1, .int p2, .int p3, .int p4] : List Value).toArray below meth c H locs 0 0 Q (F0 m 171 ls []) := by
            intro x1 x2 x3 x4 x5 x7 hF H locs ls hP hD hS hl
            rw [eJ171] at hF
            refine lv_iconst (v := 0) hx hb dX6_partOf_171 (by decide) ?_
            exact bJ172 x1 x2 x3 x4 x5 x7 0 hF _ _ _ hP hD hS (lv_sub hl [0, 1, 2, 3, 4, 5, 6] rfl)
          obtain ⟨J167, eJ167, hF⟩ := nm_ex hF
          have bJ167 : ∀ (x1 : Int32) (x2 : Int32) (x3 : Int32) (x4 : Int32) (x5 : Int32) (x7 : Int32), J167 x1 x2 x3 x4 x5 x7 = some z → ∀ (H : Heap) (locs : List Loc) (ls : Array Slot), va_P D vwCl (wX6 C a6 S6 A6 G6) H → va_D A (wX6 C a6 S6 A6 G6) → va_S A s.heap H locs → lv_has ls 9 [(0, .ref (a6 0)), (1, .int x1), (2, .int x2), (3, .int x3), (4, .int x4), (5, .int x5), (7, .int x7)] → W p l e rmX6_partOf s m ([.ref (a6 0), .int p1, .int p2, .int p3, .int p4] : List Value).toArray below meth c H locs 0 0 Q (F0 m 167 ls []) := by
            intro x1 x2 x3 x4 x5 x7 hF H locs ls hP hD hS hl
            rw [eJ167] at hF
            refine lv_iconst (v := 1) hx hb dX6_partOf_167 (by decide) ?_
            refine lv_goto (tgt := 172) hx hb dX6_partOf_168 (by decide) ?_
            exact bJ172 x1 x2 x3 x4 x5 x7 1 hF _ _ _ hP hD hS (lv_sub hl [0, 1, 2, 3, 4, 5, 6] rfl)
          obtain ⟨J94, eJ94, hF⟩ := nm_ex hF
          have bJ94 : ∀ (x1 : Int32) (x2 : Int32) (x3 : Int32) (x4 : Int32) (x5 : Int32) (x6 : Int32) (x7 : Int32) (y0 : Int32), J94 x1 x2 x3 x4 x5 x6 x7 y0 = some z → ∀ (H : Heap) (locs : List Loc) (ls : Array Slot), va_P D vwCl (wX6 C a6 S6 A6 G6) H → va_D A (wX6 C a6 S6 A6 G6) → va_S A s.heap H locs → lv_has ls 9 [(0, .ref (a6 0)), (1, .int x1), (2, .int x2), (3, .int x3), (4, .int x4), (5, .int x5), (6, .int x6), (7, .int x7)] → W p l e rmX6_partOf s m ([.ref (a6 0), .int p1, .int p2, .int p3, .int p4] : List Value).toArray below meth c H locs 0 0 Q (F0 m 94 ls [.int y0]) := by
            intro x1 x2 x3 x4 x5 x6 x7 y0 hF H locs ls hP hD hS hl
            rw [eJ94] at hF
            refine lv_istore (lv' := [(8, .int y0), (0, .ref (a6 0)), (1, .int x1), (2, .int x2), (3, .int x3), (4, .int x4), (5, .int x5), (6, .int x6), (7, .int x7)]) hx hb dX6_partOf_94 hl (by decide) rfl (fun ls hl => ?_)
            refine lv_iload hx hb dX6_partOf_96 (lv_at hl 7 rfl) ?_
            refine lv_if_eq (tgt := 171) hx hb dX6_partOf_98 (by decide) (fun c_5 => ?_) (fun c_5 => ?_)
            · have hF := ifp hF c_5
              exact bJ171 x1 x2 x3 x4 x5 x7 hF _ _ _ hP hD hS (lv_sub hl [1, 2, 3, 4, 5, 6, 8] rfl)
            · have hF := ifn hF c_5
              refine lv_aload_n hx hb dX6_partOf_101 rfl (lv_at hl 1 rfl) ?_
              refine va_get (D := D) (ci := 6) (v := .ref (a6 28)) (C := RX6) (T := TX6) (N := 42) hx hb hts hiX6 hown hK hP 0 rfl rfl 27 (by decide) (hts (.fieldLink RX6 77 "PanoramaHouseModel" "testSign" "[I") (by decide +kernel)) (fun _ h9 => h9) rfl dX6_partOf_102 ?_
              refine lv_iload hx hb dX6_partOf_105 (lv_at hl 8 rfl) ?_
              obtain ⟨h_6, hF⟩ := ix_at hF
              refine va_iald hx hb hK hP 21 0 rfl rfl h_6 dX6_partOf_107 ?_
              refine lv_bipush (v := 60) hx hb dX6_partOf_108 (by decide) ?_
              refine lv_icmp_ne (tgt := 128) hx hb dX6_partOf_110 (by decide) (fun c_7 => ?_) (fun c_7 => ?_)
              · have hF := ifn hF c_7
                refine lv_aload_n hx hb dX6_partOf_128 rfl (lv_at hl 1 rfl) ?_
                refine va_get (D := D) (ci := 6) (v := .ref (a6 28)) (C := RX6) (T := TX6) (N := 42) hx hb hts hiX6 hown hK hP 0 rfl rfl 27 (by decide) (hts (.fieldLink RX6 77 "PanoramaHouseModel" "testSign" "[I") (by decide +kernel)) (fun _ h9 => h9) rfl dX6_partOf_129 ?_
                refine lv_iload hx hb dX6_partOf_132 (lv_at hl 8 rfl) ?_
                obtain ⟨h_8, hF⟩ := ix_at hF
                refine va_iald hx hb hK hP 21 0 rfl rfl h_8 dX6_partOf_134 ?_
                refine lv_bipush (v := 62) hx hb dX6_partOf_135 (by decide) ?_
                refine lv_icmp_ne (tgt := 155) hx hb dX6_partOf_137 (by decide) (fun c_9 => ?_) (fun c_9 => ?_)
                · have hF := ifn hF c_9
                  refine lv_iload hx hb dX6_partOf_155 (lv_at hl 0 rfl) ?_
                  refine lv_aload_n hx hb dX6_partOf_157 rfl (lv_at hl 1 rfl) ?_
                  refine va_get (D := D) (ci := 6) (v := .ref (a6 29)) (C := RX6) (T := TX6) (N := 42) hx hb hts hiX6 hown hK hP 0 rfl rfl 28 (by decide) (hts (.fieldLink RX6 80 "PanoramaHouseModel" "testNumber" "[I") (by decide +kernel)) (fun _ h9 => h9) rfl dX6_partOf_158 ?_
                  refine lv_iload hx hb dX6_partOf_161 (lv_at hl 8 rfl) ?_
                  obtain ⟨h_10, hF⟩ := ix_at hF
                  refine va_iald hx hb hK hP 22 0 rfl rfl h_10 dX6_partOf_163 ?_
                  refine lv_icmp_ne (tgt := 171) hx hb dX6_partOf_164 (by decide) (fun c_11 => ?_) (fun c_11 => ?_)
                  · have hF := ifn hF c_11
                    exact bJ171 x1 x2 x3 x4 x5 x7 hF _ _ _ hP hD hS (lv_sub hl [1, 2, 3, 4, 5, 6, 8] rfl)
                  · have hF := ifp hF c_11
                    exact bJ167 x1 x2 x3 x4 x5 x7 hF _ _ _ hP hD hS (lv_sub hl [1, 2, 3, 4, 5, 6, 8] rfl)
                · have hF := ifp hF c_9
                  refine lv_iload hx hb dX6_partOf_140 (lv_at hl 0 rfl) ?_
                  refine lv_aload_n hx hb dX6_partOf_142 rfl (lv_at hl 1 rfl) ?_
                  refine va_get (D := D) (ci := 6) (v := .ref (a6 29)) (C := RX6) (T := TX6) (N := 42) hx hb hts hiX6 hown hK hP 0 rfl rfl 28 (by decide) (hts (.fieldLink RX6 80 "PanoramaHouseModel" "testNumber" "[I") (by decide +kernel)) (fun _ h9 => h9) rfl dX6_partOf_143 ?_
                  refine lv_iload hx hb dX6_partOf_146 (lv_at hl 8 rfl) ?_
                  obtain ⟨h_12, hF⟩ := ix_at hF
                  refine va_iald hx hb hK hP 22 0 rfl rfl h_12 dX6_partOf_148 ?_
                  refine lv_icmp_le (tgt := 171) hx hb dX6_partOf_149 (by decide) (fun c_13 => ?_) (fun c_13 => ?_)
                  · have hF := ifp hF c_13
                    exact bJ171 x1 x2 x3 x4 x5 x7 hF _ _ _ hP hD hS (lv_sub hl [1, 2, 3, 4, 5, 6, 8] rfl)
                  · have hF := ifn hF c_13
                    refine lv_goto (tgt := 167) hx hb dX6_partOf_152 (by decide) ?_
                    exact bJ167 x1 x2 x3 x4 x5 x7 hF _ _ _ hP hD hS (lv_sub hl [1, 2, 3, 4, 5, 6, 8] rfl)
              · have hF := ifp hF c_7
                refine lv_iload hx hb dX6_partOf_113 (lv_at hl 0 rfl) ?_
                refine lv_aload_n hx hb dX6_partOf_115 rfl (lv_at hl 1 rfl) ?_
                refine va_get (D := D) (ci := 6) (v := .ref (a6 29)) (C := RX6) (T := TX6) (N := 42) hx hb hts hiX6 hown hK hP 0 rfl rfl 28 (by decide) (hts (.fieldLink RX6 80 "PanoramaHouseModel" "testNumber" "[I") (by decide +kernel)) (fun _ h9 => h9) rfl dX6_partOf_116 ?_
                refine lv_iload hx hb dX6_partOf_119 (lv_at hl 8 rfl) ?_
                obtain ⟨h_14, hF⟩ := ix_at hF
                refine va_iald hx hb hK hP 22 0 rfl rfl h_14 dX6_partOf_121 ?_
                refine lv_icmp_ge (tgt := 171) hx hb dX6_partOf_122 (by decide) (fun c_15 => ?_) (fun c_15 => ?_)
                · have hF := ifp hF c_15
                  exact bJ171 x1 x2 x3 x4 x5 x7 hF _ _ _ hP hD hS (lv_sub hl [1, 2, 3, 4, 5, 6, 8] rfl)
                · have hF := ifn hF c_15
                  refine lv_goto (tgt := 167) hx hb dX6_partOf_125 (by decide) ?_
                  exact bJ167 x1 x2 x3 x4 x5 x7 hF _ _ _ hP hD hS (lv_sub hl [1, 2, 3, 4, 5, 6, 8] rfl)
          refine lv_iload hx hb dX6_partOf_46 (lv_at hl 7 rfl) ?_
          refine lv_iconst (v := 3) hx hb dX6_partOf_48 (by decide) ?_
          refine lv_iload hx hb dX6_partOf_49 (lv_at hl 5 rfl) ?_
          refine lv_imul hx hb dX6_partOf_51 ?_
          refine lv_aload_n hx hb dX6_partOf_52 rfl (lv_at hl 0 rfl) ?_
          refine va_get (D := D) (ci := 6) (v := .ref (a6 26)) (C := RX6) (T := TX6) (N := 42) hx hb hts hiX6 hown hK hP 0 rfl rfl 25 (by decide) (hts (.fieldLink RX6 71 "PanoramaHouseModel" "testMany" "[I") (by decide +kernel)) (fun _ h9 => h9) rfl dX6_partOf_53 ?_
          refine lv_iload hx hb dX6_partOf_56 (lv_at hl 5 rfl) ?_
          obtain ⟨h_16, hF⟩ := ix_at hF
          refine va_iald hx hb hK hP 19 0 rfl rfl h_16 dX6_partOf_58 ?_
          refine lv_iadd hx hb dX6_partOf_59 ?_
          refine lv_icmp_ge (tgt := 180) hx hb dX6_partOf_60 (by decide) (fun c_17 => ?_) (fun c_17 => ?_)
          · have hF := ifp hF c_17
            exact bJ180 x1 x2 x3 x4 x5 x6 hF _ _ _ hP hD hS (lv_sub hl [0, 1, 2, 3, 4, 5, 6] rfl)
          · have hF := ifn hF c_17
            refine lv_aload_n hx hb dX6_partOf_63 rfl (lv_at hl 0 rfl) ?_
            refine va_get (D := D) (ci := 6) (v := .ref (a6 27)) (C := RX6) (T := TX6) (N := 42) hx hb hts hiX6 hown hK hP 0 rfl rfl 26 (by decide) (hts (.fieldLink RX6 74 "PanoramaHouseModel" "testName" "[I") (by decide +kernel)) (fun _ h9 => h9) rfl dX6_partOf_64 ?_
            refine lv_iload hx hb dX6_partOf_67 (lv_at hl 7 rfl) ?_
            obtain ⟨h_18, hF⟩ := ix_at hF
            refine va_iald hx hb hK hP 20 0 rfl rfl h_18 dX6_partOf_69 ?_
            refine lv_if_ne (tgt := 77) hx hb dX6_partOf_70 (by decide) (fun c_19 => ?_) (fun c_19 => ?_)
            · have hF := ifn hF c_19
              refine lv_aload_n hx hb dX6_partOf_77 rfl (lv_at hl 0 rfl) ?_
              refine va_get (D := D) (ci := 6) (v := .ref (a6 27)) (C := RX6) (T := TX6) (N := 42) hx hb hts hiX6 hown hK hP 0 rfl rfl 26 (by decide) (hts (.fieldLink RX6 74 "PanoramaHouseModel" "testName" "[I") (by decide +kernel)) (fun _ h9 => h9) rfl dX6_partOf_78 ?_
              refine lv_iload hx hb dX6_partOf_81 (lv_at hl 7 rfl) ?_
              obtain ⟨h_20, hF⟩ := ix_at hF
              refine va_iald hx hb hK hP 20 0 rfl rfl h_20 dX6_partOf_83 ?_
              refine lv_iconst (v := 1) hx hb dX6_partOf_84 (by decide) ?_
              refine lv_icmp_ne (tgt := 92) hx hb dX6_partOf_85 (by decide) (fun c_21 => ?_) (fun c_21 => ?_)
              · have hF := ifn hF c_21
                refine lv_iload hx hb dX6_partOf_92 (lv_at hl 4 rfl) ?_
                exact bJ94 x1 x2 x3 x4 x5 x6 x7 x4 hF _ _ _ hP hD hS (lv_sub hl [0, 1, 2, 3, 4, 5, 6, 7] rfl)
              · have hF := ifp hF c_21
                refine lv_iload_n hx hb dX6_partOf_88 rfl (lv_at hl 3 rfl) ?_
                refine lv_goto (tgt := 94) hx hb dX6_partOf_89 (by decide) ?_
                exact bJ94 x1 x2 x3 x4 x5 x6 x7 x3 hF _ _ _ hP hD hS (lv_sub hl [0, 1, 2, 3, 4, 5, 6, 7] rfl)
            · have hF := ifp hF c_19
              refine lv_iload_n hx hb dX6_partOf_73 rfl (lv_at hl 2 rfl) ?_
              refine lv_goto (tgt := 94) hx hb dX6_partOf_74 (by decide) ?_
              exact bJ94 x1 x2 x3 x4 x5 x6 x7 x2 hF _ _ _ hP hD hS (lv_sub hl [0, 1, 2, 3, 4, 5, 6, 7] rfl)
      obtain ⟨J38, eJ38, hF⟩ := nm_ex hF
      have bJ38 : ∀ (x1 : Int32) (x2 : Int32) (x3 : Int32) (x4 : Int32) (x5 : Int32) (y0 : Int32), J38 x1 x2 x3 x4 x5 y0 = some z → ∀ (H : Heap) (locs : List Loc) (ls : Array Slot), va_P D vwCl (wX6 C a6 S6 A6 G6) H → va_D A (wX6 C a6 S6 A6 G6) → va_S A s.heap H locs → lv_has ls 9 [(0, .ref (a6 0)), (1, .int x1), (2, .int x2), (3, .int x3), (4, .int x4), (5, .int x5)] → W p l e rmX6_partOf s m ([.ref (a6 0), .int p1, .int p2, .int p3, .int p4] : List Value).toArray below meth c H locs 0 0 Q (F0 m 38 ls [.int y0]) := by
        intro x1 x2 x3 x4 x5 y0 hF H locs ls hP hD hS hl
        rw [eJ38] at hF
        refine lv_istore (lv' := [(6, .int y0), (0, .ref (a6 0)), (1, .int x1), (2, .int x2), (3, .int x3), (4, .int x4), (5, .int x5)]) hx hb dX6_partOf_38 hl (by decide) rfl (fun ls hl => ?_)
        refine lv_iconst (v := 3) hx hb dX6_partOf_40 (by decide) ?_
        refine lv_iload hx hb dX6_partOf_41 (lv_at hl 6 rfl) ?_
        refine lv_imul hx hb dX6_partOf_43 ?_
        refine lv_topi (fun v_22 ev_22 => ?_)
        have hF := nm_at hF ev_22
        refine lv_istore (lv' := [(7, .int v_22), (6, .int y0), (0, .ref (a6 0)), (1, .int x1), (2, .int x2), (3, .int x3), (4, .int x4), (5, .int x5)]) hx hb dX6_partOf_44 hl (by decide) rfl (fun ls hl => ?_)
        exact bL46 FU x1 x2 x3 x4 x5 y0 v_22 hF _ _ _ hP hD hS (lv_sub hl [2, 3, 4, 5, 6, 7, 1, 0] rfl)
      refine lv_iload hx hb dX6_partOf_6 (lv_at hl 5 rfl) ?_
      refine lv_bipush (v := 12) hx hb dX6_partOf_8 (by decide) ?_
      refine lv_iload_n hx hb dX6_partOf_10 rfl (lv_at hl 1 rfl) ?_
      refine lv_imul hx hb dX6_partOf_11 ?_
      refine lv_aload_n hx hb dX6_partOf_12 rfl (lv_at hl 0 rfl) ?_
      refine va_get (D := D) (ci := 6) (v := .ref (a6 23)) (C := RX6) (T := TX6) (N := 42) hx hb hts hiX6 hown hK hP 0 rfl rfl 22 (by decide) (hts (.fieldLink RX6 62 "PanoramaHouseModel" "statements" "[I") (by decide +kernel)) (fun _ h9 => h9) rfl dX6_partOf_13 ?_
      refine lv_iload_n hx hb dX6_partOf_16 rfl (lv_at hl 1 rfl) ?_
      obtain ⟨h_23, hF⟩ := ix_at hF
      refine va_iald hx hb hK hP 16 0 rfl rfl h_23 dX6_partOf_17 ?_
      refine lv_iadd hx hb dX6_partOf_18 ?_
      refine lv_icmp_ge (tgt := 199) hx hb dX6_partOf_19 (by decide) (fun c_24 => ?_) (fun c_24 => ?_)
      · have hF := ifp hF c_24
        exact bJ199  hF _ _ _ hP hD hS (lv_sub hl [] rfl)
      · have hF := ifn hF c_24
        refine lv_aload_n hx hb dX6_partOf_22 rfl (lv_at hl 0 rfl) ?_
        refine va_get (D := D) (ci := 6) (v := .ref (a6 24)) (C := RX6) (T := TX6) (N := 42) hx hb hts hiX6 hown hK hP 0 rfl rfl 23 (by decide) (hts (.fieldLink RX6 65 "PanoramaHouseModel" "kind" "[I") (by decide +kernel)) (fun _ h9 => h9) rfl dX6_partOf_23 ?_
        refine lv_iload hx hb dX6_partOf_26 (lv_at hl 5 rfl) ?_
        obtain ⟨h_25, hF⟩ := ix_at hF
        refine va_iald hx hb hK hP 17 0 rfl rfl h_25 dX6_partOf_28 ?_
        refine lv_iconst (v := 2) hx hb dX6_partOf_29 (by decide) ?_
        refine lv_icmp_ne (tgt := 37) hx hb dX6_partOf_30 (by decide) (fun c_26 => ?_) (fun c_26 => ?_)
        · have hF := ifn hF c_26
          refine lv_iconst (v := 0) hx hb dX6_partOf_37 (by decide) ?_
          exact bJ38 x1 x2 x3 x4 x5 0 hF _ _ _ hP hD hS (lv_sub hl [0, 1, 2, 3, 4, 5] rfl)
        · have hF := ifp hF c_26
          refine lv_iconst (v := 1) hx hb dX6_partOf_33 (by decide) ?_
          refine lv_goto (tgt := 38) hx hb dX6_partOf_34 (by decide) ?_
          exact bJ38 x1 x2 x3 x4 x5 1 hF _ _ _ hP hD hS (lv_sub hl [0, 1, 2, 3, 4, 5] rfl)
  refine lv_bipush (v := 12) hx hb dX6_partOf_0 (by decide) ?_
  refine lv_iload_n hx hb dX6_partOf_2 rfl (lv_at hl 1 rfl) ?_
  refine lv_imul hx hb dX6_partOf_3 ?_
  refine lv_topi (fun v_27 ev_27 => ?_)
  have hF := nm_at hF ev_27
  refine lv_istore (lv' := [(5, .int v_27), (0, .ref (a6 0)), (1, .int p1), (2, .int p2), (3, .int p3), (4, .int p4)]) hx hb dX6_partOf_4 hl (by decide) rfl (fun ls hl => ?_)
  exact bL6 FU p1 p2 p3 p4 v_27 hF _ _ _ hP hD hS (lv_sub hl [1, 2, 3, 4, 5, 0] rfl)
abbrev rmX6_week : Room := { frames := 2, cells := 0, slots := 0, locals := 60 }
set_option maxRecDepth 100000 in
set_option maxHeartbeats 4000000 in
theorem c_X6_week (l : Launch) (K : Kx) (D : va_G) (C : Nat → ClassId) (a6 : Nat → Nat) (S6 : Nat → Int32) (A6 : Nat → Nat → Int32) (G6 : Nat → Nat → Int64) (p1 : Int32) (p2 : Int32) (p3 : Int32) (z : Int32 × (Nat → Nat → Int32) × (Nat → Nat → Int64)) (hF : F_X6_week S6 A6 G6 p1 p2 p3 = some z) : MetI l yX6_week wsX6_week rmX6_week K D (tyV C) (wX6 C a6 S6 A6 G6) [.ref (a6 0), .int p1, .int p2, .int p3] (wX6 C a6 S6 z.2.1 z.2.2) z.1 := by
  refine met_int (cc := cX6_week) (maxL := 6) (ty := .int) (by decide +kernel) rfl (Nat.le_of_ble_eq_true rfl) ?_
  intro p e s m below meth c A Q ls ⟨hx, hb, hml, hown, hts, hK, hA, hZ⟩ hP hD hS hl hret
  have hown : s.vm.findClass RX6 = some m.cls := hown
  have hiX6 : ∀ w ∈ u_ws RX6 TX6 42, w ∈ wsX6_week := by decide +kernel
  have hl : lv_has ls 6 [(0, .ref (a6 0)), (1, .int p1), (2, .int p2), (3, .int p3)] := hl
  unfold F_X6_week at hF
  refine lv_iload_n hx hb dX6_week_0 rfl (lv_at hl 1 rfl) ?_
  refine lv_iconst (v := 0) hx hb dX6_week_1 (by decide) ?_
  refine lv_aload_n hx hb dX6_week_2 rfl (lv_at hl 0 rfl) ?_
  refine va_get (D := D) (ci := 6) (v := .int (S6 21)) (C := RX6) (T := TX6) (N := 42) hx hb hts hiX6 hown hK hP 0 rfl rfl 21 (by decide) (hts (.fieldLink RX6 214 "PanoramaHouseModel" "halls" "I") (by decide +kernel)) (fun _ h9 => h9) rfl dX6_week_3 ?_
  refine lv_iconst (v := 1) hx hb dX6_week_6 (by decide) ?_
  refine lv_isub hx hb dX6_week_7 ?_
  obtain ⟨z_1, fz_1, hF⟩ := bd_at hF
  refine callS_int (As := [.int p1, .int 0, .int ((S6 21) - 1)]) (rest := []) ⟨hx, hb, hml, hown, hts⟩ hK hA hZ (c_X6_isIn l K D C p1 0 ((S6 21) - 1) z_1 fz_1) (va_cwS 3 hts gX6_week_X6_isIn rfl rfl rfl (by decide +kernel) ⟨Nat.le_of_ble_eq_true rfl, Nat.le_of_ble_eq_true rfl⟩) rfl hl.1 rfl (Nat.le_of_ble_eq_true rfl) ⟨Nat.zero_le _, Nat.zero_le _⟩ hP hS dX6_week_8 (fun H locs hP hS => ?_)
  refine lv_if_eq (tgt := 50) hx hb dX6_week_11 (by decide) (fun c_2 => ?_) (fun c_2 => ?_)
  · have hF := ifp hF c_2
    refine lv_iconst (v := -1) hx hb dX6_week_50 (by decide) ?_
    cases hF
    exact hret _ _ _ _ dX6_week_51 rfl hP hD hS
  · have hF := ifn hF c_2
    refine lv_aload_n hx hb dX6_week_14 rfl (lv_at hl 0 rfl) ?_
    refine va_get (D := D) (ci := 6) (v := .ref (a6 30)) (C := RX6) (T := TX6) (N := 42) hx hb hts hiX6 hown hK hP 0 rfl rfl 29 (by decide) (hts (.fieldLink RX6 83 "PanoramaHouseModel" "gone" "[I") (by decide +kernel)) (fun _ h9 => h9) rfl dX6_week_15 ?_
    refine lv_iload_n hx hb dX6_week_18 rfl (lv_at hl 1 rfl) ?_
    obtain ⟨h_3, hF⟩ := ix_at hF
    refine va_iald hx hb hK hP 23 0 rfl rfl h_3 dX6_week_19 ?_
    refine lv_aload_n hx hb dX6_week_20 rfl (lv_at hl 0 rfl) ?_
    refine lv_iload_n hx hb dX6_week_21 rfl (lv_at hl 1 rfl) ?_
    refine lv_iconst (v := 0) hx hb dX6_week_22 (by decide) ?_
    refine lv_iconst (v := 1) hx hb dX6_week_23 (by decide) ?_
    obtain ⟨z_4, fz_4, hF⟩ := bd_at hF
    refine callV_int ([]) ([]) (w' := wX6 C a6 S6 A6 G6) (As := [.int p1, .int 0, .int 1]) (rest := [.int (A6 29 (p1).toNatClampNeg)]) ⟨hx, hb, hml, hown, hts⟩ hK hA hZ (c_X6_lastOf l K D C a6 S6 A6 G6 p1 0 1 z_4 fz_4) (cwV 3 hts gX6_week_X6_lastOf rfl rfl rfl (by decide +kernel) ⟨Nat.le_of_ble_eq_true rfl, Nat.le_of_ble_eq_true rfl⟩) 0 rfl rfl rfl rfl hl.1 rfl (Nat.le_of_ble_eq_true rfl) ⟨Nat.zero_le _, Nat.zero_le _⟩ (by simp only [List.append_assoc, List.append_nil, List.nil_append]) (by simp only [List.append_assoc, List.append_nil, List.nil_append]) hP hD hS dX6_week_24 (fun H locs hP hD hS => ?_)
    refine lv_icmp_ge (tgt := 50) hx hb dX6_week_27 (by decide) (fun c_5 => ?_) (fun c_5 => ?_)
    · have hF := ifp hF c_5
      refine lv_iconst (v := -1) hx hb dX6_week_50 (by decide) ?_
      cases hF
      exact hret _ _ _ _ dX6_week_51 rfl hP hD hS
    · have hF := ifn hF c_5
      refine lv_iload_n hx hb dX6_week_30 rfl (lv_at hl 2 rfl) ?_
      refine lv_iconst (v := 0) hx hb dX6_week_31 (by decide) ?_
      refine lv_ldc (v := 99999) hx hb hown (hts (.constant RX6 193 99999) (by decide +kernel)) dX6_week_32 ?_
      obtain ⟨z_6, fz_6, hF⟩ := bd_at hF
      refine callS_int (As := [.int p2, .int 0, .int 99999]) (rest := []) ⟨hx, hb, hml, hown, hts⟩ hK hA hZ (c_X6_isIn l K D C p2 0 99999 z_6 fz_6) (va_cwS 3 hts gX6_week_X6_isIn rfl rfl rfl (by decide +kernel) ⟨Nat.le_of_ble_eq_true rfl, Nat.le_of_ble_eq_true rfl⟩) rfl hl.1 rfl (Nat.le_of_ble_eq_true rfl) ⟨Nat.zero_le _, Nat.zero_le _⟩ hP hS dX6_week_34 (fun H locs hP hS => ?_)
      refine lv_if_eq (tgt := 50) hx hb dX6_week_37 (by decide) (fun c_7 => ?_) (fun c_7 => ?_)
      · have hF := ifp hF c_7
        refine lv_iconst (v := -1) hx hb dX6_week_50 (by decide) ?_
        cases hF
        exact hret _ _ _ _ dX6_week_51 rfl hP hD hS
      · have hF := ifn hF c_7
        refine lv_iload_n hx hb dX6_week_40 rfl (lv_at hl 3 rfl) ?_
        refine lv_iconst (v := 0) hx hb dX6_week_41 (by decide) ?_
        refine lv_ldc (v := 99999) hx hb hown (hts (.constant RX6 193 99999) (by decide +kernel)) dX6_week_42 ?_
        obtain ⟨z_8, fz_8, hF⟩ := bd_at hF
        refine callS_int (As := [.int p3, .int 0, .int 99999]) (rest := []) ⟨hx, hb, hml, hown, hts⟩ hK hA hZ (c_X6_isIn l K D C p3 0 99999 z_8 fz_8) (va_cwS 3 hts gX6_week_X6_isIn rfl rfl rfl (by decide +kernel) ⟨Nat.le_of_ble_eq_true rfl, Nat.le_of_ble_eq_true rfl⟩) rfl hl.1 rfl (Nat.le_of_ble_eq_true rfl) ⟨Nat.zero_le _, Nat.zero_le _⟩ hP hS dX6_week_44 (fun H locs hP hS => ?_)
        refine lv_if_ne (tgt := 52) hx hb dX6_week_47 (by decide) (fun c_9 => ?_) (fun c_9 => ?_)
        · have hF := ifn hF c_9
          refine lv_aload_n hx hb dX6_week_52 rfl (lv_at hl 0 rfl) ?_
          refine va_get (D := D) (ci := 6) (v := .ref (a6 30)) (C := RX6) (T := TX6) (N := 42) hx hb hts hiX6 hown hK hP 0 rfl rfl 29 (by decide) (hts (.fieldLink RX6 83 "PanoramaHouseModel" "gone" "[I") (by decide +kernel)) (fun _ h9 => h9) rfl dX6_week_53 ?_
          refine lv_iload_n hx hb dX6_week_56 rfl (lv_at hl 1 rfl) ?_
          refine lv_dup2_11 hx hb dX6_week_57 rfl rfl ?_
          obtain ⟨h_10, hF⟩ := ix_at hF
          refine va_iald hx hb hK hP 23 0 rfl rfl h_10 dX6_week_58 ?_
          refine lv_iconst (v := 1) hx hb dX6_week_59 (by decide) ?_
          refine lv_iadd hx hb dX6_week_60 ?_
          obtain ⟨h_11, hF⟩ := ix_at hF
          refine va_iast hx hb hK hP hD hS 23 0 rfl rfl h_11 dX6_week_61 (fun H locs hP hD hS => ?_)
          obtain ⟨A6_12, eA6_12, hF⟩ := nm_ex hF
          have hP : va_P D vwCl (wX6 C a6 S6 A6_12 G6) H := by rw [eA6_12]; exact hP
          have hD : va_D A (wX6 C a6 S6 A6_12 G6) := by rw [eA6_12]; exact hD
          refine lv_iload_n hx hb dX6_week_62 rfl (lv_at hl 3 rfl) ?_
          refine lv_iload_n hx hb dX6_week_63 rfl (lv_at hl 3 rfl) ?_
          refine lv_aload_n hx hb dX6_week_64 rfl (lv_at hl 0 rfl) ?_
          refine lv_iload_n hx hb dX6_week_65 rfl (lv_at hl 1 rfl) ?_
          refine lv_iconst (v := 1) hx hb dX6_week_66 (by decide) ?_
          refine lv_iconst (v := 0) hx hb dX6_week_67 (by decide) ?_
          obtain ⟨z_13, fz_13, hF⟩ := bd_at hF
          refine callV_int ([]) ([]) (w' := wX6 C a6 S6 A6_12 G6) (As := [.int p1, .int 1, .int 0]) (rest := [.int p3, .int p3]) ⟨hx, hb, hml, hown, hts⟩ hK hA hZ (c_X6_lastOf l K D C a6 S6 A6_12 G6 p1 1 0 z_13 fz_13) (cwV 3 hts gX6_week_X6_lastOf rfl rfl rfl (by decide +kernel) ⟨Nat.le_of_ble_eq_true rfl, Nat.le_of_ble_eq_true rfl⟩) 0 rfl rfl rfl rfl hl.1 rfl (Nat.le_of_ble_eq_true rfl) ⟨Nat.zero_le _, Nat.zero_le _⟩ (by simp only [List.append_assoc, List.append_nil, List.nil_append]) (by simp only [List.append_assoc, List.append_nil, List.nil_append]) hP hD hS dX6_week_68 (fun H locs hP hD hS => ?_)
          refine va_mmin hx hb (hml.trans hl.1.symm) hown (hts (.methodLink RX6 138 Lib.Math.min.name) (by decide +kernel)) (hts (.static Lib.Math.min.name) (by decide +kernel)) (hts (.initialized "java/lang/Math") (by decide +kernel)) (hts (.code Lib.Math.min.name Lib.Math.min.code 2 (some .int)) (by decide +kernel)) (Nat.le_of_ble_eq_true rfl) (Nat.le_of_ble_eq_true rfl) (Nat.zero_le _) (Nat.zero_le _) dX6_week_71 ?_
          refine lv_topi (fun v_14 ev_14 => ?_)
          have hF := nm_at hF ev_14
          refine lv_isub hx hb dX6_week_74 ?_
          refine lv_topi (fun v_15 ev_15 => ?_)
          have hF := nm_at hF ev_15
          refine lv_istore (lv' := [(4, .int v_15), (0, .ref (a6 0)), (1, .int p1), (2, .int p2), (3, .int p3)]) hx hb dX6_week_75 hl (by decide) rfl (fun ls hl => ?_)
          refine lv_iload hx hb dX6_week_77 (lv_at hl 0 rfl) ?_
          refine lv_aload_n hx hb dX6_week_79 rfl (lv_at hl 1 rfl) ?_
          refine lv_iload_n hx hb dX6_week_80 rfl (lv_at hl 2 rfl) ?_
          refine lv_aload_n hx hb dX6_week_81 rfl (lv_at hl 1 rfl) ?_
          refine va_get (D := D) (ci := 6) (v := .ref (a6 30)) (C := RX6) (T := TX6) (N := 42) hx hb hts hiX6 hown hK hP 0 rfl rfl 29 (by decide) (hts (.fieldLink RX6 83 "PanoramaHouseModel" "gone" "[I") (by decide +kernel)) (fun _ h9 => h9) rfl dX6_week_82 ?_
          refine lv_iload_n hx hb dX6_week_85 rfl (lv_at hl 2 rfl) ?_
          obtain ⟨h_16, hF⟩ := ix_at hF
          refine va_iald hx hb hK hP 23 0 rfl rfl h_16 dX6_week_86 ?_
          refine lv_iload_n hx hb dX6_week_87 rfl (lv_at hl 3 rfl) ?_
          refine lv_iload_n hx hb dX6_week_88 rfl (lv_at hl 4 rfl) ?_
          obtain ⟨z_17, fz_17, hF⟩ := bd_at hF
          refine callV_int ([]) ([]) (w' := wX6 C a6 S6 A6_12 G6) (As := [.int p1, .int (A6_12 29 (p1).toNatClampNeg), .int p2, .int p3]) (rest := [.int v_15]) ⟨hx, hb, hml, hown, hts⟩ hK hA hZ (c_X6_partOf l K D C a6 S6 A6_12 G6 p1 (A6_12 29 (p1).toNatClampNeg) p2 p3 z_17 fz_17) (cwV 4 hts gX6_week_X6_partOf rfl rfl rfl (by decide +kernel) ⟨Nat.le_of_ble_eq_true rfl, Nat.le_of_ble_eq_true rfl⟩) 0 rfl rfl rfl rfl hl.1 rfl (Nat.le_of_ble_eq_true rfl) ⟨Nat.zero_le _, Nat.zero_le _⟩ (by simp only [List.append_assoc, List.append_nil, List.nil_append]) (by simp only [List.append_assoc, List.append_nil, List.nil_append]) hP hD hS dX6_week_89 (fun H locs hP hD hS => ?_)
          refine lv_imul hx hb dX6_week_92 ?_
          refine lv_bipush (v := 100) hx hb dX6_week_93 (by decide) ?_
          refine lv_idiv hx hb dX6_week_95 (by decide) ?_
          refine lv_topi (fun v_18 ev_18 => ?_)
          have hF := nm_at hF ev_18
          refine lv_istore (lv' := [(5, .int v_18), (4, .int v_15), (0, .ref (a6 0)), (1, .int p1), (2, .int p2), (3, .int p3)]) hx hb dX6_week_96 hl (by decide) rfl (fun ls hl => ?_)
          refine lv_aload_n hx hb dX6_week_98 rfl (lv_at hl 2 rfl) ?_
          refine va_get (D := D) (ci := 6) (v := .ref (a6 31)) (C := RX6) (T := TX6) (N := 42) hx hb hts hiX6 hown hK hP 0 rfl rfl 30 (by decide) (hts (.fieldLink RX6 86 "PanoramaHouseModel" "people" "[I") (by decide +kernel)) (fun _ h9 => h9) rfl dX6_week_99 ?_
          refine lv_iload_n hx hb dX6_week_102 rfl (lv_at hl 3 rfl) ?_
          refine lv_dup2_11 hx hb dX6_week_103 rfl rfl ?_
          obtain ⟨h_19, hF⟩ := ix_at hF
          refine va_iald hx hb hK hP 24 0 rfl rfl h_19 dX6_week_104 ?_
          refine lv_iload_n hx hb dX6_week_105 rfl (lv_at hl 4 rfl) ?_
          refine lv_iadd hx hb dX6_week_106 ?_
          obtain ⟨h_20, hF⟩ := ix_at hF
          refine va_iast hx hb hK hP hD hS 24 0 rfl rfl h_20 dX6_week_107 (fun H locs hP hD hS => ?_)
          obtain ⟨A6_21, eA6_21, hF⟩ := nm_ex hF
          have hP : va_P D vwCl (wX6 C a6 S6 A6_21 G6) H := by rw [eA6_21]; exact hP
          have hD : va_D A (wX6 C a6 S6 A6_21 G6) := by rw [eA6_21]; exact hD
          refine lv_aload_n hx hb dX6_week_108 rfl (lv_at hl 2 rfl) ?_
          refine va_get (D := D) (ci := 6) (v := .ref (a6 32)) (C := RX6) (T := TX6) (N := 42) hx hb hts hiX6 hown hK hP 0 rfl rfl 31 (by decide) (hts (.fieldLink RX6 89 "PanoramaHouseModel" "house" "[J") (by decide +kernel)) (fun _ h9 => h9) rfl dX6_week_109 ?_
          refine lv_iload_n hx hb dX6_week_112 rfl (lv_at hl 3 rfl) ?_
          refine lv_dup2_11 hx hb dX6_week_113 rfl rfl ?_
          obtain ⟨h_22, hF⟩ := ix_at hF
          refine va_lald hx hb hK hP 25 3 rfl rfl h_22 dX6_week_114 ?_
          refine lv_iload hx hb dX6_week_115 (lv_at hl 0 rfl) ?_
          refine lv_i2l (v := (v_18).toInt64) hx hb dX6_week_117 rfl ?_
          refine lv_ladd hx hb dX6_week_118 ?_
          obtain ⟨h_23, hF⟩ := ix_at hF
          refine va_last hx hb hK hP hD hS 25 3 rfl rfl h_23 dX6_week_119 (fun H locs hP hD hS => ?_)
          obtain ⟨G6_24, eG6_24, hF⟩ := nm_ex hF
          have hP : va_P D vwCl (wX6 C a6 S6 A6_21 G6_24) H := by rw [eG6_24]; exact hP
          have hD : va_D A (wX6 C a6 S6 A6_21 G6_24) := by rw [eG6_24]; exact hD
          refine lv_aload_n hx hb dX6_week_120 rfl (lv_at hl 2 rfl) ?_
          refine va_get (D := D) (ci := 6) (v := .ref (a6 33)) (C := RX6) (T := TX6) (N := 42) hx hb hts hiX6 hown hK hP 0 rfl rfl 32 (by decide) (hts (.fieldLink RX6 93 "PanoramaHouseModel" "others" "[J") (by decide +kernel)) (fun _ h9 => h9) rfl dX6_week_121 ?_
          refine lv_iload_n hx hb dX6_week_124 rfl (lv_at hl 3 rfl) ?_
          refine lv_dup2_11 hx hb dX6_week_125 rfl rfl ?_
          obtain ⟨h_25, hF⟩ := ix_at hF
          refine va_lald hx hb hK hP 26 3 rfl rfl h_25 dX6_week_126 ?_
          refine lv_iload_n hx hb dX6_week_127 rfl (lv_at hl 5 rfl) ?_
          refine lv_iload hx hb dX6_week_128 (lv_at hl 0 rfl) ?_
          refine lv_isub hx hb dX6_week_130 ?_
          refine lv_i2l (v := ((p3 - v_18)).toInt64) hx hb dX6_week_131 rfl ?_
          refine lv_ladd hx hb dX6_week_132 ?_
          obtain ⟨h_26, hF⟩ := ix_at hF
          refine va_last hx hb hK hP hD hS 26 3 rfl rfl h_26 dX6_week_133 (fun H locs hP hD hS => ?_)
          obtain ⟨G6_27, eG6_27, hF⟩ := nm_ex hF
          have hP : va_P D vwCl (wX6 C a6 S6 A6_21 G6_27) H := by rw [eG6_27]; exact hP
          have hD : va_D A (wX6 C a6 S6 A6_21 G6_27) := by rw [eG6_27]; exact hD
          refine lv_iload hx hb dX6_week_134 (lv_at hl 0 rfl) ?_
          cases hF
          exact hret _ _ _ _ dX6_week_136 rfl hP hD hS
        · have hF := ifp hF c_9
          refine lv_iconst (v := -1) hx hb dX6_week_50 (by decide) ?_
          cases hF
          exact hret _ _ _ _ dX6_week_51 rfl hP hD hS
abbrev rmX6_hallOf : Room := { frames := 2, cells := 0, slots := 0, locals := 57 }
set_option maxRecDepth 100000 in
set_option maxHeartbeats 4000000 in
theorem c_X6_hallOf (l : Launch) (K : Kx) (D : va_G) (C : Nat → ClassId) (a6 : Nat → Nat) (S6 : Nat → Int32) (A6 : Nat → Nat → Int32) (G6 : Nat → Nat → Int64) (p1 : Int32) (p2 : Int32) (z : Int32) (hF : F_X6_hallOf S6 A6 G6 p1 p2 = some z) : MetI l yX6_hallOf wsX6_hallOf rmX6_hallOf K D (tyV C) (wX6 C a6 S6 A6 G6) [.ref (a6 0), .int p1, .int p2] (wX6 C a6 S6 A6 G6) z := by
  refine met_int (cc := cX6_hallOf) (maxL := 3) (ty := .int) (by decide +kernel) rfl (Nat.le_of_ble_eq_true rfl) ?_
  intro p e s m below meth c A Q ls ⟨hx, hb, hml, hown, hts, hK, hA, hZ⟩ hP hD hS hl hret
  have hown : s.vm.findClass RX6 = some m.cls := hown
  have hiX6 : ∀ w ∈ u_ws RX6 TX6 42, w ∈ wsX6_hallOf := by decide +kernel
  have hl : lv_has ls 3 [(0, .ref (a6 0)), (1, .int p1), (2, .int p2)] := hl
  unfold F_X6_hallOf at hF
  refine lv_iload_n hx hb dX6_hallOf_0 rfl (lv_at hl 1 rfl) ?_
  refine lv_iconst (v := 0) hx hb dX6_hallOf_1 (by decide) ?_
  refine lv_aload_n hx hb dX6_hallOf_2 rfl (lv_at hl 0 rfl) ?_
  refine va_get (D := D) (ci := 6) (v := .int (S6 21)) (C := RX6) (T := TX6) (N := 42) hx hb hts hiX6 hown hK hP 0 rfl rfl 21 (by decide) (hts (.fieldLink RX6 214 "PanoramaHouseModel" "halls" "I") (by decide +kernel)) (fun _ h9 => h9) rfl dX6_hallOf_3 ?_
  refine lv_iconst (v := 1) hx hb dX6_hallOf_6 (by decide) ?_
  refine lv_isub hx hb dX6_hallOf_7 ?_
  obtain ⟨z_1, fz_1, hF⟩ := bd_at hF
  refine callS_int (As := [.int p1, .int 0, .int ((S6 21) - 1)]) (rest := []) ⟨hx, hb, hml, hown, hts⟩ hK hA hZ (c_X6_isIn l K D C p1 0 ((S6 21) - 1) z_1 fz_1) (va_cwS 3 hts gX6_hallOf_X6_isIn rfl rfl rfl (by decide +kernel) ⟨Nat.le_of_ble_eq_true rfl, Nat.le_of_ble_eq_true rfl⟩) rfl hl.1 rfl (Nat.le_of_ble_eq_true rfl) ⟨Nat.zero_le _, Nat.zero_le _⟩ hP hS dX6_hallOf_8 (fun H locs hP hS => ?_)
  refine lv_if_ne (tgt := 16) hx hb dX6_hallOf_11 (by decide) (fun c_2 => ?_) (fun c_2 => ?_)
  · have hF := ifn hF c_2
    refine lv_iload_n hx hb dX6_hallOf_16 rfl (lv_at hl 2 rfl) ?_
    rcases Decidable.em (p2 = 0) with c_3 | c_3
    · have hF := ifp hF c_3
      refine lv_tableIn (tgt := 56) hx hb dX6_hallOf_17 (by rw [c_3]; decide) (by rw [c_3]; decide) (by rw [c_3]; rfl) (by decide) ?_
      refine lv_aload_n hx hb dX6_hallOf_56 rfl (lv_at hl 0 rfl) ?_
      refine lv_iload_n hx hb dX6_hallOf_57 rfl (lv_at hl 1 rfl) ?_
      refine lv_iconst (v := 0) hx hb dX6_hallOf_58 (by decide) ?_
      refine lv_iconst (v := 1) hx hb dX6_hallOf_59 (by decide) ?_
      obtain ⟨z_4, fz_4, hF⟩ := bd_at hF
      refine callV_int ([]) ([]) (w' := wX6 C a6 S6 A6 G6) (As := [.int p1, .int 0, .int 1]) (rest := []) ⟨hx, hb, hml, hown, hts⟩ hK hA hZ (c_X6_lastOf l K D C a6 S6 A6 G6 p1 0 1 z_4 fz_4) (cwV 3 hts gX6_hallOf_X6_lastOf rfl rfl rfl (by decide +kernel) ⟨Nat.le_of_ble_eq_true rfl, Nat.le_of_ble_eq_true rfl⟩) 0 rfl rfl rfl rfl hl.1 rfl (Nat.le_of_ble_eq_true rfl) ⟨Nat.zero_le _, Nat.zero_le _⟩ (by simp only [List.append_assoc, List.append_nil, List.nil_append]) (by simp only [List.append_assoc, List.append_nil, List.nil_append]) hP hD hS dX6_hallOf_60 (fun H locs hP hD hS => ?_)
      cases hF
      exact hret _ _ _ _ dX6_hallOf_63 rfl hP hD hS
    · have hF := ifn hF c_3
      rcases Decidable.em (p2 = 1) with c_5 | c_5
      · have hF := ifp hF c_5
        refine lv_tableIn (tgt := 64) hx hb dX6_hallOf_17 (by rw [c_5]; decide) (by rw [c_5]; decide) (by rw [c_5]; rfl) (by decide) ?_
        refine lv_aload_n hx hb dX6_hallOf_64 rfl (lv_at hl 0 rfl) ?_
        refine va_get (D := D) (ci := 6) (v := .ref (a6 30)) (C := RX6) (T := TX6) (N := 42) hx hb hts hiX6 hown hK hP 0 rfl rfl 29 (by decide) (hts (.fieldLink RX6 83 "PanoramaHouseModel" "gone" "[I") (by decide +kernel)) (fun _ h9 => h9) rfl dX6_hallOf_65 ?_
        refine lv_iload_n hx hb dX6_hallOf_68 rfl (lv_at hl 1 rfl) ?_
        obtain ⟨h_6, hF⟩ := ix_at hF
        refine va_iald hx hb hK hP 23 0 rfl rfl h_6 dX6_hallOf_69 ?_
        cases hF
        exact hret _ _ _ _ dX6_hallOf_70 rfl hP hD hS
      · have hF := ifn hF c_5
        rcases Decidable.em (p2 = 2) with c_7 | c_7
        · have hF := ifp hF c_7
          refine lv_tableIn (tgt := 71) hx hb dX6_hallOf_17 (by rw [c_7]; decide) (by rw [c_7]; decide) (by rw [c_7]; rfl) (by decide) ?_
          refine lv_aload_n hx hb dX6_hallOf_71 rfl (lv_at hl 0 rfl) ?_
          refine va_get (D := D) (ci := 6) (v := .ref (a6 32)) (C := RX6) (T := TX6) (N := 42) hx hb hts hiX6 hown hK hP 0 rfl rfl 31 (by decide) (hts (.fieldLink RX6 89 "PanoramaHouseModel" "house" "[J") (by decide +kernel)) (fun _ h9 => h9) rfl dX6_hallOf_72 ?_
          refine lv_iload_n hx hb dX6_hallOf_75 rfl (lv_at hl 1 rfl) ?_
          obtain ⟨h_8, hF⟩ := ix_at hF
          refine va_lald hx hb hK hP 25 3 rfl rfl h_8 dX6_hallOf_76 ?_
          refine lv_l2i (v := ((G6 31 (p1).toNatClampNeg)).toInt32) hx hb dX6_hallOf_77 rfl ?_
          cases hF
          exact hret _ _ _ _ dX6_hallOf_78 rfl hP hD hS
        · have hF := ifn hF c_7
          rcases Decidable.em (p2 = 3) with c_9 | c_9
          · have hF := ifp hF c_9
            refine lv_tableIn (tgt := 79) hx hb dX6_hallOf_17 (by rw [c_9]; decide) (by rw [c_9]; decide) (by rw [c_9]; rfl) (by decide) ?_
            refine lv_aload_n hx hb dX6_hallOf_79 rfl (lv_at hl 0 rfl) ?_
            refine va_get (D := D) (ci := 6) (v := .ref (a6 33)) (C := RX6) (T := TX6) (N := 42) hx hb hts hiX6 hown hK hP 0 rfl rfl 32 (by decide) (hts (.fieldLink RX6 93 "PanoramaHouseModel" "others" "[J") (by decide +kernel)) (fun _ h9 => h9) rfl dX6_hallOf_80 ?_
            refine lv_iload_n hx hb dX6_hallOf_83 rfl (lv_at hl 1 rfl) ?_
            obtain ⟨h_10, hF⟩ := ix_at hF
            refine va_lald hx hb hK hP 26 3 rfl rfl h_10 dX6_hallOf_84 ?_
            refine lv_l2i (v := ((G6 32 (p1).toNatClampNeg)).toInt32) hx hb dX6_hallOf_85 rfl ?_
            cases hF
            exact hret _ _ _ _ dX6_hallOf_86 rfl hP hD hS
          · have hF := ifn hF c_9
            rcases Decidable.em (p2 = 4) with c_11 | c_11
            · have hF := ifp hF c_11
              refine lv_tableIn (tgt := 87) hx hb dX6_hallOf_17 (by rw [c_11]; decide) (by rw [c_11]; decide) (by rw [c_11]; rfl) (by decide) ?_
              refine lv_aload_n hx hb dX6_hallOf_87 rfl (lv_at hl 0 rfl) ?_
              refine va_get (D := D) (ci := 6) (v := .ref (a6 31)) (C := RX6) (T := TX6) (N := 42) hx hb hts hiX6 hown hK hP 0 rfl rfl 30 (by decide) (hts (.fieldLink RX6 86 "PanoramaHouseModel" "people" "[I") (by decide +kernel)) (fun _ h9 => h9) rfl dX6_hallOf_88 ?_
              refine lv_iload_n hx hb dX6_hallOf_91 rfl (lv_at hl 1 rfl) ?_
              obtain ⟨h_12, hF⟩ := ix_at hF
              refine va_iald hx hb hK hP 24 0 rfl rfl h_12 dX6_hallOf_92 ?_
              cases hF
              exact hret _ _ _ _ dX6_hallOf_93 rfl hP hD hS
            · have hF := ifn hF c_11
              rcases Decidable.em (p2 = 5) with c_13 | c_13
              · have hF := ifp hF c_13
                refine lv_tableIn (tgt := 94) hx hb dX6_hallOf_17 (by rw [c_13]; decide) (by rw [c_13]; decide) (by rw [c_13]; rfl) (by decide) ?_
                refine lv_aload_n hx hb dX6_hallOf_94 rfl (lv_at hl 0 rfl) ?_
                refine lv_iload_n hx hb dX6_hallOf_95 rfl (lv_at hl 1 rfl) ?_
                refine lv_iconst (v := 1) hx hb dX6_hallOf_96 (by decide) ?_
                refine lv_iconst (v := 0) hx hb dX6_hallOf_97 (by decide) ?_
                obtain ⟨z_14, fz_14, hF⟩ := bd_at hF
                refine callV_int ([]) ([]) (w' := wX6 C a6 S6 A6 G6) (As := [.int p1, .int 1, .int 0]) (rest := []) ⟨hx, hb, hml, hown, hts⟩ hK hA hZ (c_X6_lastOf l K D C a6 S6 A6 G6 p1 1 0 z_14 fz_14) (cwV 3 hts gX6_hallOf_X6_lastOf rfl rfl rfl (by decide +kernel) ⟨Nat.le_of_ble_eq_true rfl, Nat.le_of_ble_eq_true rfl⟩) 0 rfl rfl rfl rfl hl.1 rfl (Nat.le_of_ble_eq_true rfl) ⟨Nat.zero_le _, Nat.zero_le _⟩ (by simp only [List.append_assoc, List.append_nil, List.nil_append]) (by simp only [List.append_assoc, List.append_nil, List.nil_append]) hP hD hS dX6_hallOf_98 (fun H locs hP hD hS => ?_)
                cases hF
                exact hret _ _ _ _ dX6_hallOf_101 rfl hP hD hS
              · have hF := ifn hF c_13
                have ic_3 : (p2).toInt ≠ 0 := fun h => c_3 (Int32.toInt_inj.mp (h.trans (by decide)))
                have ic_5 : (p2).toInt ≠ 1 := fun h => c_5 (Int32.toInt_inj.mp (h.trans (by decide)))
                have ic_7 : (p2).toInt ≠ 2 := fun h => c_7 (Int32.toInt_inj.mp (h.trans (by decide)))
                have ic_9 : (p2).toInt ≠ 3 := fun h => c_9 (Int32.toInt_inj.mp (h.trans (by decide)))
                have ic_11 : (p2).toInt ≠ 4 := fun h => c_11 (Int32.toInt_inj.mp (h.trans (by decide)))
                have ic_13 : (p2).toInt ≠ 5 := fun h => c_13 (Int32.toInt_inj.mp (h.trans (by decide)))
                refine lv_tableOut (tgt := 102) hx hb dX6_hallOf_17 (by omega) (by decide) ?_
                refine lv_iconst (v := -1) hx hb dX6_hallOf_102 (by decide) ?_
                cases hF
                exact hret _ _ _ _ dX6_hallOf_103 rfl hP hD hS
  · have hF := ifp hF c_2
    refine lv_iconst (v := -1) hx hb dX6_hallOf_14 (by decide) ?_
    cases hF
    exact hret _ _ _ _ dX6_hallOf_15 rfl hP hD hS
abbrev rmX6_room : Room := { frames := 2, cells := 0, slots := 0, locals := 54 }
set_option maxRecDepth 100000 in
set_option maxHeartbeats 4000000 in
theorem c_X6_room (l : Launch) (K : Kx) (D : va_G) (C : Nat → ClassId) (a6 : Nat → Nat) (S6 : Nat → Int32) (A6 : Nat → Nat → Int32) (G6 : Nat → Nat → Int64) (p1 : Int32) (z : Int32 × (Nat → Int32)) (hF : F_X6_room S6 p1 = some z) : MetI l yX6_room wsX6_room rmX6_room K D (tyV C) (wX6 C a6 S6 A6 G6) [.ref (a6 0), .int p1] (wX6 C a6 z.2 A6 G6) z.1 := by
  refine met_int (cc := cX6_room) (maxL := 2) (ty := .boolean) (by decide +kernel) rfl (Nat.le_of_ble_eq_true rfl) ?_
  intro p e s m below meth c A Q ls ⟨hx, hb, hml, hown, hts, hK, hA, hZ⟩ hP hD hS hl hret
  have hown : s.vm.findClass RX6 = some m.cls := hown
  have hiX6 : ∀ w ∈ u_ws RX6 TX6 42, w ∈ wsX6_room := by decide +kernel
  have hl : lv_has ls 2 [(0, .ref (a6 0)), (1, .int p1)] := hl
  unfold F_X6_room at hF
  refine lv_iload_n hx hb dX6_room_0 rfl (lv_at hl 1 rfl) ?_
  refine lv_iconst (v := 1) hx hb dX6_room_1 (by decide) ?_
  refine lv_sipush (v := 200) hx hb dX6_room_2 (by decide) ?_
  obtain ⟨z_1, fz_1, hF⟩ := bd_at hF
  refine callS_int (As := [.int p1, .int 1, .int 200]) (rest := []) ⟨hx, hb, hml, hown, hts⟩ hK hA hZ (c_X6_isIn l K D C p1 1 200 z_1 fz_1) (va_cwS 3 hts gX6_room_X6_isIn rfl rfl rfl (by decide +kernel) ⟨Nat.le_of_ble_eq_true rfl, Nat.le_of_ble_eq_true rfl⟩) rfl hl.1 rfl (Nat.le_of_ble_eq_true rfl) ⟨Nat.zero_le _, Nat.zero_le _⟩ hP hS dX6_room_5 (fun H locs hP hS => ?_)
  refine lv_if_ne (tgt := 13) hx hb dX6_room_8 (by decide) (fun c_2 => ?_) (fun c_2 => ?_)
  · have hF := ifn hF c_2
    refine lv_aload_n hx hb dX6_room_13 rfl (lv_at hl 0 rfl) ?_
    refine lv_iload_n hx hb dX6_room_14 rfl (lv_at hl 1 rfl) ?_
    refine va_put (D := D) (ci := 6) (v := .int p1) (ty := .int) (C := RX6) (T := TX6) (N := 42) hx hb hts hiX6 tyX6 tyX6_ok nmX6 hown hK hP hD hS 0 rfl rfl 35 (by decide) (hts (.fieldLink RX6 96 "PanoramaHouseModel" "most" "I") (by decide +kernel)) (fun _ h9 => h9) rfl (by decide +kernel) rfl rfl (Nat.le_of_ble_eq_true rfl) dX6_room_15 (fun H locs hP hD hS => ?_)
    obtain ⟨S6_3, eS6_3, hF⟩ := nm_ex hF
    have hP : va_P D vwCl (wX6 C a6 S6_3 A6 G6) H := by rw [eS6_3]; exact hP
    have hD : va_D A (wX6 C a6 S6_3 A6 G6) := by rw [eS6_3]; exact hD
    refine lv_iconst (v := 1) hx hb dX6_room_18 (by decide) ?_
    cases hF
    exact hret _ _ _ _ dX6_room_19 nb1 hP hD hS
  · have hF := ifp hF c_2
    refine lv_iconst (v := 0) hx hb dX6_room_11 (by decide) ?_
    cases hF
    exact hret _ _ _ _ dX6_room_12 nb0 hP hD hS
abbrev rmX6_minute : Room := { frames := 2, cells := 0, slots := 0, locals := 54 }
set_option maxRecDepth 100000 in
set_option maxHeartbeats 4000000 in
theorem c_X6_minute (l : Launch) (K : Kx) (D : va_G) (C : Nat → ClassId) (a6 : Nat → Nat) (S6 : Nat → Int32) (A6 : Nat → Nat → Int32) (G6 : Nat → Nat → Int64) (p1 : Int32) (z : Int32 × (Nat → Int32) × (Nat → Nat → Int32)) (hF : F_X6_minute S6 A6 p1 = some z) : MetI l yX6_minute wsX6_minute rmX6_minute K D (tyV C) (wX6 C a6 S6 A6 G6) [.ref (a6 0), .int p1] (wX6 C a6 z.2.1 z.2.2 G6) z.1 := by
  refine met_int (cc := cX6_minute) (maxL := 3) (ty := .int) (by decide +kernel) rfl (Nat.le_of_ble_eq_true rfl) ?_
  intro p e s m below meth c A Q ls ⟨hx, hb, hml, hown, hts, hK, hA, hZ⟩ hP hD hS hl hret
  have hown : s.vm.findClass RX6 = some m.cls := hown
  have hiX6 : ∀ w ∈ u_ws RX6 TX6 42, w ∈ wsX6_minute := by decide +kernel
  have hl : lv_has ls 3 [(0, .ref (a6 0)), (1, .int p1)] := hl
  unfold F_X6_minute at hF
  refine lv_iload_n hx hb dX6_minute_0 rfl (lv_at hl 1 rfl) ?_
  refine lv_iconst (v := 0) hx hb dX6_minute_1 (by decide) ?_
  refine lv_sipush (v := 500) hx hb dX6_minute_2 (by decide) ?_
  obtain ⟨z_1, fz_1, hF⟩ := bd_at hF
  refine callS_int (As := [.int p1, .int 0, .int 500]) (rest := []) ⟨hx, hb, hml, hown, hts⟩ hK hA hZ (c_X6_isIn l K D C p1 0 500 z_1 fz_1) (va_cwS 3 hts gX6_minute_X6_isIn rfl rfl rfl (by decide +kernel) ⟨Nat.le_of_ble_eq_true rfl, Nat.le_of_ble_eq_true rfl⟩) rfl hl.1 rfl (Nat.le_of_ble_eq_true rfl) ⟨Nat.zero_le _, Nat.zero_le _⟩ hP hS dX6_minute_5 (fun H locs hP hS => ?_)
  refine lv_if_eq (tgt := 23) hx hb dX6_minute_8 (by decide) (fun c_2 => ?_) (fun c_2 => ?_)
  · have hF := ifp hF c_2
    refine lv_iconst (v := -1) hx hb dX6_minute_23 (by decide) ?_
    cases hF
    exact hret _ _ _ _ dX6_minute_24 rfl hP hD hS
  · have hF := ifn hF c_2
    refine lv_aload_n hx hb dX6_minute_11 rfl (lv_at hl 0 rfl) ?_
    refine va_get (D := D) (ci := 6) (v := .int (S6 36)) (C := RX6) (T := TX6) (N := 42) hx hb hts hiX6 hown hK hP 0 rfl rfl 36 (by decide) (hts (.fieldLink RX6 228 "PanoramaHouseModel" "waiting" "I") (by decide +kernel)) (fun _ h9 => h9) rfl dX6_minute_12 ?_
    refine lv_iload_n hx hb dX6_minute_15 rfl (lv_at hl 1 rfl) ?_
    refine lv_iadd hx hb dX6_minute_16 ?_
    refine lv_sipush (v := 2000) hx hb dX6_minute_17 (by decide) ?_
    refine lv_icmp_le (tgt := 25) hx hb dX6_minute_20 (by decide) (fun c_3 => ?_) (fun c_3 => ?_)
    · have hF := ifp hF c_3
      refine lv_aload_n hx hb dX6_minute_25 rfl (lv_at hl 0 rfl) ?_
      refine va_get (D := D) (ci := 6) (v := .int (S6 39)) (C := RX6) (T := TX6) (N := 42) hx hb hts hiX6 hown hK hP 0 rfl rfl 39 (by decide) (hts (.fieldLink RX6 231 "PanoramaHouseModel" "minutes" "I") (by decide +kernel)) (fun _ h9 => h9) rfl dX6_minute_26 ?_
      refine lv_bipush (v := 12) hx hb dX6_minute_29 (by decide) ?_
      refine lv_irem hx hb dX6_minute_31 (by decide) ?_
      refine lv_topi (fun v_4 ev_4 => ?_)
      have hF := nm_at hF ev_4
      refine lv_istore_n (lv' := [(2, .int v_4), (0, .ref (a6 0)), (1, .int p1)]) hx hb dX6_minute_32 rfl hl (by decide) rfl (fun ls hl => ?_)
      refine lv_aload_n hx hb dX6_minute_33 rfl (lv_at hl 1 rfl) ?_
      refine lv_dup hx hb dX6_minute_34 rfl ?_
      refine va_get (D := D) (ci := 6) (v := .int (S6 37)) (C := RX6) (T := TX6) (N := 42) hx hb hts hiX6 hown hK hP 0 rfl rfl 37 (by decide) (hts (.fieldLink RX6 234 "PanoramaHouseModel" "there" "I") (by decide +kernel)) (fun _ h9 => h9) rfl dX6_minute_35 ?_
      refine lv_aload_n hx hb dX6_minute_38 rfl (lv_at hl 1 rfl) ?_
      refine va_get (D := D) (ci := 6) (v := .ref (a6 42)) (C := RX6) (T := TX6) (N := 42) hx hb hts hiX6 hown hK hP 0 rfl rfl 41 (by decide) (hts (.fieldLink RX6 99 "PanoramaHouseModel" "up" "[I") (by decide +kernel)) (fun _ h9 => h9) rfl dX6_minute_39 ?_
      refine lv_iload_n hx hb dX6_minute_42 rfl (lv_at hl 0 rfl) ?_
      obtain ⟨h_5, hF⟩ := ix_at hF
      refine va_iald hx hb hK hP 27 0 rfl rfl h_5 dX6_minute_43 ?_
      refine lv_isub hx hb dX6_minute_44 ?_
      refine va_put (D := D) (ci := 6) (v := .int ((S6 37) - (A6 41 (v_4).toNatClampNeg))) (ty := .int) (C := RX6) (T := TX6) (N := 42) hx hb hts hiX6 tyX6 tyX6_ok nmX6 hown hK hP hD hS 0 rfl rfl 37 (by decide) (hts (.fieldLink RX6 234 "PanoramaHouseModel" "there" "I") (by decide +kernel)) (fun _ h9 => h9) rfl (by decide +kernel) rfl rfl (Nat.le_of_ble_eq_true rfl) dX6_minute_45 (fun H locs hP hD hS => ?_)
      obtain ⟨S6_6, eS6_6, hF⟩ := nm_ex hF
      have hP : va_P D vwCl (wX6 C a6 S6_6 A6 G6) H := by rw [eS6_6]; exact hP
      have hD : va_D A (wX6 C a6 S6_6 A6 G6) := by rw [eS6_6]; exact hD
      refine lv_aload_n hx hb dX6_minute_48 rfl (lv_at hl 1 rfl) ?_
      refine lv_dup hx hb dX6_minute_49 rfl ?_
      refine va_get (D := D) (ci := 6) (v := .int (S6_6 38)) (C := RX6) (T := TX6) (N := 42) hx hb hts hiX6 hown hK hP 0 rfl rfl 38 (by decide) (hts (.fieldLink RX6 237 "PanoramaHouseModel" "gones" "I") (by decide +kernel)) (fun _ h9 => h9) rfl dX6_minute_50 ?_
      refine lv_aload_n hx hb dX6_minute_53 rfl (lv_at hl 1 rfl) ?_
      refine va_get (D := D) (ci := 6) (v := .ref (a6 42)) (C := RX6) (T := TX6) (N := 42) hx hb hts hiX6 hown hK hP 0 rfl rfl 41 (by decide) (hts (.fieldLink RX6 99 "PanoramaHouseModel" "up" "[I") (by decide +kernel)) (fun _ h9 => h9) rfl dX6_minute_54 ?_
      refine lv_iload_n hx hb dX6_minute_57 rfl (lv_at hl 0 rfl) ?_
      obtain ⟨h_7, hF⟩ := ix_at hF
      refine va_iald hx hb hK hP 27 0 rfl rfl h_7 dX6_minute_58 ?_
      refine lv_iadd hx hb dX6_minute_59 ?_
      refine va_put (D := D) (ci := 6) (v := .int ((S6_6 38) + (A6 41 (v_4).toNatClampNeg))) (ty := .int) (C := RX6) (T := TX6) (N := 42) hx hb hts hiX6 tyX6 tyX6_ok nmX6 hown hK hP hD hS 0 rfl rfl 38 (by decide) (hts (.fieldLink RX6 237 "PanoramaHouseModel" "gones" "I") (by decide +kernel)) (fun _ h9 => h9) rfl (by decide +kernel) rfl rfl (Nat.le_of_ble_eq_true rfl) dX6_minute_60 (fun H locs hP hD hS => ?_)
      obtain ⟨S6_8, eS6_8, hF⟩ := nm_ex hF
      have hP : va_P D vwCl (wX6 C a6 S6_8 A6 G6) H := by rw [eS6_8]; exact hP
      have hD : va_D A (wX6 C a6 S6_8 A6 G6) := by rw [eS6_8]; exact hD
      refine lv_aload_n hx hb dX6_minute_63 rfl (lv_at hl 1 rfl) ?_
      refine lv_dup hx hb dX6_minute_64 rfl ?_
      refine va_get (D := D) (ci := 6) (v := .int (S6_8 36)) (C := RX6) (T := TX6) (N := 42) hx hb hts hiX6 hown hK hP 0 rfl rfl 36 (by decide) (hts (.fieldLink RX6 228 "PanoramaHouseModel" "waiting" "I") (by decide +kernel)) (fun _ h9 => h9) rfl dX6_minute_65 ?_
      refine lv_iload_n hx hb dX6_minute_68 rfl (lv_at hl 2 rfl) ?_
      refine lv_iadd hx hb dX6_minute_69 ?_
      refine va_put (D := D) (ci := 6) (v := .int ((S6_8 36) + p1)) (ty := .int) (C := RX6) (T := TX6) (N := 42) hx hb hts hiX6 tyX6 tyX6_ok nmX6 hown hK hP hD hS 0 rfl rfl 36 (by decide) (hts (.fieldLink RX6 228 "PanoramaHouseModel" "waiting" "I") (by decide +kernel)) (fun _ h9 => h9) rfl (by decide +kernel) rfl rfl (Nat.le_of_ble_eq_true rfl) dX6_minute_70 (fun H locs hP hD hS => ?_)
      obtain ⟨S6_9, eS6_9, hF⟩ := nm_ex hF
      have hP : va_P D vwCl (wX6 C a6 S6_9 A6 G6) H := by rw [eS6_9]; exact hP
      have hD : va_D A (wX6 C a6 S6_9 A6 G6) := by rw [eS6_9]; exact hD
      refine lv_aload_n hx hb dX6_minute_73 rfl (lv_at hl 1 rfl) ?_
      refine va_get (D := D) (ci := 6) (v := .ref (a6 42)) (C := RX6) (T := TX6) (N := 42) hx hb hts hiX6 hown hK hP 0 rfl rfl 41 (by decide) (hts (.fieldLink RX6 99 "PanoramaHouseModel" "up" "[I") (by decide +kernel)) (fun _ h9 => h9) rfl dX6_minute_74 ?_
      refine lv_iload_n hx hb dX6_minute_77 rfl (lv_at hl 0 rfl) ?_
      refine lv_iconst (v := 0) hx hb dX6_minute_78 (by decide) ?_
      refine lv_bipush (v := 8) hx hb dX6_minute_79 (by decide) ?_
      refine lv_aload_n hx hb dX6_minute_81 rfl (lv_at hl 1 rfl) ?_
      refine va_get (D := D) (ci := 6) (v := .int (S6_9 36)) (C := RX6) (T := TX6) (N := 42) hx hb hts hiX6 hown hK hP 0 rfl rfl 36 (by decide) (hts (.fieldLink RX6 228 "PanoramaHouseModel" "waiting" "I") (by decide +kernel)) (fun _ h9 => h9) rfl dX6_minute_82 ?_
      refine lv_aload_n hx hb dX6_minute_85 rfl (lv_at hl 1 rfl) ?_
      refine va_get (D := D) (ci := 6) (v := .int (S6_9 35)) (C := RX6) (T := TX6) (N := 42) hx hb hts hiX6 hown hK hP 0 rfl rfl 35 (by decide) (hts (.fieldLink RX6 96 "PanoramaHouseModel" "most" "I") (by decide +kernel)) (fun _ h9 => h9) rfl dX6_minute_86 ?_
      refine lv_aload_n hx hb dX6_minute_89 rfl (lv_at hl 1 rfl) ?_
      refine va_get (D := D) (ci := 6) (v := .int (S6_9 37)) (C := RX6) (T := TX6) (N := 42) hx hb hts hiX6 hown hK hP 0 rfl rfl 37 (by decide) (hts (.fieldLink RX6 234 "PanoramaHouseModel" "there" "I") (by decide +kernel)) (fun _ h9 => h9) rfl dX6_minute_90 ?_
      refine lv_isub hx hb dX6_minute_93 ?_
      refine va_mmin hx hb (hml.trans hl.1.symm) hown (hts (.methodLink RX6 138 Lib.Math.min.name) (by decide +kernel)) (hts (.static Lib.Math.min.name) (by decide +kernel)) (hts (.initialized "java/lang/Math") (by decide +kernel)) (hts (.code Lib.Math.min.name Lib.Math.min.code 2 (some .int)) (by decide +kernel)) (Nat.le_of_ble_eq_true rfl) (Nat.le_of_ble_eq_true rfl) (Nat.zero_le _) (Nat.zero_le _) dX6_minute_94 ?_
      refine lv_topi (fun v_10 ev_10 => ?_)
      have hF := nm_at hF ev_10
      refine va_mmin hx hb (hml.trans hl.1.symm) hown (hts (.methodLink RX6 138 Lib.Math.min.name) (by decide +kernel)) (hts (.static Lib.Math.min.name) (by decide +kernel)) (hts (.initialized "java/lang/Math") (by decide +kernel)) (hts (.code Lib.Math.min.name Lib.Math.min.code 2 (some .int)) (by decide +kernel)) (Nat.le_of_ble_eq_true rfl) (Nat.le_of_ble_eq_true rfl) (Nat.zero_le _) (Nat.zero_le _) dX6_minute_97 ?_
      refine lv_topi (fun v_11 ev_11 => ?_)
      have hF := nm_at hF ev_11
      refine va_mmax hx hb (hml.trans hl.1.symm) hown (hts (.methodLink RX6 119 Lib.Math.max.name) (by decide +kernel)) (hts (.static Lib.Math.max.name) (by decide +kernel)) (hts (.initialized "java/lang/Math") (by decide +kernel)) (hts (.code Lib.Math.max.name Lib.Math.max.code 2 (some .int)) (by decide +kernel)) (Nat.le_of_ble_eq_true rfl) (Nat.le_of_ble_eq_true rfl) (Nat.zero_le _) (Nat.zero_le _) dX6_minute_100 ?_
      refine lv_topi (fun v_12 ev_12 => ?_)
      have hF := nm_at hF ev_12
      obtain ⟨h_13, hF⟩ := ix_at hF
      refine va_iast hx hb hK hP hD hS 27 0 rfl rfl h_13 dX6_minute_103 (fun H locs hP hD hS => ?_)
      obtain ⟨A6_14, eA6_14, hF⟩ := nm_ex hF
      have hP : va_P D vwCl (wX6 C a6 S6_9 A6_14 G6) H := by rw [eA6_14]; exact hP
      have hD : va_D A (wX6 C a6 S6_9 A6_14 G6) := by rw [eA6_14]; exact hD
      refine lv_aload_n hx hb dX6_minute_104 rfl (lv_at hl 1 rfl) ?_
      refine lv_dup hx hb dX6_minute_105 rfl ?_
      refine va_get (D := D) (ci := 6) (v := .int (S6_9 36)) (C := RX6) (T := TX6) (N := 42) hx hb hts hiX6 hown hK hP 0 rfl rfl 36 (by decide) (hts (.fieldLink RX6 228 "PanoramaHouseModel" "waiting" "I") (by decide +kernel)) (fun _ h9 => h9) rfl dX6_minute_106 ?_
      refine lv_aload_n hx hb dX6_minute_109 rfl (lv_at hl 1 rfl) ?_
      refine va_get (D := D) (ci := 6) (v := .ref (a6 42)) (C := RX6) (T := TX6) (N := 42) hx hb hts hiX6 hown hK hP 0 rfl rfl 41 (by decide) (hts (.fieldLink RX6 99 "PanoramaHouseModel" "up" "[I") (by decide +kernel)) (fun _ h9 => h9) rfl dX6_minute_110 ?_
      refine lv_iload_n hx hb dX6_minute_113 rfl (lv_at hl 0 rfl) ?_
      obtain ⟨h_15, hF⟩ := ix_at hF
      refine va_iald hx hb hK hP 27 0 rfl rfl h_15 dX6_minute_114 ?_
      refine lv_isub hx hb dX6_minute_115 ?_
      refine va_put (D := D) (ci := 6) (v := .int ((S6_9 36) - (A6_14 41 (v_4).toNatClampNeg))) (ty := .int) (C := RX6) (T := TX6) (N := 42) hx hb hts hiX6 tyX6 tyX6_ok nmX6 hown hK hP hD hS 0 rfl rfl 36 (by decide) (hts (.fieldLink RX6 228 "PanoramaHouseModel" "waiting" "I") (by decide +kernel)) (fun _ h9 => h9) rfl (by decide +kernel) rfl rfl (Nat.le_of_ble_eq_true rfl) dX6_minute_116 (fun H locs hP hD hS => ?_)
      obtain ⟨S6_16, eS6_16, hF⟩ := nm_ex hF
      have hP : va_P D vwCl (wX6 C a6 S6_16 A6_14 G6) H := by rw [eS6_16]; exact hP
      have hD : va_D A (wX6 C a6 S6_16 A6_14 G6) := by rw [eS6_16]; exact hD
      refine lv_aload_n hx hb dX6_minute_119 rfl (lv_at hl 1 rfl) ?_
      refine lv_dup hx hb dX6_minute_120 rfl ?_
      refine va_get (D := D) (ci := 6) (v := .int (S6_16 37)) (C := RX6) (T := TX6) (N := 42) hx hb hts hiX6 hown hK hP 0 rfl rfl 37 (by decide) (hts (.fieldLink RX6 234 "PanoramaHouseModel" "there" "I") (by decide +kernel)) (fun _ h9 => h9) rfl dX6_minute_121 ?_
      refine lv_aload_n hx hb dX6_minute_124 rfl (lv_at hl 1 rfl) ?_
      refine va_get (D := D) (ci := 6) (v := .ref (a6 42)) (C := RX6) (T := TX6) (N := 42) hx hb hts hiX6 hown hK hP 0 rfl rfl 41 (by decide) (hts (.fieldLink RX6 99 "PanoramaHouseModel" "up" "[I") (by decide +kernel)) (fun _ h9 => h9) rfl dX6_minute_125 ?_
      refine lv_iload_n hx hb dX6_minute_128 rfl (lv_at hl 0 rfl) ?_
      obtain ⟨h_17, hF⟩ := ix_at hF
      refine va_iald hx hb hK hP 27 0 rfl rfl h_17 dX6_minute_129 ?_
      refine lv_iadd hx hb dX6_minute_130 ?_
      refine va_put (D := D) (ci := 6) (v := .int ((S6_16 37) + (A6_14 41 (v_4).toNatClampNeg))) (ty := .int) (C := RX6) (T := TX6) (N := 42) hx hb hts hiX6 tyX6 tyX6_ok nmX6 hown hK hP hD hS 0 rfl rfl 37 (by decide) (hts (.fieldLink RX6 234 "PanoramaHouseModel" "there" "I") (by decide +kernel)) (fun _ h9 => h9) rfl (by decide +kernel) rfl rfl (Nat.le_of_ble_eq_true rfl) dX6_minute_131 (fun H locs hP hD hS => ?_)
      obtain ⟨S6_18, eS6_18, hF⟩ := nm_ex hF
      have hP : va_P D vwCl (wX6 C a6 S6_18 A6_14 G6) H := by rw [eS6_18]; exact hP
      have hD : va_D A (wX6 C a6 S6_18 A6_14 G6) := by rw [eS6_18]; exact hD
      refine lv_aload_n hx hb dX6_minute_134 rfl (lv_at hl 1 rfl) ?_
      refine lv_aload_n hx hb dX6_minute_135 rfl (lv_at hl 1 rfl) ?_
      refine va_get (D := D) (ci := 6) (v := .int (S6_18 40)) (C := RX6) (T := TX6) (N := 42) hx hb hts hiX6 hown hK hP 0 rfl rfl 40 (by decide) (hts (.fieldLink RX6 240 "PanoramaHouseModel" "greatest" "I") (by decide +kernel)) (fun _ h9 => h9) rfl dX6_minute_136 ?_
      refine lv_aload_n hx hb dX6_minute_139 rfl (lv_at hl 1 rfl) ?_
      refine va_get (D := D) (ci := 6) (v := .int (S6_18 37)) (C := RX6) (T := TX6) (N := 42) hx hb hts hiX6 hown hK hP 0 rfl rfl 37 (by decide) (hts (.fieldLink RX6 234 "PanoramaHouseModel" "there" "I") (by decide +kernel)) (fun _ h9 => h9) rfl dX6_minute_140 ?_
      refine va_mmax hx hb (hml.trans hl.1.symm) hown (hts (.methodLink RX6 119 Lib.Math.max.name) (by decide +kernel)) (hts (.static Lib.Math.max.name) (by decide +kernel)) (hts (.initialized "java/lang/Math") (by decide +kernel)) (hts (.code Lib.Math.max.name Lib.Math.max.code 2 (some .int)) (by decide +kernel)) (Nat.le_of_ble_eq_true rfl) (Nat.le_of_ble_eq_true rfl) (Nat.zero_le _) (Nat.zero_le _) dX6_minute_143 ?_
      refine lv_topi (fun v_19 ev_19 => ?_)
      have hF := nm_at hF ev_19
      refine va_put (D := D) (ci := 6) (v := .int v_19) (ty := .int) (C := RX6) (T := TX6) (N := 42) hx hb hts hiX6 tyX6 tyX6_ok nmX6 hown hK hP hD hS 0 rfl rfl 40 (by decide) (hts (.fieldLink RX6 240 "PanoramaHouseModel" "greatest" "I") (by decide +kernel)) (fun _ h9 => h9) rfl (by decide +kernel) rfl rfl (Nat.le_of_ble_eq_true rfl) dX6_minute_146 (fun H locs hP hD hS => ?_)
      obtain ⟨S6_20, eS6_20, hF⟩ := nm_ex hF
      have hP : va_P D vwCl (wX6 C a6 S6_20 A6_14 G6) H := by rw [eS6_20]; exact hP
      have hD : va_D A (wX6 C a6 S6_20 A6_14 G6) := by rw [eS6_20]; exact hD
      refine lv_aload_n hx hb dX6_minute_149 rfl (lv_at hl 1 rfl) ?_
      refine lv_dup hx hb dX6_minute_150 rfl ?_
      refine va_get (D := D) (ci := 6) (v := .int (S6_20 39)) (C := RX6) (T := TX6) (N := 42) hx hb hts hiX6 hown hK hP 0 rfl rfl 39 (by decide) (hts (.fieldLink RX6 231 "PanoramaHouseModel" "minutes" "I") (by decide +kernel)) (fun _ h9 => h9) rfl dX6_minute_151 ?_
      refine lv_iconst (v := 1) hx hb dX6_minute_154 (by decide) ?_
      refine lv_iadd hx hb dX6_minute_155 ?_
      refine va_put (D := D) (ci := 6) (v := .int ((S6_20 39) + 1)) (ty := .int) (C := RX6) (T := TX6) (N := 42) hx hb hts hiX6 tyX6 tyX6_ok nmX6 hown hK hP hD hS 0 rfl rfl 39 (by decide) (hts (.fieldLink RX6 231 "PanoramaHouseModel" "minutes" "I") (by decide +kernel)) (fun _ h9 => h9) rfl (by decide +kernel) rfl rfl (Nat.le_of_ble_eq_true rfl) dX6_minute_156 (fun H locs hP hD hS => ?_)
      obtain ⟨S6_21, eS6_21, hF⟩ := nm_ex hF
      have hP : va_P D vwCl (wX6 C a6 S6_21 A6_14 G6) H := by rw [eS6_21]; exact hP
      have hD : va_D A (wX6 C a6 S6_21 A6_14 G6) := by rw [eS6_21]; exact hD
      refine lv_aload_n hx hb dX6_minute_159 rfl (lv_at hl 1 rfl) ?_
      refine va_get (D := D) (ci := 6) (v := .ref (a6 42)) (C := RX6) (T := TX6) (N := 42) hx hb hts hiX6 hown hK hP 0 rfl rfl 41 (by decide) (hts (.fieldLink RX6 99 "PanoramaHouseModel" "up" "[I") (by decide +kernel)) (fun _ h9 => h9) rfl dX6_minute_160 ?_
      refine lv_iload_n hx hb dX6_minute_163 rfl (lv_at hl 0 rfl) ?_
      obtain ⟨h_22, hF⟩ := ix_at hF
      refine va_iald hx hb hK hP 27 0 rfl rfl h_22 dX6_minute_164 ?_
      cases hF
      exact hret _ _ _ _ dX6_minute_165 rfl hP hD hS
    · have hF := ifn hF c_3
      refine lv_iconst (v := -1) hx hb dX6_minute_23 (by decide) ?_
      cases hF
      exact hret _ _ _ _ dX6_minute_24 rfl hP hD hS
abbrev rmX6_crowd : Room := { frames := 1, cells := 0, slots := 0, locals := 32 }
set_option maxRecDepth 100000 in
set_option maxHeartbeats 4000000 in
theorem c_X6_crowd (l : Launch) (K : Kx) (D : va_G) (C : Nat → ClassId) (a6 : Nat → Nat) (S6 : Nat → Int32) (A6 : Nat → Nat → Int32) (G6 : Nat → Nat → Int64) (p1 : Int32) (z : Int32) (hF : F_X6_crowd S6 p1 = some z) : MetI l yX6_crowd wsX6_crowd rmX6_crowd K D (tyV C) (wX6 C a6 S6 A6 G6) [.ref (a6 0), .int p1] (wX6 C a6 S6 A6 G6) z := by
  refine met_int (cc := cX6_crowd) (maxL := 2) (ty := .int) (by decide +kernel) rfl (Nat.le_of_ble_eq_true rfl) ?_
  intro p e s m below meth c A Q ls ⟨hx, hb, hml, hown, hts, hK, hA, hZ⟩ hP hD hS hl hret
  have hown : s.vm.findClass RX6 = some m.cls := hown
  have hiX6 : ∀ w ∈ u_ws RX6 TX6 42, w ∈ wsX6_crowd := by decide +kernel
  have hl : lv_has ls 2 [(0, .ref (a6 0)), (1, .int p1)] := hl
  unfold F_X6_crowd at hF
  refine lv_iload_n hx hb dX6_crowd_0 rfl (lv_at hl 1 rfl) ?_
  rcases Decidable.em (p1 = 0) with c_1 | c_1
  · have hF := ifp hF c_1
    refine lv_tableIn (tgt := 40) hx hb dX6_crowd_1 (by rw [c_1]; decide) (by rw [c_1]; decide) (by rw [c_1]; rfl) (by decide) ?_
    refine lv_aload_n hx hb dX6_crowd_40 rfl (lv_at hl 0 rfl) ?_
    refine va_get (D := D) (ci := 6) (v := .int (S6 37)) (C := RX6) (T := TX6) (N := 42) hx hb hts hiX6 hown hK hP 0 rfl rfl 37 (by decide) (hts (.fieldLink RX6 234 "PanoramaHouseModel" "there" "I") (by decide +kernel)) (fun _ h9 => h9) rfl dX6_crowd_41 ?_
    cases hF
    exact hret _ _ _ _ dX6_crowd_44 rfl hP hD hS
  · have hF := ifn hF c_1
    rcases Decidable.em (p1 = 1) with c_2 | c_2
    · have hF := ifp hF c_2
      refine lv_tableIn (tgt := 45) hx hb dX6_crowd_1 (by rw [c_2]; decide) (by rw [c_2]; decide) (by rw [c_2]; rfl) (by decide) ?_
      refine lv_aload_n hx hb dX6_crowd_45 rfl (lv_at hl 0 rfl) ?_
      refine va_get (D := D) (ci := 6) (v := .int (S6 36)) (C := RX6) (T := TX6) (N := 42) hx hb hts hiX6 hown hK hP 0 rfl rfl 36 (by decide) (hts (.fieldLink RX6 228 "PanoramaHouseModel" "waiting" "I") (by decide +kernel)) (fun _ h9 => h9) rfl dX6_crowd_46 ?_
      cases hF
      exact hret _ _ _ _ dX6_crowd_49 rfl hP hD hS
    · have hF := ifn hF c_2
      rcases Decidable.em (p1 = 2) with c_3 | c_3
      · have hF := ifp hF c_3
        refine lv_tableIn (tgt := 50) hx hb dX6_crowd_1 (by rw [c_3]; decide) (by rw [c_3]; decide) (by rw [c_3]; rfl) (by decide) ?_
        refine lv_aload_n hx hb dX6_crowd_50 rfl (lv_at hl 0 rfl) ?_
        refine va_get (D := D) (ci := 6) (v := .int (S6 38)) (C := RX6) (T := TX6) (N := 42) hx hb hts hiX6 hown hK hP 0 rfl rfl 38 (by decide) (hts (.fieldLink RX6 237 "PanoramaHouseModel" "gones" "I") (by decide +kernel)) (fun _ h9 => h9) rfl dX6_crowd_51 ?_
        cases hF
        exact hret _ _ _ _ dX6_crowd_54 rfl hP hD hS
      · have hF := ifn hF c_3
        rcases Decidable.em (p1 = 3) with c_4 | c_4
        · have hF := ifp hF c_4
          refine lv_tableIn (tgt := 55) hx hb dX6_crowd_1 (by rw [c_4]; decide) (by rw [c_4]; decide) (by rw [c_4]; rfl) (by decide) ?_
          refine lv_aload_n hx hb dX6_crowd_55 rfl (lv_at hl 0 rfl) ?_
          refine va_get (D := D) (ci := 6) (v := .int (S6 39)) (C := RX6) (T := TX6) (N := 42) hx hb hts hiX6 hown hK hP 0 rfl rfl 39 (by decide) (hts (.fieldLink RX6 231 "PanoramaHouseModel" "minutes" "I") (by decide +kernel)) (fun _ h9 => h9) rfl dX6_crowd_56 ?_
          cases hF
          exact hret _ _ _ _ dX6_crowd_59 rfl hP hD hS
        · have hF := ifn hF c_4
          rcases Decidable.em (p1 = 4) with c_5 | c_5
          · have hF := ifp hF c_5
            refine lv_tableIn (tgt := 60) hx hb dX6_crowd_1 (by rw [c_5]; decide) (by rw [c_5]; decide) (by rw [c_5]; rfl) (by decide) ?_
            refine lv_aload_n hx hb dX6_crowd_60 rfl (lv_at hl 0 rfl) ?_
            refine va_get (D := D) (ci := 6) (v := .int (S6 40)) (C := RX6) (T := TX6) (N := 42) hx hb hts hiX6 hown hK hP 0 rfl rfl 40 (by decide) (hts (.fieldLink RX6 240 "PanoramaHouseModel" "greatest" "I") (by decide +kernel)) (fun _ h9 => h9) rfl dX6_crowd_61 ?_
            cases hF
            exact hret _ _ _ _ dX6_crowd_64 rfl hP hD hS
          · have hF := ifn hF c_5
            rcases Decidable.em (p1 = 5) with c_6 | c_6
            · have hF := ifp hF c_6
              refine lv_tableIn (tgt := 65) hx hb dX6_crowd_1 (by rw [c_6]; decide) (by rw [c_6]; decide) (by rw [c_6]; rfl) (by decide) ?_
              refine lv_aload_n hx hb dX6_crowd_65 rfl (lv_at hl 0 rfl) ?_
              refine va_get (D := D) (ci := 6) (v := .int (S6 35)) (C := RX6) (T := TX6) (N := 42) hx hb hts hiX6 hown hK hP 0 rfl rfl 35 (by decide) (hts (.fieldLink RX6 96 "PanoramaHouseModel" "most" "I") (by decide +kernel)) (fun _ h9 => h9) rfl dX6_crowd_66 ?_
              cases hF
              exact hret _ _ _ _ dX6_crowd_69 rfl hP hD hS
            · have hF := ifn hF c_6
              have ic_1 : (p1).toInt ≠ 0 := fun h => c_1 (Int32.toInt_inj.mp (h.trans (by decide)))
              have ic_2 : (p1).toInt ≠ 1 := fun h => c_2 (Int32.toInt_inj.mp (h.trans (by decide)))
              have ic_3 : (p1).toInt ≠ 2 := fun h => c_3 (Int32.toInt_inj.mp (h.trans (by decide)))
              have ic_4 : (p1).toInt ≠ 3 := fun h => c_4 (Int32.toInt_inj.mp (h.trans (by decide)))
              have ic_5 : (p1).toInt ≠ 4 := fun h => c_5 (Int32.toInt_inj.mp (h.trans (by decide)))
              have ic_6 : (p1).toInt ≠ 5 := fun h => c_6 (Int32.toInt_inj.mp (h.trans (by decide)))
              refine lv_tableOut (tgt := 70) hx hb dX6_crowd_1 (by omega) (by decide) ?_
              refine lv_iconst (v := -1) hx hb dX6_crowd_70 (by decide) ?_
              cases hF
              exact hret _ _ _ _ dX6_crowd_71 rfl hP hD hS
abbrev rmX6_count : Room := { frames := 5, cells := 0, slots := 0, locals := 126 }
set_option maxRecDepth 100000 in
set_option maxHeartbeats 4000000 in
theorem c_X6_count (l : Launch) (K : Kx) (D : va_G) (C : Nat → ClassId) (a6 : Nat → Nat) (S6 : Nat → Int32) (A6 : Nat → Nat → Int32) (G6 : Nat → Nat → Int64) (p1 : Int32) (z : Int32 × (Nat → Nat → Int32)) (hF : F_X6_count S6 A6 p1 = some z) : MetI l yX6_count wsX6_count rmX6_count K D (tyV C) (wX6 C a6 S6 A6 G6) [.ref (a6 0), .int p1] (wX6 C a6 S6 z.2 G6) z.1 := by
  refine met_int (cc := cX6_count) (maxL := 4) (ty := .int) (by decide +kernel) rfl (Nat.le_of_ble_eq_true rfl) ?_
  intro p e s m below meth c A Q ls ⟨hx, hb, hml, hown, hts, hK, hA, hZ⟩ hP hD hS hl hret
  have hown : s.vm.findClass RX6 = some m.cls := hown
  have hiX6 : ∀ w ∈ u_ws RX6 TX6 42, w ∈ wsX6_count := by decide +kernel
  have hl : lv_has ls 4 [(0, .ref (a6 0)), (1, .int p1)] := hl
  unfold F_X6_count at hF
  obtain ⟨J126, eJ126, hF⟩ := nm_ex hF
  have bJ126 : ∀ (x2 : Int32) (A6 : Nat → Nat → Int32), J126 x2 A6 = some z → ∀ (H : Heap) (locs : List Loc) (ls : Array Slot), va_P D vwCl (wX6 C a6 S6 A6 G6) H → va_D A (wX6 C a6 S6 A6 G6) → va_S A s.heap H locs → lv_has ls 4 [(2, .int x2)] → W p l e rmX6_count s m ([.ref (a6 0), .int p1] : List Value).toArray below meth c H locs 0 0 Q (F0 m 126 ls []) := by
    intro x2 A6 hF H locs ls hP hD hS hl
    rw [eJ126] at hF
    refine lv_iload_n hx hb dX6_count_126 rfl (lv_at hl 0 rfl) ?_
    cases hF
    exact hret _ _ _ _ dX6_count_127 rfl hP hD hS
  have bL96 : ∀ (n : Nat) (x2 : Int32) (x3 : Int32) (A6 : Nat → Nat → Int32), L_X6_count_96 S6 J126 n x2 x3 A6 = some z → ∀ (H : Heap) (locs : List Loc) (ls : Array Slot), va_P D vwCl (wX6 C a6 S6 A6 G6) H → va_D A (wX6 C a6 S6 A6 G6) → va_S A s.heap H locs → lv_has ls 4 [(0, .ref (a6 0)), (2, .int x2), (3, .int x3)] → W p l e rmX6_count s m ([.ref (a6 0), .int p1] : List Value).toArray below meth c H locs 0 0 Q (F0 m 96 ls []) := by
    intro n
    induction n with
    | zero => intro x2 x3 A6 hF; rw [L_X6_count_96.eq_1] at hF; cases hF
    | succ n ih96 =>
      intro x2 x3 A6 hF H locs ls hP hD hS hl
      rw [L_X6_count_96.eq_2] at hF
      obtain ⟨J118, eJ118, hF⟩ := nm_ex hF
      have bJ118 : ∀ (x3 : Int32) (y0 : Int32) (y1 : Int32) (A6 : Nat → Nat → Int32), J118 x3 y0 y1 A6 = some z → ∀ (H : Heap) (locs : List Loc) (ls : Array Slot), va_P D vwCl (wX6 C a6 S6 A6 G6) H → va_D A (wX6 C a6 S6 A6 G6) → va_S A s.heap H locs → lv_has ls 4 [(0, .ref (a6 0)), (3, .int x3)] → W p l e rmX6_count s m ([.ref (a6 0), .int p1] : List Value).toArray below meth c H locs 0 0 Q (F0 m 118 ls [.int y0, .int y1]) := by
        intro x3 y0 y1 A6 hF H locs ls hP hD hS hl
        rw [eJ118] at hF
        refine lv_iadd hx hb dX6_count_118 ?_
        refine lv_topi (fun v_1 ev_1 => ?_)
        have hF := nm_at hF ev_1
        refine lv_istore_n (lv' := [(2, .int v_1), (0, .ref (a6 0)), (3, .int x3)]) hx hb dX6_count_119 rfl hl (by decide) rfl (fun ls hl => ?_)
        obtain ⟨v_2, ev_2⟩ : ∃ y : Int32, y = x3 + 1 := ⟨_, rfl⟩
        have hF := nm_at hF ev_2
        refine lv_iinc (v := v_2) (lv' := [(3, .int v_2), (2, .int v_1), (0, .ref (a6 0))]) hx hb dX6_count_120 hl (k := 2) rfl (by rw [ev_2]; rfl) (by decide) rfl (fun ls hl => ?_)
        refine lv_goto (tgt := 96) hx hb dX6_count_123 (by decide) ?_
        exact ih96 v_1 v_2 A6 hF _ _ _ hP hD hS (lv_sub hl [2, 1, 0] rfl)
      refine lv_iload_n hx hb dX6_count_96 rfl (lv_at hl 2 rfl) ?_
      refine lv_bipush (v := 72) hx hb dX6_count_97 (by decide) ?_
      refine lv_icmp_ge (tgt := 126) hx hb dX6_count_99 (by decide) (fun c_3 => ?_) (fun c_3 => ?_)
      · have hF := ifp hF c_3
        exact bJ126 x2 A6 hF _ _ _ hP hD hS (lv_sub hl [1] rfl)
      · have hF := ifn hF c_3
        refine lv_iload_n hx hb dX6_count_102 rfl (lv_at hl 1 rfl) ?_
        refine lv_aload_n hx hb dX6_count_103 rfl (lv_at hl 0 rfl) ?_
        refine va_get (D := D) (ci := 6) (v := .ref (a6 8)) (C := RX6) (T := TX6) (N := 42) hx hb hts hiX6 hown hK hP 0 rfl rfl 7 (by decide) (hts (.fieldLink RX6 28 "PanoramaHouseModel" "coats" "[I") (by decide +kernel)) (fun _ h9 => h9) rfl dX6_count_104 ?_
        refine lv_iload_n hx hb dX6_count_107 rfl (lv_at hl 2 rfl) ?_
        obtain ⟨h_4, hF⟩ := ix_at hF
        refine va_iald hx hb hK hP 6 0 rfl rfl h_4 dX6_count_108 ?_
        refine lv_iconst (v := 2) hx hb dX6_count_109 (by decide) ?_
        refine lv_icmp_ne (tgt := 117) hx hb dX6_count_110 (by decide) (fun c_5 => ?_) (fun c_5 => ?_)
        · have hF := ifn hF c_5
          refine lv_iconst (v := 0) hx hb dX6_count_117 (by decide) ?_
          exact bJ118 x3 0 x2 A6 hF _ _ _ hP hD hS (lv_sub hl [0, 2] rfl)
        · have hF := ifp hF c_5
          refine lv_iconst (v := 1) hx hb dX6_count_113 (by decide) ?_
          refine lv_goto (tgt := 118) hx hb dX6_count_114 (by decide) ?_
          exact bJ118 x3 1 x2 A6 hF _ _ _ hP hD hS (lv_sub hl [0, 2] rfl)
  obtain ⟨J92, eJ92, hF⟩ := nm_ex hF
  have bJ92 : ∀ (x2 : Int32) (A6 : Nat → Nat → Int32), J92 x2 A6 = some z → ∀ (H : Heap) (locs : List Loc) (ls : Array Slot), va_P D vwCl (wX6 C a6 S6 A6 G6) H → va_D A (wX6 C a6 S6 A6 G6) → va_S A s.heap H locs → lv_has ls 4 [(2, .int x2)] → W p l e rmX6_count s m ([.ref (a6 0), .int p1] : List Value).toArray below meth c H locs 0 0 Q (F0 m 92 ls []) := by
    intro x2 A6 hF H locs ls hP hD hS hl
    rw [eJ92] at hF
    refine lv_iload_n hx hb dX6_count_92 rfl (lv_at hl 0 rfl) ?_
    cases hF
    exact hret _ _ _ _ dX6_count_93 rfl hP hD hS
  have bL62 : ∀ (n : Nat) (x2 : Int32) (x3 : Int32) (A6 : Nat → Nat → Int32), L_X6_count_62 S6 J92 n x2 x3 A6 = some z → ∀ (H : Heap) (locs : List Loc) (ls : Array Slot), va_P D vwCl (wX6 C a6 S6 A6 G6) H → va_D A (wX6 C a6 S6 A6 G6) → va_S A s.heap H locs → lv_has ls 4 [(0, .ref (a6 0)), (2, .int x2), (3, .int x3)] → W p l e rmX6_count s m ([.ref (a6 0), .int p1] : List Value).toArray below meth c H locs 0 0 Q (F0 m 62 ls []) := by
    intro n
    induction n with
    | zero => intro x2 x3 A6 hF; rw [L_X6_count_62.eq_1] at hF; cases hF
    | succ n ih62 =>
      intro x2 x3 A6 hF H locs ls hP hD hS hl
      rw [L_X6_count_62.eq_2] at hF
      obtain ⟨J84, eJ84, hF⟩ := nm_ex hF
      have bJ84 : ∀ (x3 : Int32) (y0 : Int32) (y1 : Int32) (A6 : Nat → Nat → Int32), J84 x3 y0 y1 A6 = some z → ∀ (H : Heap) (locs : List Loc) (ls : Array Slot), va_P D vwCl (wX6 C a6 S6 A6 G6) H → va_D A (wX6 C a6 S6 A6 G6) → va_S A s.heap H locs → lv_has ls 4 [(0, .ref (a6 0)), (3, .int x3)] → W p l e rmX6_count s m ([.ref (a6 0), .int p1] : List Value).toArray below meth c H locs 0 0 Q (F0 m 84 ls [.int y0, .int y1]) := by
        intro x3 y0 y1 A6 hF H locs ls hP hD hS hl
        rw [eJ84] at hF
        refine lv_iadd hx hb dX6_count_84 ?_
        refine lv_topi (fun v_6 ev_6 => ?_)
        have hF := nm_at hF ev_6
        refine lv_istore_n (lv' := [(2, .int v_6), (0, .ref (a6 0)), (3, .int x3)]) hx hb dX6_count_85 rfl hl (by decide) rfl (fun ls hl => ?_)
        obtain ⟨v_7, ev_7⟩ : ∃ y : Int32, y = x3 + 1 := ⟨_, rfl⟩
        have hF := nm_at hF ev_7
        refine lv_iinc (v := v_7) (lv' := [(3, .int v_7), (2, .int v_6), (0, .ref (a6 0))]) hx hb dX6_count_86 hl (k := 2) rfl (by rw [ev_7]; rfl) (by decide) rfl (fun ls hl => ?_)
        refine lv_goto (tgt := 62) hx hb dX6_count_89 (by decide) ?_
        exact ih62 v_6 v_7 A6 hF _ _ _ hP hD hS (lv_sub hl [2, 1, 0] rfl)
      refine lv_iload_n hx hb dX6_count_62 rfl (lv_at hl 2 rfl) ?_
      refine lv_sipush (v := 7200) hx hb dX6_count_63 (by decide) ?_
      refine lv_icmp_ge (tgt := 92) hx hb dX6_count_66 (by decide) (fun c_8 => ?_) (fun c_8 => ?_)
      · have hF := ifp hF c_8
        exact bJ92 x2 A6 hF _ _ _ hP hD hS (lv_sub hl [1] rfl)
      · have hF := ifn hF c_8
        refine lv_iload_n hx hb dX6_count_69 rfl (lv_at hl 1 rfl) ?_
        refine lv_aload_n hx hb dX6_count_70 rfl (lv_at hl 0 rfl) ?_
        refine lv_iload_n hx hb dX6_count_71 rfl (lv_at hl 2 rfl) ?_
        obtain ⟨z_9, fz_9, hF⟩ := bd_at hF
        refine callV_int ([]) ([]) (w' := wX6 C a6 S6 z_9.2 G6) (As := [.int x3]) (rest := [.int x2]) ⟨hx, hb, hml, hown, hts⟩ hK hA hZ (c_X6_viewAt l K D C a6 S6 A6 G6 x3 z_9 fz_9) (cwV 1 hts gX6_count_X6_viewAt rfl rfl rfl (by decide +kernel) ⟨Nat.le_of_ble_eq_true rfl, Nat.le_of_ble_eq_true rfl⟩) 0 rfl rfl rfl rfl hl.1 rfl (Nat.le_of_ble_eq_true rfl) ⟨Nat.zero_le _, Nat.zero_le _⟩ (by simp only [List.append_assoc, List.append_nil, List.nil_append]) (by simp only [List.append_assoc, List.append_nil, List.nil_append]) hP hD hS dX6_count_72 (fun H locs hP hD hS => ?_)
        refine lv_iconst (v := -1) hx hb dX6_count_75 (by decide) ?_
        refine lv_icmp_eq (tgt := 83) hx hb dX6_count_76 (by decide) (fun c_10 => ?_) (fun c_10 => ?_)
        · have hF := ifp hF c_10
          refine lv_iconst (v := 0) hx hb dX6_count_83 (by decide) ?_
          exact bJ84 x3 0 x2 z_9.2 hF _ _ _ hP hD hS (lv_sub hl [0, 2] rfl)
        · have hF := ifn hF c_10
          refine lv_iconst (v := 1) hx hb dX6_count_79 (by decide) ?_
          refine lv_goto (tgt := 84) hx hb dX6_count_80 (by decide) ?_
          exact bJ84 x3 1 x2 z_9.2 hF _ _ _ hP hD hS (lv_sub hl [0, 2] rfl)
  refine lv_iconst (v := 0) hx hb dX6_count_0 (by decide) ?_
  refine lv_istore_n (lv' := [(2, .int 0), (0, .ref (a6 0)), (1, .int p1)]) hx hb dX6_count_1 rfl hl (by decide) rfl (fun ls hl => ?_)
  refine lv_iload_n hx hb dX6_count_2 rfl (lv_at hl 2 rfl) ?_
  rcases Decidable.em (p1 = 0) with c_11 | c_11
  · have hF := ifp hF c_11
    refine lv_tableIn (tgt := 40) hx hb dX6_count_3 (by rw [c_11]; decide) (by rw [c_11]; decide) (by rw [c_11]; rfl) (by decide) ?_
    refine lv_aload_n hx hb dX6_count_40 rfl (lv_at hl 1 rfl) ?_
    refine va_get (D := D) (ci := 6) (v := .int (S6 3)) (C := RX6) (T := TX6) (N := 42) hx hb hts hiX6 hown hK hP 0 rfl rfl 3 (by decide) (hts (.fieldLink RX6 155 "PanoramaHouseModel" "today" "I") (by decide +kernel)) (fun _ h9 => h9) rfl dX6_count_41 ?_
    cases hF
    exact hret _ _ _ _ dX6_count_44 rfl hP hD hS
  · have hF := ifn hF c_11
    rcases Decidable.em (p1 = 1) with c_12 | c_12
    · have hF := ifp hF c_12
      refine lv_tableIn (tgt := 45) hx hb dX6_count_3 (by rw [c_12]; decide) (by rw [c_12]; decide) (by rw [c_12]; rfl) (by decide) ?_
      refine lv_aload_n hx hb dX6_count_45 rfl (lv_at hl 1 rfl) ?_
      refine va_get (D := D) (ci := 6) (v := .int (S6 4)) (C := RX6) (T := TX6) (N := 42) hx hb hts hiX6 hown hK hP 0 rfl rfl 4 (by decide) (hts (.fieldLink RX6 148 "PanoramaHouseModel" "gangs" "I") (by decide +kernel)) (fun _ h9 => h9) rfl dX6_count_46 ?_
      cases hF
      exact hret _ _ _ _ dX6_count_49 rfl hP hD hS
    · have hF := ifn hF c_12
      rcases Decidable.em (p1 = 2) with c_13 | c_13
      · have hF := ifp hF c_13
        refine lv_tableIn (tgt := 50) hx hb dX6_count_3 (by rw [c_13]; decide) (by rw [c_13]; decide) (by rw [c_13]; rfl) (by decide) ?_
        refine lv_aload_n hx hb dX6_count_50 rfl (lv_at hl 1 rfl) ?_
        refine va_get (D := D) (ci := 6) (v := .int (S6 21)) (C := RX6) (T := TX6) (N := 42) hx hb hts hiX6 hown hK hP 0 rfl rfl 21 (by decide) (hts (.fieldLink RX6 214 "PanoramaHouseModel" "halls" "I") (by decide +kernel)) (fun _ h9 => h9) rfl dX6_count_51 ?_
        cases hF
        exact hret _ _ _ _ dX6_count_54 rfl hP hD hS
      · have hF := ifn hF c_13
        rcases Decidable.em (p1 = 3) with c_14 | c_14
        · have hF := ifp hF c_14
          refine lv_tableIn (tgt := 55) hx hb dX6_count_3 (by rw [c_14]; decide) (by rw [c_14]; decide) (by rw [c_14]; rfl) (by decide) ?_
          refine lv_aload_n hx hb dX6_count_55 rfl (lv_at hl 1 rfl) ?_
          refine va_get (D := D) (ci := 6) (v := .int (S6 17)) (C := RX6) (T := TX6) (N := 42) hx hb hts hiX6 hown hK hP 0 rfl rfl 17 (by decide) (hts (.fieldLink RX6 161 "PanoramaHouseModel" "taped" "I") (by decide +kernel)) (fun _ h9 => h9) rfl dX6_count_56 ?_
          cases hF
          exact hret _ _ _ _ dX6_count_59 rfl hP hD hS
        · have hF := ifn hF c_14
          rcases Decidable.em (p1 = 4) with c_15 | c_15
          · have hF := ifp hF c_15
            refine lv_tableIn (tgt := 60) hx hb dX6_count_3 (by rw [c_15]; decide) (by rw [c_15]; decide) (by rw [c_15]; rfl) (by decide) ?_
            refine lv_iconst (v := 0) hx hb dX6_count_60 (by decide) ?_
            refine lv_istore_n (lv' := [(3, .int 0), (2, .int 0), (0, .ref (a6 0)), (1, .int p1)]) hx hb dX6_count_61 rfl hl (by decide) rfl (fun ls hl => ?_)
            exact bL62 FU 0 0 A6 hF _ _ _ hP hD hS (lv_sub hl [2, 1, 0] rfl)
          · have hF := ifn hF c_15
            rcases Decidable.em (p1 = 5) with c_16 | c_16
            · have hF := ifp hF c_16
              refine lv_tableIn (tgt := 94) hx hb dX6_count_3 (by rw [c_16]; decide) (by rw [c_16]; decide) (by rw [c_16]; rfl) (by decide) ?_
              refine lv_iconst (v := 0) hx hb dX6_count_94 (by decide) ?_
              refine lv_istore_n (lv' := [(3, .int 0), (2, .int 0), (0, .ref (a6 0)), (1, .int p1)]) hx hb dX6_count_95 rfl hl (by decide) rfl (fun ls hl => ?_)
              exact bL96 FU 0 0 A6 hF _ _ _ hP hD hS (lv_sub hl [2, 1, 0] rfl)
            · have hF := ifn hF c_16
              have ic_11 : (p1).toInt ≠ 0 := fun h => c_11 (Int32.toInt_inj.mp (h.trans (by decide)))
              have ic_12 : (p1).toInt ≠ 1 := fun h => c_12 (Int32.toInt_inj.mp (h.trans (by decide)))
              have ic_13 : (p1).toInt ≠ 2 := fun h => c_13 (Int32.toInt_inj.mp (h.trans (by decide)))
              have ic_14 : (p1).toInt ≠ 3 := fun h => c_14 (Int32.toInt_inj.mp (h.trans (by decide)))
              have ic_15 : (p1).toInt ≠ 4 := fun h => c_15 (Int32.toInt_inj.mp (h.trans (by decide)))
              have ic_16 : (p1).toInt ≠ 5 := fun h => c_16 (Int32.toInt_inj.mp (h.trans (by decide)))
              refine lv_tableOut (tgt := 128) hx hb dX6_count_3 (by omega) (by decide) ?_
              refine lv_iconst (v := -1) hx hb dX6_count_128 (by decide) ?_
              cases hF
              exact hret _ _ _ _ dX6_count_129 rfl hP hD hS
