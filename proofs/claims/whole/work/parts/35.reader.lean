abbrev rmX0_bytes : Room := { frames := 1, cells := 0, slots := 0, locals := 32 }
set_option maxRecDepth 100000 in
set_option maxHeartbeats 4000000 in
theorem c_X0_bytes (l : Launch) (K : Kx) (D : va_G) (C : Nat → ClassId) (a0 : Nat → Nat) (S0 : Nat → Int32) (A0 : Nat → Nat → Int32) (z : Int32) (hF : F_X0_bytes S0 = some z) : MetI l yX0_bytes wsX0_bytes rmX0_bytes K D (tyV C) (wX0 C a0 S0 A0) [.ref (a0 0)] (wX0 C a0 S0 A0) z := by
  refine met_int (cc := cX0_bytes) (maxL := 1) (ty := .int) (by decide +kernel) rfl (Nat.le_of_ble_eq_true rfl) ?_
  intro p e s m below meth c A Q ls ⟨hx, hb, hml, hown, hts, hK, hA, hZ⟩ hP hD hS hl hret
  have hown : s.vm.findClass RX0 = some m.cls := hown
  have hiX0 : ∀ w ∈ u_ws RX0 TX0 6, w ∈ wsX0_bytes := by decide +kernel
  have hl : lv_has ls 1 [(0, .ref (a0 0))] := hl
  unfold F_X0_bytes at hF
  refine lv_aload_n hx hb dX0_bytes_0 rfl (lv_at hl 0 rfl) ?_
  refine va_get (D := D) (ci := 0) (v := .int (S0 1)) (C := RX0) (T := TX0) (N := 6) hx hb hts hiX0 hown hK hP 0 rfl rfl 1 (by decide) (hts (.fieldLink RX0 15 "PanoramaHouse$ContractReader" "bytesOnTape" "I") (by decide +kernel)) (fun _ h9 => h9) rfl dX0_bytes_1 ?_
  cases hF
  exact hret _ _ _ _ dX0_bytes_4 rfl hP hD hS
abbrev rmX0_takeFour : Room := { frames := 1, cells := 0, slots := 0, locals := 32 }
set_option maxRecDepth 100000 in
set_option maxHeartbeats 4000000 in
theorem c_X0_takeFour (l : Launch) (K : Kx) (D : va_G) (C : Nat → ClassId) (a0 : Nat → Nat) (S0 : Nat → Int32) (A0 : Nat → Nat → Int32) (p1 : Int32) (z : (Nat → Int32) × (Nat → Nat → Int32)) (hF : F_X0_takeFour S0 A0 p1 = some z) : MetV l yX0_takeFour wsX0_takeFour rmX0_takeFour K D (tyV C) (wX0 C a0 S0 A0) [.ref (a0 0), .int p1] (wX0 C a0 z.1 z.2) := by
  refine met_void (cc := cX0_takeFour) (maxL := 3) (by decide +kernel) rfl (Nat.le_of_ble_eq_true rfl) ?_
  intro p e s m below meth c A Q ls ⟨hx, hb, hml, hown, hts, hK, hA, hZ⟩ hP hD hS hl hret
  have hown : s.vm.findClass RX0 = some m.cls := hown
  have hiX0 : ∀ w ∈ u_ws RX0 TX0 6, w ∈ wsX0_takeFour := by decide +kernel
  have hl : lv_has ls 3 [(0, .ref (a0 0)), (1, .int p1)] := hl
  unfold F_X0_takeFour at hF
  obtain ⟨J56, eJ56, hF⟩ := nm_ex hF
  have bJ56 : ∀ (S0 : Nat → Int32) (A0 : Nat → Nat → Int32), J56 S0 A0 = some z → ∀ (H : Heap) (locs : List Loc) (ls : Array Slot), va_P D vwCl (wX0 C a0 S0 A0) H → va_D A (wX0 C a0 S0 A0) → va_S A s.heap H locs → lv_has ls 3 [] → W p l e rmX0_takeFour s m ([.ref (a0 0), .int p1] : List Value).toArray below meth c H locs 0 0 Q (F0 m 56 ls []) := by
    intro S0 A0 hF H locs ls hP hD hS hl
    rw [eJ56] at hF
    cases hF
    exact hret _ _ _ _ dX0_takeFour_56 hP hD hS
  have bL3 : ∀ (n : Nat) (x1 : Int32) (x2 : Int32) (S0 : Nat → Int32) (A0 : Nat → Nat → Int32), L_X0_takeFour_3 J56 n x1 x2 S0 A0 = some z → ∀ (H : Heap) (locs : List Loc) (ls : Array Slot), va_P D vwCl (wX0 C a0 S0 A0) H → va_D A (wX0 C a0 S0 A0) → va_S A s.heap H locs → lv_has ls 3 [(0, .ref (a0 0)), (1, .int x1), (2, .int x2)] → W p l e rmX0_takeFour s m ([.ref (a0 0), .int p1] : List Value).toArray below meth c H locs 0 0 Q (F0 m 3 ls []) := by
    intro n
    induction n with
    | zero => intro x1 x2 S0 A0 hF; rw [L_X0_takeFour_3.eq_1] at hF; cases hF
    | succ n ih3 =>
      intro x1 x2 S0 A0 hF H locs ls hP hD hS hl
      rw [L_X0_takeFour_3.eq_2] at hF
      obtain ⟨J50, eJ50, hF⟩ := nm_ex hF
      have bJ50 : ∀ (x1 : Int32) (x2 : Int32) (S0 : Nat → Int32) (A0 : Nat → Nat → Int32), J50 x1 x2 S0 A0 = some z → ∀ (H : Heap) (locs : List Loc) (ls : Array Slot), va_P D vwCl (wX0 C a0 S0 A0) H → va_D A (wX0 C a0 S0 A0) → va_S A s.heap H locs → lv_has ls 3 [(0, .ref (a0 0)), (1, .int x1), (2, .int x2)] → W p l e rmX0_takeFour s m ([.ref (a0 0), .int p1] : List Value).toArray below meth c H locs 0 0 Q (F0 m 50 ls []) := by
        intro x1 x2 S0 A0 hF H locs ls hP hD hS hl
        rw [eJ50] at hF
        obtain ⟨v_1, ev_1⟩ : ∃ y : Int32, y = x2 + (-8) := ⟨_, rfl⟩
        have hF := nm_at hF ev_1
        refine lv_iinc (v := v_1) (lv' := [(2, .int v_1), (0, .ref (a0 0)), (1, .int x1)]) hx hb dX0_takeFour_50 hl (k := 2) rfl (by rw [ev_1]; rfl) (by decide) rfl (fun ls hl => ?_)
        refine lv_goto (tgt := 3) hx hb dX0_takeFour_53 (by decide) ?_
        exact ih3 x1 v_1 S0 A0 hF _ _ _ hP hD hS (lv_sub hl [1, 2, 0] rfl)
      refine lv_iload_n hx hb dX0_takeFour_3 rfl (lv_at hl 2 rfl) ?_
      refine lv_if_lt (tgt := 56) hx hb dX0_takeFour_4 (by decide) (fun c_2 => ?_) (fun c_2 => ?_)
      · have hF := ifp hF c_2
        exact bJ56 S0 A0 hF _ _ _ hP hD hS (lv_sub hl [] rfl)
      · have hF := ifn hF c_2
        refine lv_aload_n hx hb dX0_takeFour_7 rfl (lv_at hl 0 rfl) ?_
        refine va_get (D := D) (ci := 0) (v := .int (S0 1)) (C := RX0) (T := TX0) (N := 6) hx hb hts hiX0 hown hK hP 0 rfl rfl 1 (by decide) (hts (.fieldLink RX0 15 "PanoramaHouse$ContractReader" "bytesOnTape" "I") (by decide +kernel)) (fun _ h9 => h9) rfl dX0_takeFour_8 ?_
        refine lv_if_lt (tgt := 50) hx hb dX0_takeFour_11 (by decide) (fun c_3 => ?_) (fun c_3 => ?_)
        · have hF := ifp hF c_3
          exact bJ50 x1 x2 S0 A0 hF _ _ _ hP hD hS (lv_sub hl [0, 1, 2] rfl)
        · have hF := ifn hF c_3
          refine lv_aload_n hx hb dX0_takeFour_14 rfl (lv_at hl 0 rfl) ?_
          refine va_get (D := D) (ci := 0) (v := .int (S0 1)) (C := RX0) (T := TX0) (N := 6) hx hb hts hiX0 hown hK hP 0 rfl rfl 1 (by decide) (hts (.fieldLink RX0 15 "PanoramaHouse$ContractReader" "bytesOnTape" "I") (by decide +kernel)) (fun _ h9 => h9) rfl dX0_takeFour_15 ?_
          refine lv_sipush (v := 600) hx hb dX0_takeFour_18 (by decide) ?_
          refine lv_icmp_ge (tgt := 50) hx hb dX0_takeFour_21 (by decide) (fun c_4 => ?_) (fun c_4 => ?_)
          · have hF := ifp hF c_4
            exact bJ50 x1 x2 S0 A0 hF _ _ _ hP hD hS (lv_sub hl [0, 1, 2] rfl)
          · have hF := ifn hF c_4
            refine lv_aload_n hx hb dX0_takeFour_24 rfl (lv_at hl 0 rfl) ?_
            refine va_get (D := D) (ci := 0) (v := .ref (a0 1)) (C := RX0) (T := TX0) (N := 6) hx hb hts hiX0 hown hK hP 0 rfl rfl 0 (by decide) (hts (.fieldLink RX0 9 "PanoramaHouse$ContractReader" "tape" "[I") (by decide +kernel)) (fun _ h9 => h9) rfl dX0_takeFour_25 ?_
            refine lv_aload_n hx hb dX0_takeFour_28 rfl (lv_at hl 0 rfl) ?_
            refine va_get (D := D) (ci := 0) (v := .int (S0 1)) (C := RX0) (T := TX0) (N := 6) hx hb hts hiX0 hown hK hP 0 rfl rfl 1 (by decide) (hts (.fieldLink RX0 15 "PanoramaHouse$ContractReader" "bytesOnTape" "I") (by decide +kernel)) (fun _ h9 => h9) rfl dX0_takeFour_29 ?_
            refine lv_iload_n hx hb dX0_takeFour_32 rfl (lv_at hl 1 rfl) ?_
            refine lv_iload_n hx hb dX0_takeFour_33 rfl (lv_at hl 2 rfl) ?_
            refine lv_iushr (v := ((x1).toUInt32 >>> ((x2 : Int32).toUInt32 &&& Int32.toUInt32 31)).toInt32) hx hb dX0_takeFour_34 rfl ?_
            refine lv_sipush (v := 255) hx hb dX0_takeFour_35 (by decide) ?_
            refine lv_iand hx hb dX0_takeFour_38 ?_
            obtain ⟨h_5, hF⟩ := ix_at hF
            refine va_iast hx hb hK hP hD hS 1 0 rfl rfl h_5 dX0_takeFour_39 (fun H locs hP hD hS => ?_)
            obtain ⟨A0_6, eA0_6, hF⟩ := nm_ex hF
            have hP : va_P D vwCl (wX0 C a0 S0 A0_6) H := by rw [eA0_6]; exact hP
            have hD : va_D A (wX0 C a0 S0 A0_6) := by rw [eA0_6]; exact hD
            refine lv_aload_n hx hb dX0_takeFour_40 rfl (lv_at hl 0 rfl) ?_
            refine lv_dup hx hb dX0_takeFour_41 rfl ?_
            refine va_get (D := D) (ci := 0) (v := .int (S0 1)) (C := RX0) (T := TX0) (N := 6) hx hb hts hiX0 hown hK hP 0 rfl rfl 1 (by decide) (hts (.fieldLink RX0 15 "PanoramaHouse$ContractReader" "bytesOnTape" "I") (by decide +kernel)) (fun _ h9 => h9) rfl dX0_takeFour_42 ?_
            refine lv_iconst (v := 1) hx hb dX0_takeFour_45 (by decide) ?_
            refine lv_iadd hx hb dX0_takeFour_46 ?_
            refine va_put (D := D) (ci := 0) (v := .int ((S0 1) + 1)) (ty := .int) (C := RX0) (T := TX0) (N := 6) hx hb hts hiX0 tyX0 tyX0_ok nmX0 hown hK hP hD hS 0 rfl rfl 1 (by decide) (hts (.fieldLink RX0 15 "PanoramaHouse$ContractReader" "bytesOnTape" "I") (by decide +kernel)) (fun _ h9 => h9) rfl (by decide +kernel) rfl rfl (Nat.le_of_ble_eq_true rfl) dX0_takeFour_47 (fun H locs hP hD hS => ?_)
            obtain ⟨S0_7, eS0_7, hF⟩ := nm_ex hF
            have hP : va_P D vwCl (wX0 C a0 S0_7 A0_6) H := by rw [eS0_7]; exact hP
            have hD : va_D A (wX0 C a0 S0_7 A0_6) := by rw [eS0_7]; exact hD
            exact bJ50 x1 x2 S0_7 A0_6 hF _ _ _ hP hD hS (lv_sub hl [0, 1, 2] rfl)
  refine lv_bipush (v := 24) hx hb dX0_takeFour_0 (by decide) ?_
  refine lv_istore_n (lv' := [(2, .int 24), (0, .ref (a0 0)), (1, .int p1)]) hx hb dX0_takeFour_2 rfl hl (by decide) rfl (fun ls hl => ?_)
  exact bL3 FU p1 24 S0 A0 hF _ _ _ hP hD hS (lv_sub hl [1, 2, 0] rfl)
abbrev rmX0_takeBytes : Room := { frames := 2, cells := 0, slots := 0, locals := 54 }
set_option maxRecDepth 100000 in
set_option maxHeartbeats 4000000 in
theorem c_X0_takeBytes (l : Launch) (K : Kx) (D : va_G) (C : Nat → ClassId) (a0 : Nat → Nat) (S0 : Nat → Int32) (A0 : Nat → Nat → Int32) (p1 : Int32) (p2 : Int32) (p3 : Int32) (p4 : Int32) (p5 : Int32) (z : Int32 × (Nat → Int32) × (Nat → Nat → Int32)) (hF : F_X0_takeBytes S0 A0 p1 p2 p3 p4 p5 = some z) : MetI l yX0_takeBytes wsX0_takeBytes rmX0_takeBytes K D (tyV C) (wX0 C a0 S0 A0) [.ref (a0 0), .int p1, .int p2, .int p3, .int p4, .int p5] (wX0 C a0 z.2.1 z.2.2) z.1 := by
  refine met_int (cc := cX0_takeBytes) (maxL := 6) (ty := .int) (by decide +kernel) rfl (Nat.le_of_ble_eq_true rfl) ?_
  intro p e s m below meth c A Q ls ⟨hx, hb, hml, hown, hts, hK, hA, hZ⟩ hP hD hS hl hret
  have hown : s.vm.findClass RX0 = some m.cls := hown
  have hiX0 : ∀ w ∈ u_ws RX0 TX0 6, w ∈ wsX0_takeBytes := by decide +kernel
  have hl : lv_has ls 6 [(0, .ref (a0 0)), (1, .int p1), (2, .int p2), (3, .int p3), (4, .int p4), (5, .int p5)] := hl
  unfold F_X0_takeBytes at hF
  refine lv_aload_n hx hb dX0_takeBytes_0 rfl (lv_at hl 0 rfl) ?_
  refine va_get (D := D) (ci := 0) (v := .int (S0 1)) (C := RX0) (T := TX0) (N := 6) hx hb hts hiX0 hown hK hP 0 rfl rfl 1 (by decide) (hts (.fieldLink RX0 15 "PanoramaHouse$ContractReader" "bytesOnTape" "I") (by decide +kernel)) (fun _ h9 => h9) rfl dX0_takeBytes_1 ?_
  refine lv_sipush (v := 580) hx hb dX0_takeBytes_4 (by decide) ?_
  refine lv_icmp_le (tgt := 12) hx hb dX0_takeBytes_7 (by decide) (fun c_1 => ?_) (fun c_1 => ?_)
  · have hF := ifp hF c_1
    refine lv_aload_n hx hb dX0_takeBytes_12 rfl (lv_at hl 0 rfl) ?_
    refine lv_iload_n hx hb dX0_takeBytes_13 rfl (lv_at hl 1 rfl) ?_
    obtain ⟨z_2, fz_2, hF⟩ := bd_at hF
    refine callV_void ([]) ([]) (w' := wX0 C a0 z_2.1 z_2.2) (As := [.int p1]) (rest := []) ⟨hx, hb, hml, hown, hts⟩ hK hA hZ (c_X0_takeFour l K D C a0 S0 A0 p1 z_2 fz_2) (cwV 1 hts gX0_takeBytes_X0_takeFour rfl rfl rfl (by decide +kernel) ⟨Nat.le_of_ble_eq_true rfl, Nat.le_of_ble_eq_true rfl⟩) 0 rfl rfl rfl rfl hl.1 rfl (Nat.le_of_ble_eq_true rfl) ⟨Nat.zero_le _, Nat.zero_le _⟩ (by simp only [List.append_assoc, List.append_nil, List.nil_append]) (by simp only [List.append_assoc, List.append_nil, List.nil_append]) hP hD hS dX0_takeBytes_14 (fun H locs hP hD hS => ?_)
    refine lv_aload_n hx hb dX0_takeBytes_17 rfl (lv_at hl 0 rfl) ?_
    refine lv_iload_n hx hb dX0_takeBytes_18 rfl (lv_at hl 2 rfl) ?_
    obtain ⟨z_3, fz_3, hF⟩ := bd_at hF
    refine callV_void ([]) ([]) (w' := wX0 C a0 z_3.1 z_3.2) (As := [.int p2]) (rest := []) ⟨hx, hb, hml, hown, hts⟩ hK hA hZ (c_X0_takeFour l K D C a0 z_2.1 z_2.2 p2 z_3 fz_3) (cwV 1 hts gX0_takeBytes_X0_takeFour rfl rfl rfl (by decide +kernel) ⟨Nat.le_of_ble_eq_true rfl, Nat.le_of_ble_eq_true rfl⟩) 0 rfl rfl rfl rfl hl.1 rfl (Nat.le_of_ble_eq_true rfl) ⟨Nat.zero_le _, Nat.zero_le _⟩ (by simp only [List.append_assoc, List.append_nil, List.nil_append]) (by simp only [List.append_assoc, List.append_nil, List.nil_append]) hP hD hS dX0_takeBytes_19 (fun H locs hP hD hS => ?_)
    refine lv_aload_n hx hb dX0_takeBytes_22 rfl (lv_at hl 0 rfl) ?_
    refine lv_iload_n hx hb dX0_takeBytes_23 rfl (lv_at hl 3 rfl) ?_
    obtain ⟨z_4, fz_4, hF⟩ := bd_at hF
    refine callV_void ([]) ([]) (w' := wX0 C a0 z_4.1 z_4.2) (As := [.int p3]) (rest := []) ⟨hx, hb, hml, hown, hts⟩ hK hA hZ (c_X0_takeFour l K D C a0 z_3.1 z_3.2 p3 z_4 fz_4) (cwV 1 hts gX0_takeBytes_X0_takeFour rfl rfl rfl (by decide +kernel) ⟨Nat.le_of_ble_eq_true rfl, Nat.le_of_ble_eq_true rfl⟩) 0 rfl rfl rfl rfl hl.1 rfl (Nat.le_of_ble_eq_true rfl) ⟨Nat.zero_le _, Nat.zero_le _⟩ (by simp only [List.append_assoc, List.append_nil, List.nil_append]) (by simp only [List.append_assoc, List.append_nil, List.nil_append]) hP hD hS dX0_takeBytes_24 (fun H locs hP hD hS => ?_)
    refine lv_aload_n hx hb dX0_takeBytes_27 rfl (lv_at hl 0 rfl) ?_
    refine lv_iload hx hb dX0_takeBytes_28 (lv_at hl 4 rfl) ?_
    obtain ⟨z_5, fz_5, hF⟩ := bd_at hF
    refine callV_void ([]) ([]) (w' := wX0 C a0 z_5.1 z_5.2) (As := [.int p4]) (rest := []) ⟨hx, hb, hml, hown, hts⟩ hK hA hZ (c_X0_takeFour l K D C a0 z_4.1 z_4.2 p4 z_5 fz_5) (cwV 1 hts gX0_takeBytes_X0_takeFour rfl rfl rfl (by decide +kernel) ⟨Nat.le_of_ble_eq_true rfl, Nat.le_of_ble_eq_true rfl⟩) 0 rfl rfl rfl rfl hl.1 rfl (Nat.le_of_ble_eq_true rfl) ⟨Nat.zero_le _, Nat.zero_le _⟩ (by simp only [List.append_assoc, List.append_nil, List.nil_append]) (by simp only [List.append_assoc, List.append_nil, List.nil_append]) hP hD hS dX0_takeBytes_30 (fun H locs hP hD hS => ?_)
    refine lv_aload_n hx hb dX0_takeBytes_33 rfl (lv_at hl 0 rfl) ?_
    refine lv_iload hx hb dX0_takeBytes_34 (lv_at hl 5 rfl) ?_
    obtain ⟨z_6, fz_6, hF⟩ := bd_at hF
    refine callV_void ([]) ([]) (w' := wX0 C a0 z_6.1 z_6.2) (As := [.int p5]) (rest := []) ⟨hx, hb, hml, hown, hts⟩ hK hA hZ (c_X0_takeFour l K D C a0 z_5.1 z_5.2 p5 z_6 fz_6) (cwV 1 hts gX0_takeBytes_X0_takeFour rfl rfl rfl (by decide +kernel) ⟨Nat.le_of_ble_eq_true rfl, Nat.le_of_ble_eq_true rfl⟩) 0 rfl rfl rfl rfl hl.1 rfl (Nat.le_of_ble_eq_true rfl) ⟨Nat.zero_le _, Nat.zero_le _⟩ (by simp only [List.append_assoc, List.append_nil, List.nil_append]) (by simp only [List.append_assoc, List.append_nil, List.nil_append]) hP hD hS dX0_takeBytes_36 (fun H locs hP hD hS => ?_)
    refine lv_aload_n hx hb dX0_takeBytes_39 rfl (lv_at hl 0 rfl) ?_
    refine va_get (D := D) (ci := 0) (v := .int (z_6.1 1)) (C := RX0) (T := TX0) (N := 6) hx hb hts hiX0 hown hK hP 0 rfl rfl 1 (by decide) (hts (.fieldLink RX0 15 "PanoramaHouse$ContractReader" "bytesOnTape" "I") (by decide +kernel)) (fun _ h9 => h9) rfl dX0_takeBytes_40 ?_
    cases hF
    exact hret _ _ _ _ dX0_takeBytes_43 rfl hP hD hS
  · have hF := ifn hF c_1
    refine lv_iconst (v := -1) hx hb dX0_takeBytes_10 (by decide) ?_
    cases hF
    exact hret _ _ _ _ dX0_takeBytes_11 rfl hP hD hS
abbrev rmX0_byteAt : Room := { frames := 1, cells := 0, slots := 0, locals := 32 }
set_option maxRecDepth 100000 in
set_option maxHeartbeats 4000000 in
theorem c_X0_byteAt (l : Launch) (K : Kx) (D : va_G) (C : Nat → ClassId) (a0 : Nat → Nat) (S0 : Nat → Int32) (A0 : Nat → Nat → Int32) (p1 : Int32) (z : Int32) (hF : F_X0_byteAt S0 A0 p1 = some z) : MetI l yX0_byteAt wsX0_byteAt rmX0_byteAt K D (tyV C) (wX0 C a0 S0 A0) [.ref (a0 0), .int p1] (wX0 C a0 S0 A0) z := by
  refine met_int (cc := cX0_byteAt) (maxL := 2) (ty := .int) (by decide +kernel) rfl (Nat.le_of_ble_eq_true rfl) ?_
  intro p e s m below meth c A Q ls ⟨hx, hb, hml, hown, hts, hK, hA, hZ⟩ hP hD hS hl hret
  have hown : s.vm.findClass RX0 = some m.cls := hown
  have hiX0 : ∀ w ∈ u_ws RX0 TX0 6, w ∈ wsX0_byteAt := by decide +kernel
  have hl : lv_has ls 2 [(0, .ref (a0 0)), (1, .int p1)] := hl
  unfold F_X0_byteAt at hF
  refine lv_iload_n hx hb dX0_byteAt_0 rfl (lv_at hl 1 rfl) ?_
  refine lv_if_lt (tgt := 28) hx hb dX0_byteAt_1 (by decide) (fun c_1 => ?_) (fun c_1 => ?_)
  · have hF := ifp hF c_1
    refine lv_iconst (v := -1) hx hb dX0_byteAt_28 (by decide) ?_
    cases hF
    exact hret _ _ _ _ dX0_byteAt_29 rfl hP hD hS
  · have hF := ifn hF c_1
    refine lv_iload_n hx hb dX0_byteAt_4 rfl (lv_at hl 1 rfl) ?_
    refine lv_aload_n hx hb dX0_byteAt_5 rfl (lv_at hl 0 rfl) ?_
    refine va_get (D := D) (ci := 0) (v := .int (S0 2)) (C := RX0) (T := TX0) (N := 6) hx hb hts hiX0 hown hK hP 0 rfl rfl 2 (by decide) (hts (.fieldLink RX0 34 "PanoramaHouse$ContractReader" "length" "I") (by decide +kernel)) (fun _ h9 => h9) rfl dX0_byteAt_6 ?_
    refine lv_icmp_ge (tgt := 28) hx hb dX0_byteAt_9 (by decide) (fun c_2 => ?_) (fun c_2 => ?_)
    · have hF := ifp hF c_2
      refine lv_iconst (v := -1) hx hb dX0_byteAt_28 (by decide) ?_
      cases hF
      exact hret _ _ _ _ dX0_byteAt_29 rfl hP hD hS
    · have hF := ifn hF c_2
      refine lv_iload_n hx hb dX0_byteAt_12 rfl (lv_at hl 1 rfl) ?_
      refine lv_sipush (v := 600) hx hb dX0_byteAt_13 (by decide) ?_
      refine lv_icmp_ge (tgt := 28) hx hb dX0_byteAt_16 (by decide) (fun c_3 => ?_) (fun c_3 => ?_)
      · have hF := ifp hF c_3
        refine lv_iconst (v := -1) hx hb dX0_byteAt_28 (by decide) ?_
        cases hF
        exact hret _ _ _ _ dX0_byteAt_29 rfl hP hD hS
      · have hF := ifn hF c_3
        refine lv_aload_n hx hb dX0_byteAt_19 rfl (lv_at hl 0 rfl) ?_
        refine va_get (D := D) (ci := 0) (v := .ref (a0 1)) (C := RX0) (T := TX0) (N := 6) hx hb hts hiX0 hown hK hP 0 rfl rfl 0 (by decide) (hts (.fieldLink RX0 9 "PanoramaHouse$ContractReader" "tape" "[I") (by decide +kernel)) (fun _ h9 => h9) rfl dX0_byteAt_20 ?_
        refine lv_iload_n hx hb dX0_byteAt_23 rfl (lv_at hl 1 rfl) ?_
        obtain ⟨h_4, hF⟩ := ix_at hF
        refine va_iald hx hb hK hP 1 0 rfl rfl h_4 dX0_byteAt_24 ?_
        refine lv_goto (tgt := 29) hx hb dX0_byteAt_25 (by decide) ?_
        cases hF
        exact hret _ _ _ _ dX0_byteAt_29 rfl hP hD hS
abbrev rmX0_kindOf : Room := { frames := 1, cells := 0, slots := 0, locals := 32 }
set_option maxRecDepth 100000 in
set_option maxHeartbeats 4000000 in
theorem c_X0_kindOf (l : Launch) (K : Kx) (D : va_G) (C : Nat → ClassId) (p1 : Int32) (z : Int32) (hF : F_X0_kindOf p1 = some z) : MetI l yX0_kindOf wsX0_kindOf rmX0_kindOf K D (tyV C) (([] : va_W)) [.int p1] (([] : va_W)) z := by
  refine met_int (cc := cX0_kindOf) (maxL := 1) (ty := .int) (by decide +kernel) rfl (Nat.le_of_ble_eq_true rfl) ?_
  intro p e s m below meth c A Q ls ⟨hx, hb, hml, hown, hts, hK, hA, hZ⟩ hP hD hS hl hret
  have hown : s.vm.findClass RX0 = some m.cls := hown
  have hl : lv_has ls 1 [(0, .int p1)] := hl
  unfold F_X0_kindOf at hF
  obtain ⟨J28, eJ28, hF⟩ := nm_ex hF
  have bJ28 : ∀ (x0 : Int32), J28 x0 = some z → ∀ (H : Heap) (locs : List Loc) (ls : Array Slot), va_P D vwCl (([] : va_W)) H → va_D A (([] : va_W)) → va_S A s.heap H locs → lv_has ls 1 [(0, .int x0)] → W p l e rmX0_kindOf s m ([.int p1] : List Value).toArray below meth c H locs 0 0 Q (F0 m 28 ls []) := by
    intro x0 hF H locs ls hP hD hS hl
    rw [eJ28] at hF
    refine lv_iload_n hx hb dX0_kindOf_28 rfl (lv_at hl 0 rfl) ?_
    rcases Decidable.em (x0 = (-1)) with c_1 | c_1
    · have hF := ifp hF c_1
      refine lv_lookup (off := 67) (tgt := 96) hx hb dX0_kindOf_29 (by decide) (by rw [c_1] <;> rfl) (by decide) ?_
      refine lv_iconst (v := 0) hx hb dX0_kindOf_96 (by decide) ?_
      cases hF
      exact hret _ _ _ _ dX0_kindOf_97 rfl hP hD hS
    · have hF := ifn hF c_1
      rcases Decidable.em (x0 = 10) with c_2 | c_2
      · have hF := ifp hF c_2
        refine lv_lookup (off := 71) (tgt := 100) hx hb dX0_kindOf_29 (by decide) (by rw [c_2] <;> rfl) (by decide) ?_
        refine lv_iconst (v := 4) hx hb dX0_kindOf_100 (by decide) ?_
        cases hF
        exact hret _ _ _ _ dX0_kindOf_101 rfl hP hD hS
      · have hF := ifn hF c_2
        rcases Decidable.em (x0 = 32) with c_3 | c_3
        · have hF := ifp hF c_3
          refine lv_lookup (off := 71) (tgt := 100) hx hb dX0_kindOf_29 (by decide) (by rw [c_3] <;> rfl) (by decide) ?_
          refine lv_iconst (v := 4) hx hb dX0_kindOf_100 (by decide) ?_
          cases hF
          exact hret _ _ _ _ dX0_kindOf_101 rfl hP hD hS
        · have hF := ifn hF c_3
          rcases Decidable.em (x0 = 59) with c_4 | c_4
          · have hF := ifp hF c_4
            refine lv_lookup (off := 69) (tgt := 98) hx hb dX0_kindOf_29 (by decide) (by rw [c_4] <;> rfl) (by decide) ?_
            refine lv_iconst (v := 3) hx hb dX0_kindOf_98 (by decide) ?_
            cases hF
            exact hret _ _ _ _ dX0_kindOf_99 rfl hP hD hS
          · have hF := ifn hF c_4
            rcases Decidable.em (x0 = 60) with c_5 | c_5
            · have hF := ifp hF c_5
              refine lv_lookup (off := 69) (tgt := 98) hx hb dX0_kindOf_29 (by decide) (by rw [c_5] <;> rfl) (by decide) ?_
              refine lv_iconst (v := 3) hx hb dX0_kindOf_98 (by decide) ?_
              cases hF
              exact hret _ _ _ _ dX0_kindOf_99 rfl hP hD hS
            · have hF := ifn hF c_5
              rcases Decidable.em (x0 = 61) with c_6 | c_6
              · have hF := ifp hF c_6
                refine lv_lookup (off := 69) (tgt := 98) hx hb dX0_kindOf_29 (by decide) (by rw [c_6] <;> rfl) (by decide) ?_
                refine lv_iconst (v := 3) hx hb dX0_kindOf_98 (by decide) ?_
                cases hF
                exact hret _ _ _ _ dX0_kindOf_99 rfl hP hD hS
              · have hF := ifn hF c_6
                rcases Decidable.em (x0 = 62) with c_7 | c_7
                · have hF := ifp hF c_7
                  refine lv_lookup (off := 69) (tgt := 98) hx hb dX0_kindOf_29 (by decide) (by rw [c_7] <;> rfl) (by decide) ?_
                  refine lv_iconst (v := 3) hx hb dX0_kindOf_98 (by decide) ?_
                  cases hF
                  exact hret _ _ _ _ dX0_kindOf_99 rfl hP hD hS
                · have hF := ifn hF c_7
                  have ic_1 : (x0).toInt ≠ (-1) := fun h => c_1 (Int32.toInt_inj.mp (h.trans (by decide)))
                  have ic_2 : (x0).toInt ≠ 10 := fun h => c_2 (Int32.toInt_inj.mp (h.trans (by decide)))
                  have ic_3 : (x0).toInt ≠ 32 := fun h => c_3 (Int32.toInt_inj.mp (h.trans (by decide)))
                  have ic_4 : (x0).toInt ≠ 59 := fun h => c_4 (Int32.toInt_inj.mp (h.trans (by decide)))
                  have ic_5 : (x0).toInt ≠ 60 := fun h => c_5 (Int32.toInt_inj.mp (h.trans (by decide)))
                  have ic_6 : (x0).toInt ≠ 61 := fun h => c_6 (Int32.toInt_inj.mp (h.trans (by decide)))
                  have ic_7 : (x0).toInt ≠ 62 := fun h => c_7 (Int32.toInt_inj.mp (h.trans (by decide)))
                  refine lv_lookup (off := 73) (tgt := 102) hx hb dX0_kindOf_29 (by decide) (show Op.lookupswitch.offset [(-1, 67), (10, 71), (32, 71), (59, 69), (60, 69), (61, 69), (62, 69)] 73 (x0).toInt = 73 from by rw [Op.lookupswitch.offset_cons, if_neg (fun h => ic_1 h.symm), Op.lookupswitch.offset_cons, if_neg (fun h => ic_2 h.symm), Op.lookupswitch.offset_cons, if_neg (fun h => ic_3 h.symm), Op.lookupswitch.offset_cons, if_neg (fun h => ic_4 h.symm), Op.lookupswitch.offset_cons, if_neg (fun h => ic_5 h.symm), Op.lookupswitch.offset_cons, if_neg (fun h => ic_6 h.symm), Op.lookupswitch.offset_cons, if_neg (fun h => ic_7 h.symm), Op.lookupswitch.offset_nil]) (by decide) ?_
                  refine lv_iconst (v := 5) hx hb dX0_kindOf_102 (by decide) ?_
                  cases hF
                  exact hret _ _ _ _ dX0_kindOf_103 rfl hP hD hS
  obtain ⟨J14, eJ14, hF⟩ := nm_ex hF
  have bJ14 : ∀ (x0 : Int32), J14 x0 = some z → ∀ (H : Heap) (locs : List Loc) (ls : Array Slot), va_P D vwCl (([] : va_W)) H → va_D A (([] : va_W)) → va_S A s.heap H locs → lv_has ls 1 [(0, .int x0)] → W p l e rmX0_kindOf s m ([.int p1] : List Value).toArray below meth c H locs 0 0 Q (F0 m 14 ls []) := by
    intro x0 hF H locs ls hP hD hS hl
    rw [eJ14] at hF
    refine lv_iload_n hx hb dX0_kindOf_14 rfl (lv_at hl 0 rfl) ?_
    refine lv_bipush (v := 48) hx hb dX0_kindOf_15 (by decide) ?_
    refine lv_icmp_lt (tgt := 28) hx hb dX0_kindOf_17 (by decide) (fun c_8 => ?_) (fun c_8 => ?_)
    · have hF := ifp hF c_8
      exact bJ28 x0 hF _ _ _ hP hD hS (lv_sub hl [0] rfl)
    · have hF := ifn hF c_8
      refine lv_iload_n hx hb dX0_kindOf_20 rfl (lv_at hl 0 rfl) ?_
      refine lv_bipush (v := 57) hx hb dX0_kindOf_21 (by decide) ?_
      refine lv_icmp_gt (tgt := 28) hx hb dX0_kindOf_23 (by decide) (fun c_9 => ?_) (fun c_9 => ?_)
      · have hF := ifp hF c_9
        exact bJ28 x0 hF _ _ _ hP hD hS (lv_sub hl [0] rfl)
      · have hF := ifn hF c_9
        refine lv_iconst (v := 2) hx hb dX0_kindOf_26 (by decide) ?_
        cases hF
        exact hret _ _ _ _ dX0_kindOf_27 rfl hP hD hS
  refine lv_iload_n hx hb dX0_kindOf_0 rfl (lv_at hl 0 rfl) ?_
  refine lv_bipush (v := 97) hx hb dX0_kindOf_1 (by decide) ?_
  refine lv_icmp_lt (tgt := 14) hx hb dX0_kindOf_3 (by decide) (fun c_10 => ?_) (fun c_10 => ?_)
  · have hF := ifp hF c_10
    exact bJ14 p1 hF _ _ _ hP hD hS (lv_sub hl [0] rfl)
  · have hF := ifn hF c_10
    refine lv_iload_n hx hb dX0_kindOf_6 rfl (lv_at hl 0 rfl) ?_
    refine lv_bipush (v := 122) hx hb dX0_kindOf_7 (by decide) ?_
    refine lv_icmp_gt (tgt := 14) hx hb dX0_kindOf_9 (by decide) (fun c_11 => ?_) (fun c_11 => ?_)
    · have hF := ifp hF c_11
      exact bJ14 p1 hF _ _ _ hP hD hS (lv_sub hl [0] rfl)
    · have hF := ifn hF c_11
      refine lv_iconst (v := 1) hx hb dX0_kindOf_12 (by decide) ?_
      cases hF
      exact hret _ _ _ _ dX0_kindOf_13 rfl hP hD hS
abbrev rmX0_advance : Room := { frames := 2, cells := 0, slots := 0, locals := 53 }
set_option maxRecDepth 100000 in
set_option maxHeartbeats 4000000 in
theorem c_X0_advance (l : Launch) (K : Kx) (D : va_G) (C : Nat → ClassId) (a0 : Nat → Nat) (S0 : Nat → Int32) (A0 : Nat → Nat → Int32) (z : (Nat → Int32)) (hF : F_X0_advance S0 A0 = some z) : MetV l yX0_advance wsX0_advance rmX0_advance K D (tyV C) (wX0 C a0 S0 A0) [.ref (a0 0)] (wX0 C a0 z A0) := by
  refine met_void (cc := cX0_advance) (maxL := 2) (by decide +kernel) rfl (Nat.le_of_ble_eq_true rfl) ?_
  intro p e s m below meth c A Q ls ⟨hx, hb, hml, hown, hts, hK, hA, hZ⟩ hP hD hS hl hret
  have hown : s.vm.findClass RX0 = some m.cls := hown
  have hiX0 : ∀ w ∈ u_ws RX0 TX0 6, w ∈ wsX0_advance := by decide +kernel
  have hl : lv_has ls 2 [(0, .ref (a0 0))] := hl
  unfold F_X0_advance at hF
  obtain ⟨J158, eJ158, hF⟩ := nm_ex hF
  have bJ158 : ∀ (S0 : Nat → Int32), J158 S0 = some z → ∀ (H : Heap) (locs : List Loc) (ls : Array Slot), va_P D vwCl (wX0 C a0 S0 A0) H → va_D A (wX0 C a0 S0 A0) → va_S A s.heap H locs → lv_has ls 2 [] → W p l e rmX0_advance s m ([.ref (a0 0)] : List Value).toArray below meth c H locs 0 0 Q (F0 m 158 ls []) := by
    intro S0 hF H locs ls hP hD hS hl
    rw [eJ158] at hF
    cases hF
    exact hret _ _ _ _ dX0_advance_158 hP hD hS
  have bL112 : ∀ (n : Nat) (x1 : Int32) (S0 : Nat → Int32), L_X0_advance_112 A0 J158 n x1 S0 = some z → ∀ (H : Heap) (locs : List Loc) (ls : Array Slot), va_P D vwCl (wX0 C a0 S0 A0) H → va_D A (wX0 C a0 S0 A0) → va_S A s.heap H locs → lv_has ls 2 [(0, .ref (a0 0)), (1, .int x1)] → W p l e rmX0_advance s m ([.ref (a0 0)] : List Value).toArray below meth c H locs 0 0 Q (F0 m 112 ls []) := by
    intro n
    induction n with
    | zero => intro x1 S0 hF; rw [L_X0_advance_112.eq_1] at hF; cases hF
    | succ n ih112 =>
      intro x1 S0 hF H locs ls hP hD hS hl
      rw [L_X0_advance_112.eq_2] at hF
      refine lv_iload_n hx hb dX0_advance_112 rfl (lv_at hl 1 rfl) ?_
      refine lv_if_eq (tgt := 158) hx hb dX0_advance_113 (by decide) (fun c_1 => ?_) (fun c_1 => ?_)
      · have hF := ifp hF c_1
        exact bJ158 S0 hF _ _ _ hP hD hS (lv_sub hl [] rfl)
      · have hF := ifn hF c_1
        refine lv_aload_n hx hb dX0_advance_116 rfl (lv_at hl 0 rfl) ?_
        refine va_get (D := D) (ci := 0) (v := .int (S0 5)) (C := RX0) (T := TX0) (N := 6) hx hb hts hiX0 hown hK hP 0 rfl rfl 5 (by decide) (hts (.fieldLink RX0 37 "PanoramaHouse$ContractReader" "end" "I") (by decide +kernel)) (fun _ h9 => h9) rfl dX0_advance_117 ?_
        refine lv_aload_n hx hb dX0_advance_120 rfl (lv_at hl 0 rfl) ?_
        refine va_get (D := D) (ci := 0) (v := .int (S0 2)) (C := RX0) (T := TX0) (N := 6) hx hb hts hiX0 hown hK hP 0 rfl rfl 2 (by decide) (hts (.fieldLink RX0 34 "PanoramaHouse$ContractReader" "length" "I") (by decide +kernel)) (fun _ h9 => h9) rfl dX0_advance_121 ?_
        refine lv_icmp_ge (tgt := 158) hx hb dX0_advance_124 (by decide) (fun c_2 => ?_) (fun c_2 => ?_)
        · have hF := ifp hF c_2
          exact bJ158 S0 hF _ _ _ hP hD hS (lv_sub hl [] rfl)
        · have hF := ifn hF c_2
          refine lv_aload_n hx hb dX0_advance_127 rfl (lv_at hl 0 rfl) ?_
          refine lv_aload_n hx hb dX0_advance_128 rfl (lv_at hl 0 rfl) ?_
          refine va_get (D := D) (ci := 0) (v := .int (S0 5)) (C := RX0) (T := TX0) (N := 6) hx hb hts hiX0 hown hK hP 0 rfl rfl 5 (by decide) (hts (.fieldLink RX0 37 "PanoramaHouse$ContractReader" "end" "I") (by decide +kernel)) (fun _ h9 => h9) rfl dX0_advance_129 ?_
          obtain ⟨z_3, fz_3, hF⟩ := bd_at hF
          refine callV_int ([]) ([]) (w' := wX0 C a0 S0 A0) (As := [.int (S0 5)]) (rest := []) ⟨hx, hb, hml, hown, hts⟩ hK hA hZ (c_X0_byteAt l K D C a0 S0 A0 (S0 5) z_3 fz_3) (cwV 1 hts gX0_advance_X0_byteAt rfl rfl rfl (by decide +kernel) ⟨Nat.le_of_ble_eq_true rfl, Nat.le_of_ble_eq_true rfl⟩) 0 rfl rfl rfl rfl hl.1 rfl (Nat.le_of_ble_eq_true rfl) ⟨Nat.zero_le _, Nat.zero_le _⟩ (by simp only [List.append_assoc, List.append_nil, List.nil_append]) (by simp only [List.append_assoc, List.append_nil, List.nil_append]) hP hD hS dX0_advance_132 (fun H locs hP hD hS => ?_)
          obtain ⟨z_4, fz_4, hF⟩ := bd_at hF
          refine callS_int (As := [.int z_3]) (rest := []) ⟨hx, hb, hml, hown, hts⟩ hK hA hZ (c_X0_kindOf l K D C z_3 z_4 fz_4) (va_cwS 1 hts gX0_advance_X0_kindOf rfl rfl rfl (by decide +kernel) ⟨Nat.le_of_ble_eq_true rfl, Nat.le_of_ble_eq_true rfl⟩) rfl hl.1 rfl (Nat.le_of_ble_eq_true rfl) ⟨Nat.zero_le _, Nat.zero_le _⟩ hP hS dX0_advance_135 (fun H locs hP hS => ?_)
          refine lv_aload_n hx hb dX0_advance_138 rfl (lv_at hl 0 rfl) ?_
          refine va_get (D := D) (ci := 0) (v := .int (S0 3)) (C := RX0) (T := TX0) (N := 6) hx hb hts hiX0 hown hK hP 0 rfl rfl 3 (by decide) (hts (.fieldLink RX0 43 "PanoramaHouse$ContractReader" "kind" "I") (by decide +kernel)) (fun _ h9 => h9) rfl dX0_advance_139 ?_
          refine lv_icmp_ne (tgt := 158) hx hb dX0_advance_142 (by decide) (fun c_5 => ?_) (fun c_5 => ?_)
          · have hF := ifn hF c_5
            exact bJ158 S0 hF _ _ _ hP hD hS (lv_sub hl [] rfl)
          · have hF := ifp hF c_5
            refine lv_aload_n hx hb dX0_advance_145 rfl (lv_at hl 0 rfl) ?_
            refine lv_dup hx hb dX0_advance_146 rfl ?_
            refine va_get (D := D) (ci := 0) (v := .int (S0 5)) (C := RX0) (T := TX0) (N := 6) hx hb hts hiX0 hown hK hP 0 rfl rfl 5 (by decide) (hts (.fieldLink RX0 37 "PanoramaHouse$ContractReader" "end" "I") (by decide +kernel)) (fun _ h9 => h9) rfl dX0_advance_147 ?_
            refine lv_iconst (v := 1) hx hb dX0_advance_150 (by decide) ?_
            refine lv_iadd hx hb dX0_advance_151 ?_
            refine va_put (D := D) (ci := 0) (v := .int ((S0 5) + 1)) (ty := .int) (C := RX0) (T := TX0) (N := 6) hx hb hts hiX0 tyX0 tyX0_ok nmX0 hown hK hP hD hS 0 rfl rfl 5 (by decide) (hts (.fieldLink RX0 37 "PanoramaHouse$ContractReader" "end" "I") (by decide +kernel)) (fun _ h9 => h9) rfl (by decide +kernel) rfl rfl (Nat.le_of_ble_eq_true rfl) dX0_advance_152 (fun H locs hP hD hS => ?_)
            obtain ⟨S0_6, eS0_6, hF⟩ := nm_ex hF
            have hP : va_P D vwCl (wX0 C a0 S0_6 A0) H := by rw [eS0_6]; exact hP
            have hD : va_D A (wX0 C a0 S0_6 A0) := by rw [eS0_6]; exact hD
            refine lv_goto (tgt := 112) hx hb dX0_advance_155 (by decide) ?_
            exact ih112 x1 S0_6 hF _ _ _ hP hD hS (lv_sub hl [0, 1] rfl)
  obtain ⟨J111, eJ111, hF⟩ := nm_ex hF
  have bJ111 : ∀ (y0 : Int32) (S0 : Nat → Int32), J111 y0 S0 = some z → ∀ (H : Heap) (locs : List Loc) (ls : Array Slot), va_P D vwCl (wX0 C a0 S0 A0) H → va_D A (wX0 C a0 S0 A0) → va_S A s.heap H locs → lv_has ls 2 [(0, .ref (a0 0))] → W p l e rmX0_advance s m ([.ref (a0 0)] : List Value).toArray below meth c H locs 0 0 Q (F0 m 111 ls [.int y0]) := by
    intro y0 S0 hF H locs ls hP hD hS hl
    rw [eJ111] at hF
    refine lv_istore_n (lv' := [(1, .int y0), (0, .ref (a0 0))]) hx hb dX0_advance_111 rfl hl (by decide) rfl (fun ls hl => ?_)
    exact bL112 FU y0 S0 hF _ _ _ hP hD hS (lv_sub hl [1, 0] rfl)
  obtain ⟨J106, eJ106, hF⟩ := nm_ex hF
  have bJ106 : ∀ (S0 : Nat → Int32), J106 S0 = some z → ∀ (H : Heap) (locs : List Loc) (ls : Array Slot), va_P D vwCl (wX0 C a0 S0 A0) H → va_D A (wX0 C a0 S0 A0) → va_S A s.heap H locs → lv_has ls 2 [(0, .ref (a0 0))] → W p l e rmX0_advance s m ([.ref (a0 0)] : List Value).toArray below meth c H locs 0 0 Q (F0 m 106 ls []) := by
    intro S0 hF H locs ls hP hD hS hl
    rw [eJ106] at hF
    refine lv_iconst (v := 1) hx hb dX0_advance_106 (by decide) ?_
    refine lv_goto (tgt := 111) hx hb dX0_advance_107 (by decide) ?_
    exact bJ111 1 S0 hF _ _ _ hP hD hS (lv_sub hl [0] rfl)
  obtain ⟨J87, eJ87, hF⟩ := nm_ex hF
  have bJ87 : ∀ (y0 : Int32) (S0 : Nat → Int32), J87 y0 S0 = some z → ∀ (H : Heap) (locs : List Loc) (ls : Array Slot), va_P D vwCl (wX0 C a0 S0 A0) H → va_D A (wX0 C a0 S0 A0) → va_S A s.heap H locs → lv_has ls 2 [(0, .ref (a0 0))] → W p l e rmX0_advance s m ([.ref (a0 0)] : List Value).toArray below meth c H locs 0 0 Q (F0 m 87 ls [.int y0, .ref (a0 0)]) := by
    intro y0 S0 hF H locs ls hP hD hS hl
    rw [eJ87] at hF
    refine va_put (D := D) (ci := 0) (v := .int y0) (ty := .int) (C := RX0) (T := TX0) (N := 6) hx hb hts hiX0 tyX0 tyX0_ok nmX0 hown hK hP hD hS 0 rfl rfl 5 (by decide) (hts (.fieldLink RX0 37 "PanoramaHouse$ContractReader" "end" "I") (by decide +kernel)) (fun _ h9 => h9) rfl (by decide +kernel) rfl rfl (Nat.le_of_ble_eq_true rfl) dX0_advance_87 (fun H locs hP hD hS => ?_)
    obtain ⟨S0_7, eS0_7, hF⟩ := nm_ex hF
    have hP : va_P D vwCl (wX0 C a0 S0_7 A0) H := by rw [eS0_7]; exact hP
    have hD : va_D A (wX0 C a0 S0_7 A0) := by rw [eS0_7]; exact hD
    refine lv_aload_n hx hb dX0_advance_90 rfl (lv_at hl 0 rfl) ?_
    refine va_get (D := D) (ci := 0) (v := .int (S0_7 3)) (C := RX0) (T := TX0) (N := 6) hx hb hts hiX0 hown hK hP 0 rfl rfl 3 (by decide) (hts (.fieldLink RX0 43 "PanoramaHouse$ContractReader" "kind" "I") (by decide +kernel)) (fun _ h9 => h9) rfl dX0_advance_91 ?_
    refine lv_iconst (v := 1) hx hb dX0_advance_94 (by decide) ?_
    refine lv_icmp_eq (tgt := 106) hx hb dX0_advance_95 (by decide) (fun c_8 => ?_) (fun c_8 => ?_)
    · have hF := ifp hF c_8
      exact bJ106 S0_7 hF _ _ _ hP hD hS (lv_sub hl [0] rfl)
    · have hF := ifn hF c_8
      refine lv_aload_n hx hb dX0_advance_98 rfl (lv_at hl 0 rfl) ?_
      refine va_get (D := D) (ci := 0) (v := .int (S0_7 3)) (C := RX0) (T := TX0) (N := 6) hx hb hts hiX0 hown hK hP 0 rfl rfl 3 (by decide) (hts (.fieldLink RX0 43 "PanoramaHouse$ContractReader" "kind" "I") (by decide +kernel)) (fun _ h9 => h9) rfl dX0_advance_99 ?_
      refine lv_iconst (v := 2) hx hb dX0_advance_102 (by decide) ?_
      refine lv_icmp_ne (tgt := 110) hx hb dX0_advance_103 (by decide) (fun c_9 => ?_) (fun c_9 => ?_)
      · have hF := ifn hF c_9
        refine lv_iconst (v := 0) hx hb dX0_advance_110 (by decide) ?_
        exact bJ111 0 S0_7 hF _ _ _ hP hD hS (lv_sub hl [0] rfl)
      · have hF := ifp hF c_9
        exact bJ106 S0_7 hF _ _ _ hP hD hS (lv_sub hl [0] rfl)
  obtain ⟨J47, eJ47, hF⟩ := nm_ex hF
  have bJ47 : ∀ (S0 : Nat → Int32), J47 S0 = some z → ∀ (H : Heap) (locs : List Loc) (ls : Array Slot), va_P D vwCl (wX0 C a0 S0 A0) H → va_D A (wX0 C a0 S0 A0) → va_S A s.heap H locs → lv_has ls 2 [(0, .ref (a0 0))] → W p l e rmX0_advance s m ([.ref (a0 0)] : List Value).toArray below meth c H locs 0 0 Q (F0 m 47 ls []) := by
    intro S0 hF H locs ls hP hD hS hl
    rw [eJ47] at hF
    refine lv_aload_n hx hb dX0_advance_47 rfl (lv_at hl 0 rfl) ?_
    refine lv_aload_n hx hb dX0_advance_48 rfl (lv_at hl 0 rfl) ?_
    refine lv_aload_n hx hb dX0_advance_49 rfl (lv_at hl 0 rfl) ?_
    refine va_get (D := D) (ci := 0) (v := .int (S0 4)) (C := RX0) (T := TX0) (N := 6) hx hb hts hiX0 hown hK hP 0 rfl rfl 4 (by decide) (hts (.fieldLink RX0 50 "PanoramaHouse$ContractReader" "start" "I") (by decide +kernel)) (fun _ h9 => h9) rfl dX0_advance_50 ?_
    obtain ⟨z_10, fz_10, hF⟩ := bd_at hF
    refine callV_int ([]) ([]) (w' := wX0 C a0 S0 A0) (As := [.int (S0 4)]) (rest := [.ref (a0 0)]) ⟨hx, hb, hml, hown, hts⟩ hK hA hZ (c_X0_byteAt l K D C a0 S0 A0 (S0 4) z_10 fz_10) (cwV 1 hts gX0_advance_X0_byteAt rfl rfl rfl (by decide +kernel) ⟨Nat.le_of_ble_eq_true rfl, Nat.le_of_ble_eq_true rfl⟩) 0 rfl rfl rfl rfl hl.1 rfl (Nat.le_of_ble_eq_true rfl) ⟨Nat.zero_le _, Nat.zero_le _⟩ (by simp only [List.append_assoc, List.append_nil, List.nil_append]) (by simp only [List.append_assoc, List.append_nil, List.nil_append]) hP hD hS dX0_advance_53 (fun H locs hP hD hS => ?_)
    obtain ⟨z_11, fz_11, hF⟩ := bd_at hF
    refine callS_int (As := [.int z_10]) (rest := [.ref (a0 0)]) ⟨hx, hb, hml, hown, hts⟩ hK hA hZ (c_X0_kindOf l K D C z_10 z_11 fz_11) (va_cwS 1 hts gX0_advance_X0_kindOf rfl rfl rfl (by decide +kernel) ⟨Nat.le_of_ble_eq_true rfl, Nat.le_of_ble_eq_true rfl⟩) rfl hl.1 rfl (Nat.le_of_ble_eq_true rfl) ⟨Nat.zero_le _, Nat.zero_le _⟩ hP hS dX0_advance_56 (fun H locs hP hS => ?_)
    refine va_put (D := D) (ci := 0) (v := .int z_11) (ty := .int) (C := RX0) (T := TX0) (N := 6) hx hb hts hiX0 tyX0 tyX0_ok nmX0 hown hK hP hD hS 0 rfl rfl 3 (by decide) (hts (.fieldLink RX0 43 "PanoramaHouse$ContractReader" "kind" "I") (by decide +kernel)) (fun _ h9 => h9) rfl (by decide +kernel) rfl rfl (Nat.le_of_ble_eq_true rfl) dX0_advance_59 (fun H locs hP hD hS => ?_)
    obtain ⟨S0_12, eS0_12, hF⟩ := nm_ex hF
    have hP : va_P D vwCl (wX0 C a0 S0_12 A0) H := by rw [eS0_12]; exact hP
    have hD : va_D A (wX0 C a0 S0_12 A0) := by rw [eS0_12]; exact hD
    refine lv_aload_n hx hb dX0_advance_62 rfl (lv_at hl 0 rfl) ?_
    refine lv_aload_n hx hb dX0_advance_63 rfl (lv_at hl 0 rfl) ?_
    refine va_get (D := D) (ci := 0) (v := .int (S0_12 4)) (C := RX0) (T := TX0) (N := 6) hx hb hts hiX0 hown hK hP 0 rfl rfl 4 (by decide) (hts (.fieldLink RX0 50 "PanoramaHouse$ContractReader" "start" "I") (by decide +kernel)) (fun _ h9 => h9) rfl dX0_advance_64 ?_
    refine lv_aload_n hx hb dX0_advance_67 rfl (lv_at hl 0 rfl) ?_
    refine va_get (D := D) (ci := 0) (v := .int (S0_12 2)) (C := RX0) (T := TX0) (N := 6) hx hb hts hiX0 hown hK hP 0 rfl rfl 2 (by decide) (hts (.fieldLink RX0 34 "PanoramaHouse$ContractReader" "length" "I") (by decide +kernel)) (fun _ h9 => h9) rfl dX0_advance_68 ?_
    refine lv_icmp_ge (tgt := 83) hx hb dX0_advance_71 (by decide) (fun c_13 => ?_) (fun c_13 => ?_)
    · have hF := ifp hF c_13
      refine lv_aload_n hx hb dX0_advance_83 rfl (lv_at hl 0 rfl) ?_
      refine va_get (D := D) (ci := 0) (v := .int (S0_12 4)) (C := RX0) (T := TX0) (N := 6) hx hb hts hiX0 hown hK hP 0 rfl rfl 4 (by decide) (hts (.fieldLink RX0 50 "PanoramaHouse$ContractReader" "start" "I") (by decide +kernel)) (fun _ h9 => h9) rfl dX0_advance_84 ?_
      exact bJ87 (S0_12 4) S0_12 hF _ _ _ hP hD hS (lv_sub hl [0] rfl)
    · have hF := ifn hF c_13
      refine lv_aload_n hx hb dX0_advance_74 rfl (lv_at hl 0 rfl) ?_
      refine va_get (D := D) (ci := 0) (v := .int (S0_12 4)) (C := RX0) (T := TX0) (N := 6) hx hb hts hiX0 hown hK hP 0 rfl rfl 4 (by decide) (hts (.fieldLink RX0 50 "PanoramaHouse$ContractReader" "start" "I") (by decide +kernel)) (fun _ h9 => h9) rfl dX0_advance_75 ?_
      refine lv_iconst (v := 1) hx hb dX0_advance_78 (by decide) ?_
      refine lv_iadd hx hb dX0_advance_79 ?_
      refine lv_goto (tgt := 87) hx hb dX0_advance_80 (by decide) ?_
      exact bJ87 ((S0_12 4) + 1) S0_12 hF _ _ _ hP hD hS (lv_sub hl [0] rfl)
  have bL8 : ∀ (n : Nat) (S0 : Nat → Int32), L_X0_advance_8 A0 J47 n S0 = some z → ∀ (H : Heap) (locs : List Loc) (ls : Array Slot), va_P D vwCl (wX0 C a0 S0 A0) H → va_D A (wX0 C a0 S0 A0) → va_S A s.heap H locs → lv_has ls 2 [(0, .ref (a0 0))] → W p l e rmX0_advance s m ([.ref (a0 0)] : List Value).toArray below meth c H locs 0 0 Q (F0 m 8 ls []) := by
    intro n
    induction n with
    | zero => intro S0 hF; rw [L_X0_advance_8.eq_1] at hF; cases hF
    | succ n ih8 =>
      intro S0 hF H locs ls hP hD hS hl
      rw [L_X0_advance_8.eq_2] at hF
      refine lv_aload_n hx hb dX0_advance_8 rfl (lv_at hl 0 rfl) ?_
      refine va_get (D := D) (ci := 0) (v := .int (S0 4)) (C := RX0) (T := TX0) (N := 6) hx hb hts hiX0 hown hK hP 0 rfl rfl 4 (by decide) (hts (.fieldLink RX0 50 "PanoramaHouse$ContractReader" "start" "I") (by decide +kernel)) (fun _ h9 => h9) rfl dX0_advance_9 ?_
      refine lv_aload_n hx hb dX0_advance_12 rfl (lv_at hl 0 rfl) ?_
      refine va_get (D := D) (ci := 0) (v := .int (S0 2)) (C := RX0) (T := TX0) (N := 6) hx hb hts hiX0 hown hK hP 0 rfl rfl 2 (by decide) (hts (.fieldLink RX0 34 "PanoramaHouse$ContractReader" "length" "I") (by decide +kernel)) (fun _ h9 => h9) rfl dX0_advance_13 ?_
      refine lv_icmp_ge (tgt := 47) hx hb dX0_advance_16 (by decide) (fun c_14 => ?_) (fun c_14 => ?_)
      · have hF := ifp hF c_14
        exact bJ47 S0 hF _ _ _ hP hD hS (lv_sub hl [0] rfl)
      · have hF := ifn hF c_14
        refine lv_aload_n hx hb dX0_advance_19 rfl (lv_at hl 0 rfl) ?_
        refine lv_aload_n hx hb dX0_advance_20 rfl (lv_at hl 0 rfl) ?_
        refine va_get (D := D) (ci := 0) (v := .int (S0 4)) (C := RX0) (T := TX0) (N := 6) hx hb hts hiX0 hown hK hP 0 rfl rfl 4 (by decide) (hts (.fieldLink RX0 50 "PanoramaHouse$ContractReader" "start" "I") (by decide +kernel)) (fun _ h9 => h9) rfl dX0_advance_21 ?_
        obtain ⟨z_15, fz_15, hF⟩ := bd_at hF
        refine callV_int ([]) ([]) (w' := wX0 C a0 S0 A0) (As := [.int (S0 4)]) (rest := []) ⟨hx, hb, hml, hown, hts⟩ hK hA hZ (c_X0_byteAt l K D C a0 S0 A0 (S0 4) z_15 fz_15) (cwV 1 hts gX0_advance_X0_byteAt rfl rfl rfl (by decide +kernel) ⟨Nat.le_of_ble_eq_true rfl, Nat.le_of_ble_eq_true rfl⟩) 0 rfl rfl rfl rfl hl.1 rfl (Nat.le_of_ble_eq_true rfl) ⟨Nat.zero_le _, Nat.zero_le _⟩ (by simp only [List.append_assoc, List.append_nil, List.nil_append]) (by simp only [List.append_assoc, List.append_nil, List.nil_append]) hP hD hS dX0_advance_24 (fun H locs hP hD hS => ?_)
        obtain ⟨z_16, fz_16, hF⟩ := bd_at hF
        refine callS_int (As := [.int z_15]) (rest := []) ⟨hx, hb, hml, hown, hts⟩ hK hA hZ (c_X0_kindOf l K D C z_15 z_16 fz_16) (va_cwS 1 hts gX0_advance_X0_kindOf rfl rfl rfl (by decide +kernel) ⟨Nat.le_of_ble_eq_true rfl, Nat.le_of_ble_eq_true rfl⟩) rfl hl.1 rfl (Nat.le_of_ble_eq_true rfl) ⟨Nat.zero_le _, Nat.zero_le _⟩ hP hS dX0_advance_27 (fun H locs hP hS => ?_)
        refine lv_iconst (v := 4) hx hb dX0_advance_30 (by decide) ?_
        refine lv_icmp_ne (tgt := 47) hx hb dX0_advance_31 (by decide) (fun c_17 => ?_) (fun c_17 => ?_)
        · have hF := ifn hF c_17
          exact bJ47 S0 hF _ _ _ hP hD hS (lv_sub hl [0] rfl)
        · have hF := ifp hF c_17
          refine lv_aload_n hx hb dX0_advance_34 rfl (lv_at hl 0 rfl) ?_
          refine lv_dup hx hb dX0_advance_35 rfl ?_
          refine va_get (D := D) (ci := 0) (v := .int (S0 4)) (C := RX0) (T := TX0) (N := 6) hx hb hts hiX0 hown hK hP 0 rfl rfl 4 (by decide) (hts (.fieldLink RX0 50 "PanoramaHouse$ContractReader" "start" "I") (by decide +kernel)) (fun _ h9 => h9) rfl dX0_advance_36 ?_
          refine lv_iconst (v := 1) hx hb dX0_advance_39 (by decide) ?_
          refine lv_iadd hx hb dX0_advance_40 ?_
          refine va_put (D := D) (ci := 0) (v := .int ((S0 4) + 1)) (ty := .int) (C := RX0) (T := TX0) (N := 6) hx hb hts hiX0 tyX0 tyX0_ok nmX0 hown hK hP hD hS 0 rfl rfl 4 (by decide) (hts (.fieldLink RX0 50 "PanoramaHouse$ContractReader" "start" "I") (by decide +kernel)) (fun _ h9 => h9) rfl (by decide +kernel) rfl rfl (Nat.le_of_ble_eq_true rfl) dX0_advance_41 (fun H locs hP hD hS => ?_)
          obtain ⟨S0_18, eS0_18, hF⟩ := nm_ex hF
          have hP : va_P D vwCl (wX0 C a0 S0_18 A0) H := by rw [eS0_18]; exact hP
          have hD : va_D A (wX0 C a0 S0_18 A0) := by rw [eS0_18]; exact hD
          refine lv_goto (tgt := 8) hx hb dX0_advance_44 (by decide) ?_
          exact ih8 S0_18 hF _ _ _ hP hD hS (lv_sub hl [0] rfl)
  refine lv_aload_n hx hb dX0_advance_0 rfl (lv_at hl 0 rfl) ?_
  refine lv_aload_n hx hb dX0_advance_1 rfl (lv_at hl 0 rfl) ?_
  refine va_get (D := D) (ci := 0) (v := .int (S0 5)) (C := RX0) (T := TX0) (N := 6) hx hb hts hiX0 hown hK hP 0 rfl rfl 5 (by decide) (hts (.fieldLink RX0 37 "PanoramaHouse$ContractReader" "end" "I") (by decide +kernel)) (fun _ h9 => h9) rfl dX0_advance_2 ?_
  refine va_put (D := D) (ci := 0) (v := .int (S0 5)) (ty := .int) (C := RX0) (T := TX0) (N := 6) hx hb hts hiX0 tyX0 tyX0_ok nmX0 hown hK hP hD hS 0 rfl rfl 4 (by decide) (hts (.fieldLink RX0 50 "PanoramaHouse$ContractReader" "start" "I") (by decide +kernel)) (fun _ h9 => h9) rfl (by decide +kernel) rfl rfl (Nat.le_of_ble_eq_true rfl) dX0_advance_5 (fun H locs hP hD hS => ?_)
  obtain ⟨S0_19, eS0_19, hF⟩ := nm_ex hF
  have hP : va_P D vwCl (wX0 C a0 S0_19 A0) H := by rw [eS0_19]; exact hP
  have hD : va_D A (wX0 C a0 S0_19 A0) := by rw [eS0_19]; exact hD
  exact bL8 FU S0_19 hF _ _ _ hP hD hS (lv_sub hl [0] rfl)
abbrev rmX0_numberHere : Room := { frames := 2, cells := 0, slots := 0, locals := 53 }
set_option maxRecDepth 100000 in
set_option maxHeartbeats 4000000 in
theorem c_X0_numberHere (l : Launch) (K : Kx) (D : va_G) (C : Nat → ClassId) (a0 : Nat → Nat) (S0 : Nat → Int32) (A0 : Nat → Nat → Int32) (p1 : Int32) (z : Int32) (hF : F_X0_numberHere S0 A0 p1 = some z) : MetI l yX0_numberHere wsX0_numberHere rmX0_numberHere K D (tyV C) (wX0 C a0 S0 A0) [.ref (a0 0), .int p1] (wX0 C a0 S0 A0) z := by
  refine met_int (cc := cX0_numberHere) (maxL := 4) (ty := .int) (by decide +kernel) rfl (Nat.le_of_ble_eq_true rfl) ?_
  intro p e s m below meth c A Q ls ⟨hx, hb, hml, hown, hts, hK, hA, hZ⟩ hP hD hS hl hret
  have hown : s.vm.findClass RX0 = some m.cls := hown
  have hiX0 : ∀ w ∈ u_ws RX0 TX0 6, w ∈ wsX0_numberHere := by decide +kernel
  have hl : lv_has ls 4 [(0, .ref (a0 0)), (1, .int p1)] := hl
  unfold F_X0_numberHere at hF
  obtain ⟨J58, eJ58, hF⟩ := nm_ex hF
  have bJ58 : ∀ (x1 : Int32) (x2 : Int32), J58 x1 x2 = some z → ∀ (H : Heap) (locs : List Loc) (ls : Array Slot), va_P D vwCl (wX0 C a0 S0 A0) H → va_D A (wX0 C a0 S0 A0) → va_S A s.heap H locs → lv_has ls 4 [(1, .int x1), (2, .int x2)] → W p l e rmX0_numberHere s m ([.ref (a0 0), .int p1] : List Value).toArray below meth c H locs 0 0 Q (F0 m 58 ls []) := by
    intro x1 x2 hF H locs ls hP hD hS hl
    rw [eJ58] at hF
    refine lv_iload_n hx hb dX0_numberHere_58 rfl (lv_at hl 1 rfl) ?_
    refine lv_iload_n hx hb dX0_numberHere_59 rfl (lv_at hl 0 rfl) ?_
    refine lv_icmp_le (tgt := 67) hx hb dX0_numberHere_60 (by decide) (fun c_1 => ?_) (fun c_1 => ?_)
    · have hF := ifp hF c_1
      refine lv_iload_n hx hb dX0_numberHere_67 rfl (lv_at hl 1 rfl) ?_
      cases hF
      exact hret _ _ _ _ dX0_numberHere_68 rfl hP hD hS
    · have hF := ifn hF c_1
      refine lv_iconst (v := -1) hx hb dX0_numberHere_63 (by decide) ?_
      refine lv_goto (tgt := 68) hx hb dX0_numberHere_64 (by decide) ?_
      cases hF
      exact hret _ _ _ _ dX0_numberHere_68 rfl hP hD hS
  have bL30 : ∀ (n : Nat) (x1 : Int32) (x2 : Int32) (x3 : Int32), L_X0_numberHere_30 S0 A0 J58 n x1 x2 x3 = some z → ∀ (H : Heap) (locs : List Loc) (ls : Array Slot), va_P D vwCl (wX0 C a0 S0 A0) H → va_D A (wX0 C a0 S0 A0) → va_S A s.heap H locs → lv_has ls 4 [(0, .ref (a0 0)), (1, .int x1), (2, .int x2), (3, .int x3)] → W p l e rmX0_numberHere s m ([.ref (a0 0), .int p1] : List Value).toArray below meth c H locs 0 0 Q (F0 m 30 ls []) := by
    intro n
    induction n with
    | zero => intro x1 x2 x3 hF; rw [L_X0_numberHere_30.eq_1] at hF; cases hF
    | succ n ih30 =>
      intro x1 x2 x3 hF H locs ls hP hD hS hl
      rw [L_X0_numberHere_30.eq_2] at hF
      refine lv_iload_n hx hb dX0_numberHere_30 rfl (lv_at hl 3 rfl) ?_
      refine lv_aload_n hx hb dX0_numberHere_31 rfl (lv_at hl 0 rfl) ?_
      refine va_get (D := D) (ci := 0) (v := .int (S0 5)) (C := RX0) (T := TX0) (N := 6) hx hb hts hiX0 hown hK hP 0 rfl rfl 5 (by decide) (hts (.fieldLink RX0 37 "PanoramaHouse$ContractReader" "end" "I") (by decide +kernel)) (fun _ h9 => h9) rfl dX0_numberHere_32 ?_
      refine lv_icmp_ge (tgt := 58) hx hb dX0_numberHere_35 (by decide) (fun c_2 => ?_) (fun c_2 => ?_)
      · have hF := ifp hF c_2
        exact bJ58 x1 x2 hF _ _ _ hP hD hS (lv_sub hl [1, 2] rfl)
      · have hF := ifn hF c_2
        refine lv_iload_n hx hb dX0_numberHere_38 rfl (lv_at hl 2 rfl) ?_
        refine lv_bipush (v := 10) hx hb dX0_numberHere_39 (by decide) ?_
        refine lv_imul hx hb dX0_numberHere_41 ?_
        refine lv_aload_n hx hb dX0_numberHere_42 rfl (lv_at hl 0 rfl) ?_
        refine lv_iload_n hx hb dX0_numberHere_43 rfl (lv_at hl 3 rfl) ?_
        obtain ⟨z_3, fz_3, hF⟩ := bd_at hF
        refine callV_int ([]) ([]) (w' := wX0 C a0 S0 A0) (As := [.int x3]) (rest := [.int (x2 * 10)]) ⟨hx, hb, hml, hown, hts⟩ hK hA hZ (c_X0_byteAt l K D C a0 S0 A0 x3 z_3 fz_3) (cwV 1 hts gX0_numberHere_X0_byteAt rfl rfl rfl (by decide +kernel) ⟨Nat.le_of_ble_eq_true rfl, Nat.le_of_ble_eq_true rfl⟩) 0 rfl rfl rfl rfl hl.1 rfl (Nat.le_of_ble_eq_true rfl) ⟨Nat.zero_le _, Nat.zero_le _⟩ (by simp only [List.append_assoc, List.append_nil, List.nil_append]) (by simp only [List.append_assoc, List.append_nil, List.nil_append]) hP hD hS dX0_numberHere_44 (fun H locs hP hD hS => ?_)
        refine lv_iadd hx hb dX0_numberHere_47 ?_
        refine lv_bipush (v := 48) hx hb dX0_numberHere_48 (by decide) ?_
        refine lv_isub hx hb dX0_numberHere_50 ?_
        refine lv_topi (fun v_4 ev_4 => ?_)
        have hF := nm_at hF ev_4
        refine lv_istore_n (lv' := [(2, .int v_4), (0, .ref (a0 0)), (1, .int x1), (3, .int x3)]) hx hb dX0_numberHere_51 rfl hl (by decide) rfl (fun ls hl => ?_)
        obtain ⟨v_5, ev_5⟩ : ∃ y : Int32, y = x3 + 1 := ⟨_, rfl⟩
        have hF := nm_at hF ev_5
        refine lv_iinc (v := v_5) (lv' := [(3, .int v_5), (2, .int v_4), (0, .ref (a0 0)), (1, .int x1)]) hx hb dX0_numberHere_52 hl (k := 3) rfl (by rw [ev_5]; rfl) (by decide) rfl (fun ls hl => ?_)
        refine lv_goto (tgt := 30) hx hb dX0_numberHere_55 (by decide) ?_
        exact ih30 x1 v_4 v_5 hF _ _ _ hP hD hS (lv_sub hl [2, 3, 1, 0] rfl)
  refine lv_aload_n hx hb dX0_numberHere_0 rfl (lv_at hl 0 rfl) ?_
  refine va_get (D := D) (ci := 0) (v := .int (S0 3)) (C := RX0) (T := TX0) (N := 6) hx hb hts hiX0 hown hK hP 0 rfl rfl 3 (by decide) (hts (.fieldLink RX0 43 "PanoramaHouse$ContractReader" "kind" "I") (by decide +kernel)) (fun _ h9 => h9) rfl dX0_numberHere_1 ?_
  refine lv_iconst (v := 2) hx hb dX0_numberHere_4 (by decide) ?_
  refine lv_icmp_ne (tgt := 21) hx hb dX0_numberHere_5 (by decide) (fun c_6 => ?_) (fun c_6 => ?_)
  · have hF := ifn hF c_6
    refine lv_iconst (v := -1) hx hb dX0_numberHere_21 (by decide) ?_
    cases hF
    exact hret _ _ _ _ dX0_numberHere_22 rfl hP hD hS
  · have hF := ifp hF c_6
    refine lv_aload_n hx hb dX0_numberHere_8 rfl (lv_at hl 0 rfl) ?_
    refine va_get (D := D) (ci := 0) (v := .int (S0 5)) (C := RX0) (T := TX0) (N := 6) hx hb hts hiX0 hown hK hP 0 rfl rfl 5 (by decide) (hts (.fieldLink RX0 37 "PanoramaHouse$ContractReader" "end" "I") (by decide +kernel)) (fun _ h9 => h9) rfl dX0_numberHere_9 ?_
    refine lv_aload_n hx hb dX0_numberHere_12 rfl (lv_at hl 0 rfl) ?_
    refine va_get (D := D) (ci := 0) (v := .int (S0 4)) (C := RX0) (T := TX0) (N := 6) hx hb hts hiX0 hown hK hP 0 rfl rfl 4 (by decide) (hts (.fieldLink RX0 50 "PanoramaHouse$ContractReader" "start" "I") (by decide +kernel)) (fun _ h9 => h9) rfl dX0_numberHere_13 ?_
    refine lv_isub hx hb dX0_numberHere_16 ?_
    refine lv_iconst (v := 5) hx hb dX0_numberHere_17 (by decide) ?_
    refine lv_icmp_le (tgt := 23) hx hb dX0_numberHere_18 (by decide) (fun c_7 => ?_) (fun c_7 => ?_)
    · have hF := ifp hF c_7
      refine lv_iconst (v := 0) hx hb dX0_numberHere_23 (by decide) ?_
      refine lv_istore_n (lv' := [(2, .int 0), (0, .ref (a0 0)), (1, .int p1)]) hx hb dX0_numberHere_24 rfl hl (by decide) rfl (fun ls hl => ?_)
      refine lv_aload_n hx hb dX0_numberHere_25 rfl (lv_at hl 1 rfl) ?_
      refine va_get (D := D) (ci := 0) (v := .int (S0 4)) (C := RX0) (T := TX0) (N := 6) hx hb hts hiX0 hown hK hP 0 rfl rfl 4 (by decide) (hts (.fieldLink RX0 50 "PanoramaHouse$ContractReader" "start" "I") (by decide +kernel)) (fun _ h9 => h9) rfl dX0_numberHere_26 ?_
      refine lv_topi (fun v_8 ev_8 => ?_)
      have hF := nm_at hF ev_8
      refine lv_istore_n (lv' := [(3, .int v_8), (2, .int 0), (0, .ref (a0 0)), (1, .int p1)]) hx hb dX0_numberHere_29 rfl hl (by decide) rfl (fun ls hl => ?_)
      exact bL30 FU p1 0 v_8 hF _ _ _ hP hD hS (lv_sub hl [2, 3, 1, 0] rfl)
    · have hF := ifn hF c_7
      refine lv_iconst (v := -1) hx hb dX0_numberHere_21 (by decide) ?_
      cases hF
      exact hret _ _ _ _ dX0_numberHere_22 rfl hP hD hS
abbrev rmX0_signHere : Room := { frames := 2, cells := 0, slots := 0, locals := 53 }
set_option maxRecDepth 100000 in
set_option maxHeartbeats 4000000 in
theorem c_X0_signHere (l : Launch) (K : Kx) (D : va_G) (C : Nat → ClassId) (a0 : Nat → Nat) (S0 : Nat → Int32) (A0 : Nat → Nat → Int32) (z : Int32) (hF : F_X0_signHere S0 A0 = some z) : MetI l yX0_signHere wsX0_signHere rmX0_signHere K D (tyV C) (wX0 C a0 S0 A0) [.ref (a0 0)] (wX0 C a0 S0 A0) z := by
  refine met_int (cc := cX0_signHere) (maxL := 1) (ty := .int) (by decide +kernel) rfl (Nat.le_of_ble_eq_true rfl) ?_
  intro p e s m below meth c A Q ls ⟨hx, hb, hml, hown, hts, hK, hA, hZ⟩ hP hD hS hl hret
  have hown : s.vm.findClass RX0 = some m.cls := hown
  have hiX0 : ∀ w ∈ u_ws RX0 TX0 6, w ∈ wsX0_signHere := by decide +kernel
  have hl : lv_has ls 1 [(0, .ref (a0 0))] := hl
  unfold F_X0_signHere at hF
  refine lv_aload_n hx hb dX0_signHere_0 rfl (lv_at hl 0 rfl) ?_
  refine va_get (D := D) (ci := 0) (v := .int (S0 3)) (C := RX0) (T := TX0) (N := 6) hx hb hts hiX0 hown hK hP 0 rfl rfl 3 (by decide) (hts (.fieldLink RX0 43 "PanoramaHouse$ContractReader" "kind" "I") (by decide +kernel)) (fun _ h9 => h9) rfl dX0_signHere_1 ?_
  refine lv_iconst (v := 3) hx hb dX0_signHere_4 (by decide) ?_
  refine lv_icmp_ne (tgt := 19) hx hb dX0_signHere_5 (by decide) (fun c_1 => ?_) (fun c_1 => ?_)
  · have hF := ifn hF c_1
    refine lv_iconst (v := -1) hx hb dX0_signHere_19 (by decide) ?_
    cases hF
    exact hret _ _ _ _ dX0_signHere_20 rfl hP hD hS
  · have hF := ifp hF c_1
    refine lv_aload_n hx hb dX0_signHere_8 rfl (lv_at hl 0 rfl) ?_
    refine lv_aload_n hx hb dX0_signHere_9 rfl (lv_at hl 0 rfl) ?_
    refine va_get (D := D) (ci := 0) (v := .int (S0 4)) (C := RX0) (T := TX0) (N := 6) hx hb hts hiX0 hown hK hP 0 rfl rfl 4 (by decide) (hts (.fieldLink RX0 50 "PanoramaHouse$ContractReader" "start" "I") (by decide +kernel)) (fun _ h9 => h9) rfl dX0_signHere_10 ?_
    obtain ⟨z_2, fz_2, hF⟩ := bd_at hF
    refine callV_int ([]) ([]) (w' := wX0 C a0 S0 A0) (As := [.int (S0 4)]) (rest := []) ⟨hx, hb, hml, hown, hts⟩ hK hA hZ (c_X0_byteAt l K D C a0 S0 A0 (S0 4) z_2 fz_2) (cwV 1 hts gX0_signHere_X0_byteAt rfl rfl rfl (by decide +kernel) ⟨Nat.le_of_ble_eq_true rfl, Nat.le_of_ble_eq_true rfl⟩) 0 rfl rfl rfl rfl hl.1 rfl (Nat.le_of_ble_eq_true rfl) ⟨Nat.zero_le _, Nat.zero_le _⟩ (by simp only [List.append_assoc, List.append_nil, List.nil_append]) (by simp only [List.append_assoc, List.append_nil, List.nil_append]) hP hD hS dX0_signHere_13 (fun H locs hP hD hS => ?_)
    refine lv_goto (tgt := 20) hx hb dX0_signHere_16 (by decide) ?_
    cases hF
    exact hret _ _ _ _ dX0_signHere_20 rfl hP hD hS
abbrev rmX0_isWord : Room := { frames := 5, cells := 0, slots := 0, locals := 149 }
set_option maxRecDepth 100000 in
set_option maxHeartbeats 4000000 in
theorem c_X0_isWord (l : Launch) (K : Kx) (D : va_G) (C : Nat → ClassId) (a0 : Nat → Nat) (S0 : Nat → Int32) (A0 : Nat → Nat → Int32) (k1 : Nat) (z : Int32) (hF : F_X0_isWord S0 A0 k1 = some z) : MetI l yX0_isWord wsX0_isWord rmX0_isWord K D (tyV C) (wX0 C a0 S0 A0) [.ref (a0 0), .ref (K.1 k1)] (wX0 C a0 S0 A0) z := by
  refine met_int (cc := cX0_isWord) (maxL := 3) (ty := .boolean) (by decide +kernel) rfl (Nat.le_of_ble_eq_true rfl) ?_
  intro p e s m below meth c A Q ls ⟨hx, hb, hml, hown, hts, hK, hA, hZ⟩ hP hD hS hl hret
  have hown : s.vm.findClass RX0 = some m.cls := hown
  have hiX0 : ∀ w ∈ u_ws RX0 TX0 6, w ∈ wsX0_isWord := by decide +kernel
  have hl : lv_has ls 3 [(0, .ref (a0 0)), (1, .ref (K.1 k1))] := hl
  unfold F_X0_isWord at hF
  obtain ⟨hk1, hF⟩ := gk_at hF
  obtain ⟨J62, eJ62, hF⟩ := nm_ex hF
  have bJ62 : J62 = some z → ∀ (H : Heap) (locs : List Loc) (ls : Array Slot), va_P D vwCl (wX0 C a0 S0 A0) H → va_D A (wX0 C a0 S0 A0) → va_S A s.heap H locs → lv_has ls 3 [] → W p l e rmX0_isWord s m ([.ref (a0 0), .ref (K.1 k1)] : List Value).toArray below meth c H locs 0 0 Q (F0 m 62 ls []) := by
    intro  hF H locs ls hP hD hS hl
    rw [eJ62] at hF
    refine lv_iconst (v := 1) hx hb dX0_isWord_62 (by decide) ?_
    cases hF
    exact hret _ _ _ _ dX0_isWord_63 nb1 hP hD hS
  have bL28 : ∀ (n : Nat) (x2 : Int32), L_X0_isWord_28 S0 A0 k1 J62 n x2 = some z → ∀ (H : Heap) (locs : List Loc) (ls : Array Slot), va_P D vwCl (wX0 C a0 S0 A0) H → va_D A (wX0 C a0 S0 A0) → va_S A s.heap H locs → lv_has ls 3 [(0, .ref (a0 0)), (1, .ref (K.1 k1)), (2, .int x2)] → W p l e rmX0_isWord s m ([.ref (a0 0), .ref (K.1 k1)] : List Value).toArray below meth c H locs 0 0 Q (F0 m 28 ls []) := by
    intro n
    induction n with
    | zero => intro x2 hF; rw [L_X0_isWord_28.eq_1] at hF; cases hF
    | succ n ih28 =>
      intro x2 hF H locs ls hP hD hS hl
      rw [L_X0_isWord_28.eq_2] at hF
      refine lv_iload_n hx hb dX0_isWord_28 rfl (lv_at hl 2 rfl) ?_
      refine lv_aload_n hx hb dX0_isWord_29 rfl (lv_at hl 1 rfl) ?_
      refine callR_int (As := []) (rest := [.int x2]) ⟨hx, hb, hml, hown, hts⟩ hK hA hZ (c_str_length l K D (tyV C) k1 hk1) (cwV 0 hts gX0_isWord_J0_length_8abf5 rfl rfl rfl (by decide +kernel) ⟨Nat.le_of_ble_eq_true rfl, Nat.le_of_ble_eq_true rfl⟩) (vk_recv hZ.txt hk1 hS) rfl hl.1 rfl (Nat.le_of_ble_eq_true rfl) ⟨Nat.zero_le _, Nat.zero_le _⟩ hP hS dX0_isWord_30 (fun H locs hP hS => ?_)
      refine lv_icmp_ge (tgt := 62) hx hb dX0_isWord_33 (by decide) (fun c_1 => ?_) (fun c_1 => ?_)
      · have hF := ifp hF c_1
        exact bJ62  hF _ _ _ hP hD hS (lv_sub hl [] rfl)
      · have hF := ifn hF c_1
        refine lv_aload_n hx hb dX0_isWord_36 rfl (lv_at hl 0 rfl) ?_
        refine lv_aload_n hx hb dX0_isWord_37 rfl (lv_at hl 0 rfl) ?_
        refine va_get (D := D) (ci := 0) (v := .int (S0 4)) (C := RX0) (T := TX0) (N := 6) hx hb hts hiX0 hown hK hP 0 rfl rfl 4 (by decide) (hts (.fieldLink RX0 50 "PanoramaHouse$ContractReader" "start" "I") (by decide +kernel)) (fun _ h9 => h9) rfl dX0_isWord_38 ?_
        refine lv_iload_n hx hb dX0_isWord_41 rfl (lv_at hl 2 rfl) ?_
        refine lv_iadd hx hb dX0_isWord_42 ?_
        obtain ⟨z_2, fz_2, hF⟩ := bd_at hF
        refine callV_int ([]) ([]) (w' := wX0 C a0 S0 A0) (As := [.int ((S0 4) + x2)]) (rest := []) ⟨hx, hb, hml, hown, hts⟩ hK hA hZ (c_X0_byteAt l K D C a0 S0 A0 ((S0 4) + x2) z_2 fz_2) (cwV 1 hts gX0_isWord_X0_byteAt rfl rfl rfl (by decide +kernel) ⟨Nat.le_of_ble_eq_true rfl, Nat.le_of_ble_eq_true rfl⟩) 0 rfl rfl rfl rfl hl.1 rfl (Nat.le_of_ble_eq_true rfl) ⟨Nat.zero_le _, Nat.zero_le _⟩ (by simp only [List.append_assoc, List.append_nil, List.nil_append]) (by simp only [List.append_assoc, List.append_nil, List.nil_append]) hP hD hS dX0_isWord_43 (fun H locs hP hD hS => ?_)
        refine lv_aload_n hx hb dX0_isWord_46 rfl (lv_at hl 1 rfl) ?_
        refine lv_iload_n hx hb dX0_isWord_47 rfl (lv_at hl 2 rfl) ?_
        obtain ⟨h_3, hF⟩ := ix_at hF
        refine callR_int (As := [.int x2]) (rest := [.int z_2]) ⟨hx, hb, hml, hown, hts⟩ hK hA hZ (c_str_charAt l K D (tyV C) k1 hk1 x2 h_3) (cwV 1 hts gX0_isWord_J0_charAt_5068e rfl rfl rfl (by decide +kernel) ⟨Nat.le_of_ble_eq_true rfl, Nat.le_of_ble_eq_true rfl⟩) (vk_recv hZ.txt hk1 hS) rfl hl.1 rfl (Nat.le_of_ble_eq_true rfl) ⟨Nat.zero_le _, Nat.zero_le _⟩ hP hS dX0_isWord_48 (fun H locs hP hS => ?_)
        refine lv_icmp_eq (tgt := 56) hx hb dX0_isWord_51 (by decide) (fun c_4 => ?_) (fun c_4 => ?_)
        · have hF := ifp hF c_4
          obtain ⟨v_5, ev_5⟩ : ∃ y : Int32, y = x2 + 1 := ⟨_, rfl⟩
          have hF := nm_at hF ev_5
          refine lv_iinc (v := v_5) (lv' := [(2, .int v_5), (0, .ref (a0 0)), (1, .ref (K.1 k1))]) hx hb dX0_isWord_56 hl (k := 2) rfl (by rw [ev_5]; rfl) (by decide) rfl (fun ls hl => ?_)
          refine lv_goto (tgt := 28) hx hb dX0_isWord_59 (by decide) ?_
          exact ih28 v_5 hF _ _ _ hP hD hS (lv_sub hl [1, 2, 0] rfl)
        · have hF := ifn hF c_4
          refine lv_iconst (v := 0) hx hb dX0_isWord_54 (by decide) ?_
          cases hF
          exact hret _ _ _ _ dX0_isWord_55 nb0 hP hD hS
  refine lv_aload_n hx hb dX0_isWord_0 rfl (lv_at hl 0 rfl) ?_
  refine va_get (D := D) (ci := 0) (v := .int (S0 3)) (C := RX0) (T := TX0) (N := 6) hx hb hts hiX0 hown hK hP 0 rfl rfl 3 (by decide) (hts (.fieldLink RX0 43 "PanoramaHouse$ContractReader" "kind" "I") (by decide +kernel)) (fun _ h9 => h9) rfl dX0_isWord_1 ?_
  refine lv_iconst (v := 1) hx hb dX0_isWord_4 (by decide) ?_
  refine lv_icmp_ne (tgt := 24) hx hb dX0_isWord_5 (by decide) (fun c_6 => ?_) (fun c_6 => ?_)
  · have hF := ifn hF c_6
    refine lv_iconst (v := 0) hx hb dX0_isWord_24 (by decide) ?_
    cases hF
    exact hret _ _ _ _ dX0_isWord_25 nb0 hP hD hS
  · have hF := ifp hF c_6
    refine lv_aload_n hx hb dX0_isWord_8 rfl (lv_at hl 0 rfl) ?_
    refine va_get (D := D) (ci := 0) (v := .int (S0 5)) (C := RX0) (T := TX0) (N := 6) hx hb hts hiX0 hown hK hP 0 rfl rfl 5 (by decide) (hts (.fieldLink RX0 37 "PanoramaHouse$ContractReader" "end" "I") (by decide +kernel)) (fun _ h9 => h9) rfl dX0_isWord_9 ?_
    refine lv_aload_n hx hb dX0_isWord_12 rfl (lv_at hl 0 rfl) ?_
    refine va_get (D := D) (ci := 0) (v := .int (S0 4)) (C := RX0) (T := TX0) (N := 6) hx hb hts hiX0 hown hK hP 0 rfl rfl 4 (by decide) (hts (.fieldLink RX0 50 "PanoramaHouse$ContractReader" "start" "I") (by decide +kernel)) (fun _ h9 => h9) rfl dX0_isWord_13 ?_
    refine lv_isub hx hb dX0_isWord_16 ?_
    refine lv_aload_n hx hb dX0_isWord_17 rfl (lv_at hl 1 rfl) ?_
    refine callR_int (As := []) (rest := [.int ((S0 5) - (S0 4))]) ⟨hx, hb, hml, hown, hts⟩ hK hA hZ (c_str_length l K D (tyV C) k1 hk1) (cwV 0 hts gX0_isWord_J0_length_8abf5 rfl rfl rfl (by decide +kernel) ⟨Nat.le_of_ble_eq_true rfl, Nat.le_of_ble_eq_true rfl⟩) (vk_recv hZ.txt hk1 hS) rfl hl.1 rfl (Nat.le_of_ble_eq_true rfl) ⟨Nat.zero_le _, Nat.zero_le _⟩ hP hS dX0_isWord_18 (fun H locs hP hS => ?_)
    refine lv_icmp_eq (tgt := 26) hx hb dX0_isWord_21 (by decide) (fun c_7 => ?_) (fun c_7 => ?_)
    · have hF := ifp hF c_7
      refine lv_iconst (v := 0) hx hb dX0_isWord_26 (by decide) ?_
      refine lv_istore_n (lv' := [(2, .int 0), (0, .ref (a0 0)), (1, .ref (K.1 k1))]) hx hb dX0_isWord_27 rfl hl (by decide) rfl (fun ls hl => ?_)
      exact bL28 FU 0 hF _ _ _ hP hD hS (lv_sub hl [1, 2, 0] rfl)
    · have hF := ifn hF c_7
      refine lv_iconst (v := 0) hx hb dX0_isWord_24 (by decide) ?_
      cases hF
      exact hret _ _ _ _ dX0_isWord_25 nb0 hP hD hS
abbrev rmX0_subjectHere : Room := { frames := 6, cells := 0, slots := 0, locals := 171 }
set_option maxRecDepth 100000 in
set_option maxHeartbeats 4000000 in
theorem c_X0_subjectHere (l : Launch) (K : Kx) (D : va_G) (C : Nat → ClassId) (a0 : Nat → Nat) (S0 : Nat → Int32) (A0 : Nat → Nat → Int32) (z : Int32) (hF : F_X0_subjectHere S0 A0 = some z) : MetI l yX0_subjectHere wsX0_subjectHere rmX0_subjectHere K D (tyV C) (wX0 C a0 S0 A0) [.ref (a0 0)] (wX0 C a0 S0 A0) z := by
  refine met_int (cc := cX0_subjectHere) (maxL := 1) (ty := .int) (by decide +kernel) rfl (Nat.le_of_ble_eq_true rfl) ?_
  intro p e s m below meth c A Q ls ⟨hx, hb, hml, hown, hts, hK, hA, hZ⟩ hP hD hS hl hret
  have hown : s.vm.findClass RX0 = some m.cls := hown
  have hl : lv_has ls 1 [(0, .ref (a0 0))] := hl
  unfold F_X0_subjectHere at hF
  refine lv_aload_n hx hb dX0_subjectHere_0 rfl (lv_at hl 0 rfl) ?_
  refine va_ldcS hx hb hown hZ.str4 dX0_subjectHere_1 ?_
  obtain ⟨z_1, fz_1, hF⟩ := bd_at hF
  refine callV_int ([]) ([]) (w' := wX0 C a0 S0 A0) (As := [.ref (K.1 4)]) (rest := []) ⟨hx, hb, hml, hown, hts⟩ hK hA hZ (c_X0_isWord l K D C a0 S0 A0 4 z_1 fz_1) (cwV 1 hts gX0_subjectHere_X0_isWord rfl rfl rfl (by decide +kernel) ⟨Nat.le_of_ble_eq_true rfl, Nat.le_of_ble_eq_true rfl⟩) 0 rfl rfl rfl rfl hl.1 rfl (Nat.le_of_ble_eq_true rfl) ⟨Nat.zero_le _, Nat.zero_le _⟩ (by simp only [List.append_assoc, List.append_nil, List.nil_append]) (by simp only [List.append_assoc, List.append_nil, List.nil_append]) hP hD hS dX0_subjectHere_3 (fun H locs hP hD hS => ?_)
  refine lv_if_eq (tgt := 11) hx hb dX0_subjectHere_6 (by decide) (fun c_2 => ?_) (fun c_2 => ?_)
  · have hF := ifp hF c_2
    refine lv_aload_n hx hb dX0_subjectHere_11 rfl (lv_at hl 0 rfl) ?_
    refine va_ldcS hx hb hown hZ.str5 dX0_subjectHere_12 ?_
    obtain ⟨z_3, fz_3, hF⟩ := bd_at hF
    refine callV_int ([]) ([]) (w' := wX0 C a0 S0 A0) (As := [.ref (K.1 5)]) (rest := []) ⟨hx, hb, hml, hown, hts⟩ hK hA hZ (c_X0_isWord l K D C a0 S0 A0 5 z_3 fz_3) (cwV 1 hts gX0_subjectHere_X0_isWord rfl rfl rfl (by decide +kernel) ⟨Nat.le_of_ble_eq_true rfl, Nat.le_of_ble_eq_true rfl⟩) 0 rfl rfl rfl rfl hl.1 rfl (Nat.le_of_ble_eq_true rfl) ⟨Nat.zero_le _, Nat.zero_le _⟩ (by simp only [List.append_assoc, List.append_nil, List.nil_append]) (by simp only [List.append_assoc, List.append_nil, List.nil_append]) hP hD hS dX0_subjectHere_14 (fun H locs hP hD hS => ?_)
    refine lv_if_eq (tgt := 22) hx hb dX0_subjectHere_17 (by decide) (fun c_4 => ?_) (fun c_4 => ?_)
    · have hF := ifp hF c_4
      refine lv_aload_n hx hb dX0_subjectHere_22 rfl (lv_at hl 0 rfl) ?_
      refine va_ldcS hx hb hown hZ.str6 dX0_subjectHere_23 ?_
      obtain ⟨z_5, fz_5, hF⟩ := bd_at hF
      refine callV_int ([]) ([]) (w' := wX0 C a0 S0 A0) (As := [.ref (K.1 6)]) (rest := []) ⟨hx, hb, hml, hown, hts⟩ hK hA hZ (c_X0_isWord l K D C a0 S0 A0 6 z_5 fz_5) (cwV 1 hts gX0_subjectHere_X0_isWord rfl rfl rfl (by decide +kernel) ⟨Nat.le_of_ble_eq_true rfl, Nat.le_of_ble_eq_true rfl⟩) 0 rfl rfl rfl rfl hl.1 rfl (Nat.le_of_ble_eq_true rfl) ⟨Nat.zero_le _, Nat.zero_le _⟩ (by simp only [List.append_assoc, List.append_nil, List.nil_append]) (by simp only [List.append_assoc, List.append_nil, List.nil_append]) hP hD hS dX0_subjectHere_25 (fun H locs hP hD hS => ?_)
      refine lv_if_eq (tgt := 35) hx hb dX0_subjectHere_28 (by decide) (fun c_6 => ?_) (fun c_6 => ?_)
      · have hF := ifp hF c_6
        refine lv_iconst (v := -1) hx hb dX0_subjectHere_35 (by decide) ?_
        cases hF
        exact hret _ _ _ _ dX0_subjectHere_36 rfl hP hD hS
      · have hF := ifn hF c_6
        refine lv_iconst (v := 2) hx hb dX0_subjectHere_31 (by decide) ?_
        refine lv_goto (tgt := 36) hx hb dX0_subjectHere_32 (by decide) ?_
        cases hF
        exact hret _ _ _ _ dX0_subjectHere_36 rfl hP hD hS
    · have hF := ifn hF c_4
      refine lv_iconst (v := 1) hx hb dX0_subjectHere_20 (by decide) ?_
      cases hF
      exact hret _ _ _ _ dX0_subjectHere_21 rfl hP hD hS
  · have hF := ifn hF c_2
    refine lv_iconst (v := 0) hx hb dX0_subjectHere_9 (by decide) ?_
    cases hF
    exact hret _ _ _ _ dX0_subjectHere_10 rfl hP hD hS
abbrev rmX0_readTest : Room := { frames := 7, cells := 0, slots := 0, locals := 191 }
set_option maxRecDepth 100000 in
set_option maxHeartbeats 4000000 in
theorem c_X0_readTest (l : Launch) (K : Kx) (D : va_G) (C : Nat → ClassId) (a0 : Nat → Nat) (S0 : Nat → Int32) (A0 : Nat → Nat → Int32) (a1 : Nat → Nat) (S1 : Nat → Int32) (A1 : Nat → Nat → Int32) (z : Int32 × (Nat → Int32) × (Nat → Nat → Int32)) (hF : F_X0_readTest S0 A0 S1 A1 = some z) : MetI l yX0_readTest wsX0_readTest rmX0_readTest K D (tyV C) (wX0 C a0 S0 A0 ++ wX1 C a1 S1 A1) [.ref (a0 0), .ref (a1 0)] (wX0 C a0 z.2.1 A0 ++ wX1 C a1 S1 z.2.2) z.1 := by
  refine met_int (cc := cX0_readTest) (maxL := 5) (ty := .boolean) (by decide +kernel) rfl (Nat.le_of_ble_eq_true rfl) ?_
  intro p e s m below meth c A Q ls ⟨hx, hb, hml, hown, hts, hK, hA, hZ⟩ hP hD hS hl hret
  have hown : s.vm.findClass RX0 = some m.cls := hown
  have hl : lv_has ls 5 [(0, .ref (a0 0)), (1, .ref (a1 0))] := hl
  unfold F_X0_readTest at hF
  refine lv_aload_n hx hb dX0_readTest_0 rfl (lv_at hl 0 rfl) ?_
  obtain ⟨z_1, fz_1, hF⟩ := bd_at hF
  refine callV_int ([]) (wX1 C a1 S1 A1) (w' := wX0 C a0 S0 A0 ++ wX1 C a1 S1 A1) (As := []) (rest := []) ⟨hx, hb, hml, hown, hts⟩ hK hA hZ (c_X0_subjectHere l K D C a0 S0 A0 z_1 fz_1) (cwV 0 hts gX0_readTest_X0_subjectHere rfl rfl rfl (by decide +kernel) ⟨Nat.le_of_ble_eq_true rfl, Nat.le_of_ble_eq_true rfl⟩) 0 rfl rfl rfl rfl hl.1 rfl (Nat.le_of_ble_eq_true rfl) ⟨Nat.zero_le _, Nat.zero_le _⟩ (by simp only [List.append_assoc, List.append_nil, List.nil_append]) (by simp only [List.append_assoc, List.append_nil, List.nil_append]) hP hD hS dX0_readTest_1 (fun H locs hP hD hS => ?_)
  refine lv_istore_n (lv' := [(2, .int z_1), (0, .ref (a0 0)), (1, .ref (a1 0))]) hx hb dX0_readTest_4 rfl hl (by decide) rfl (fun ls hl => ?_)
  refine lv_iload_n hx hb dX0_readTest_5 rfl (lv_at hl 0 rfl) ?_
  refine lv_iconst (v := -1) hx hb dX0_readTest_6 (by decide) ?_
  refine lv_icmp_ne (tgt := 12) hx hb dX0_readTest_7 (by decide) (fun c_2 => ?_) (fun c_2 => ?_)
  · have hF := ifn hF c_2
    refine lv_aload_n hx hb dX0_readTest_12 rfl (lv_at hl 1 rfl) ?_
    obtain ⟨z_3, fz_3, hF⟩ := bd_at hF
    refine callV_void ([]) (wX1 C a1 S1 A1) (w' := wX0 C a0 z_3 A0 ++ wX1 C a1 S1 A1) (As := []) (rest := []) ⟨hx, hb, hml, hown, hts⟩ hK hA hZ (c_X0_advance l K D C a0 S0 A0 z_3 fz_3) (cwV 0 hts gX0_readTest_X0_advance rfl rfl rfl (by decide +kernel) ⟨Nat.le_of_ble_eq_true rfl, Nat.le_of_ble_eq_true rfl⟩) 0 rfl rfl rfl rfl hl.1 rfl (Nat.le_of_ble_eq_true rfl) ⟨Nat.zero_le _, Nat.zero_le _⟩ (by simp only [List.append_assoc, List.append_nil, List.nil_append]) (by simp only [List.append_assoc, List.append_nil, List.nil_append]) hP hD hS dX0_readTest_13 (fun H locs hP hD hS => ?_)
    refine lv_aload_n hx hb dX0_readTest_16 rfl (lv_at hl 1 rfl) ?_
    obtain ⟨z_4, fz_4, hF⟩ := bd_at hF
    refine callV_int ([]) (wX1 C a1 S1 A1) (w' := wX0 C a0 z_3 A0 ++ wX1 C a1 S1 A1) (As := []) (rest := []) ⟨hx, hb, hml, hown, hts⟩ hK hA hZ (c_X0_signHere l K D C a0 z_3 A0 z_4 fz_4) (cwV 0 hts gX0_readTest_X0_signHere rfl rfl rfl (by decide +kernel) ⟨Nat.le_of_ble_eq_true rfl, Nat.le_of_ble_eq_true rfl⟩) 0 rfl rfl rfl rfl hl.1 rfl (Nat.le_of_ble_eq_true rfl) ⟨Nat.zero_le _, Nat.zero_le _⟩ (by simp only [List.append_assoc, List.append_nil, List.nil_append]) (by simp only [List.append_assoc, List.append_nil, List.nil_append]) hP hD hS dX0_readTest_17 (fun H locs hP hD hS => ?_)
    refine lv_istore_n (lv' := [(3, .int z_4), (2, .int z_1), (0, .ref (a0 0)), (1, .ref (a1 0))]) hx hb dX0_readTest_20 rfl hl (by decide) rfl (fun ls hl => ?_)
    refine lv_iload_n hx hb dX0_readTest_21 rfl (lv_at hl 0 rfl) ?_
    refine lv_iconst (v := -1) hx hb dX0_readTest_22 (by decide) ?_
    refine lv_icmp_eq (tgt := 32) hx hb dX0_readTest_23 (by decide) (fun c_5 => ?_) (fun c_5 => ?_)
    · have hF := ifp hF c_5
      refine lv_iconst (v := 0) hx hb dX0_readTest_32 (by decide) ?_
      cases hF
      exact hret _ _ _ _ dX0_readTest_33 nb0 hP hD hS
    · have hF := ifn hF c_5
      refine lv_iload_n hx hb dX0_readTest_26 rfl (lv_at hl 0 rfl) ?_
      refine lv_bipush (v := 59) hx hb dX0_readTest_27 (by decide) ?_
      refine lv_icmp_ne (tgt := 34) hx hb dX0_readTest_29 (by decide) (fun c_6 => ?_) (fun c_6 => ?_)
      · have hF := ifn hF c_6
        refine lv_aload_n hx hb dX0_readTest_34 rfl (lv_at hl 2 rfl) ?_
        obtain ⟨z_7, fz_7, hF⟩ := bd_at hF
        refine callV_void ([]) (wX1 C a1 S1 A1) (w' := wX0 C a0 z_7 A0 ++ wX1 C a1 S1 A1) (As := []) (rest := []) ⟨hx, hb, hml, hown, hts⟩ hK hA hZ (c_X0_advance l K D C a0 z_3 A0 z_7 fz_7) (cwV 0 hts gX0_readTest_X0_advance rfl rfl rfl (by decide +kernel) ⟨Nat.le_of_ble_eq_true rfl, Nat.le_of_ble_eq_true rfl⟩) 0 rfl rfl rfl rfl hl.1 rfl (Nat.le_of_ble_eq_true rfl) ⟨Nat.zero_le _, Nat.zero_le _⟩ (by simp only [List.append_assoc, List.append_nil, List.nil_append]) (by simp only [List.append_assoc, List.append_nil, List.nil_append]) hP hD hS dX0_readTest_35 (fun H locs hP hD hS => ?_)
        refine lv_aload_n hx hb dX0_readTest_38 rfl (lv_at hl 2 rfl) ?_
        refine lv_ldc (v := 99999) hx hb hown (hts (.constant RX0 63 99999) (by decide +kernel)) dX0_readTest_39 ?_
        obtain ⟨z_8, fz_8, hF⟩ := bd_at hF
        refine callV_int ([]) (wX1 C a1 S1 A1) (w' := wX0 C a0 z_7 A0 ++ wX1 C a1 S1 A1) (As := [.int 99999]) (rest := []) ⟨hx, hb, hml, hown, hts⟩ hK hA hZ (c_X0_numberHere l K D C a0 z_7 A0 99999 z_8 fz_8) (cwV 1 hts gX0_readTest_X0_numberHere rfl rfl rfl (by decide +kernel) ⟨Nat.le_of_ble_eq_true rfl, Nat.le_of_ble_eq_true rfl⟩) 0 rfl rfl rfl rfl hl.1 rfl (Nat.le_of_ble_eq_true rfl) ⟨Nat.zero_le _, Nat.zero_le _⟩ (by simp only [List.append_assoc, List.append_nil, List.nil_append]) (by simp only [List.append_assoc, List.append_nil, List.nil_append]) hP hD hS dX0_readTest_41 (fun H locs hP hD hS => ?_)
        refine lv_istore (lv' := [(4, .int z_8), (3, .int z_4), (2, .int z_1), (0, .ref (a0 0)), (1, .ref (a1 0))]) hx hb dX0_readTest_44 hl (by decide) rfl (fun ls hl => ?_)
        refine lv_iload hx hb dX0_readTest_46 (lv_at hl 0 rfl) ?_
        refine lv_iconst (v := -1) hx hb dX0_readTest_48 (by decide) ?_
        refine lv_icmp_ne (tgt := 54) hx hb dX0_readTest_49 (by decide) (fun c_9 => ?_) (fun c_9 => ?_)
        · have hF := ifn hF c_9
          refine lv_aload_n hx hb dX0_readTest_54 rfl (lv_at hl 3 rfl) ?_
          obtain ⟨z_10, fz_10, hF⟩ := bd_at hF
          refine callV_void ([]) (wX1 C a1 S1 A1) (w' := wX0 C a0 z_10 A0 ++ wX1 C a1 S1 A1) (As := []) (rest := []) ⟨hx, hb, hml, hown, hts⟩ hK hA hZ (c_X0_advance l K D C a0 z_7 A0 z_10 fz_10) (cwV 0 hts gX0_readTest_X0_advance rfl rfl rfl (by decide +kernel) ⟨Nat.le_of_ble_eq_true rfl, Nat.le_of_ble_eq_true rfl⟩) 0 rfl rfl rfl rfl hl.1 rfl (Nat.le_of_ble_eq_true rfl) ⟨Nat.zero_le _, Nat.zero_le _⟩ (by simp only [List.append_assoc, List.append_nil, List.nil_append]) (by simp only [List.append_assoc, List.append_nil, List.nil_append]) hP hD hS dX0_readTest_55 (fun H locs hP hD hS => ?_)
          refine lv_aload_n hx hb dX0_readTest_58 rfl (lv_at hl 4 rfl) ?_
          refine lv_iload_n hx hb dX0_readTest_59 rfl (lv_at hl 2 rfl) ?_
          refine lv_iload_n hx hb dX0_readTest_60 rfl (lv_at hl 1 rfl) ?_
          refine lv_iload hx hb dX0_readTest_61 (lv_at hl 0 rfl) ?_
          obtain ⟨z_11, fz_11, hF⟩ := bd_at hF
          refine callV_void (wX0 C a0 z_10 A0) ([]) (w' := wX0 C a0 z_10 A0 ++ wX1 C a1 S1 z_11) (As := [.int z_1, .int z_4, .int z_8]) (rest := []) ⟨hx, hb, hml, hown, hts⟩ hK hA hZ (c_X1_addTest l K D C a1 S1 A1 z_1 z_4 z_8 z_11 fz_11) (cwV 3 hts gX0_readTest_X1_addTest rfl rfl rfl (by decide +kernel) ⟨Nat.le_of_ble_eq_true rfl, Nat.le_of_ble_eq_true rfl⟩) 0 rfl rfl rfl rfl hl.1 rfl (Nat.le_of_ble_eq_true rfl) ⟨Nat.zero_le _, Nat.zero_le _⟩ (by simp only [List.append_assoc, List.append_nil, List.nil_append]) (by simp only [List.append_assoc, List.append_nil, List.nil_append]) hP hD hS dX0_readTest_63 (fun H locs hP hD hS => ?_)
          refine lv_iconst (v := 1) hx hb dX0_readTest_66 (by decide) ?_
          cases hF
          exact hret _ _ _ _ dX0_readTest_67 nb1 hP hD hS
        · have hF := ifp hF c_9
          refine lv_iconst (v := 0) hx hb dX0_readTest_52 (by decide) ?_
          cases hF
          exact hret _ _ _ _ dX0_readTest_53 nb0 hP hD hS
      · have hF := ifp hF c_6
        refine lv_iconst (v := 0) hx hb dX0_readTest_32 (by decide) ?_
        cases hF
        exact hret _ _ _ _ dX0_readTest_33 nb0 hP hD hS
  · have hF := ifp hF c_2
    refine lv_iconst (v := 0) hx hb dX0_readTest_10 (by decide) ?_
    cases hF
    exact hret _ _ _ _ dX0_readTest_11 nb0 hP hD hS
abbrev rmX0_readTests : Room := { frames := 8, cells := 0, slots := 0, locals := 215 }
set_option maxRecDepth 100000 in
set_option maxHeartbeats 4000000 in
theorem c_X0_readTests (l : Launch) (K : Kx) (D : va_G) (C : Nat → ClassId) (a0 : Nat → Nat) (S0 : Nat → Int32) (A0 : Nat → Nat → Int32) (a1 : Nat → Nat) (S1 : Nat → Int32) (A1 : Nat → Nat → Int32) (z : Int32 × (Nat → Int32) × (Nat → Nat → Int32)) (hF : F_X0_readTests S0 A0 S1 A1 = some z) : MetI l yX0_readTests wsX0_readTests rmX0_readTests K D (tyV C) (wX0 C a0 S0 A0 ++ wX1 C a1 S1 A1) [.ref (a0 0), .ref (a1 0)] (wX0 C a0 z.2.1 A0 ++ wX1 C a1 S1 z.2.2) z.1 := by
  refine met_int (cc := cX0_readTests) (maxL := 4) (ty := .boolean) (by decide +kernel) rfl (Nat.le_of_ble_eq_true rfl) ?_
  intro p e s m below meth c A Q ls ⟨hx, hb, hml, hown, hts, hK, hA, hZ⟩ hP hD hS hl hret
  have hown : s.vm.findClass RX0 = some m.cls := hown
  have hl : lv_has ls 4 [(0, .ref (a0 0)), (1, .ref (a1 0))] := hl
  unfold F_X0_readTests at hF
  obtain ⟨J45, eJ45, hF⟩ := nm_ex hF
  have bJ45 : ∀ (x2 : Int32) (S0 : Nat → Int32) (A1 : Nat → Nat → Int32), J45 x2 S0 A1 = some z → ∀ (H : Heap) (locs : List Loc) (ls : Array Slot), va_P D vwCl (wX0 C a0 S0 A0 ++ wX1 C a1 S1 A1) H → va_D A (wX0 C a0 S0 A0 ++ wX1 C a1 S1 A1) → va_S A s.heap H locs → lv_has ls 4 [(0, .ref (a0 0)), (2, .int x2)] → W p l e rmX0_readTests s m ([.ref (a0 0), .ref (a1 0)] : List Value).toArray below meth c H locs 0 0 Q (F0 m 45 ls []) := by
    intro x2 S0 A1 hF H locs ls hP hD hS hl
    rw [eJ45] at hF
    refine lv_iload_n hx hb dX0_readTests_45 rfl (lv_at hl 1 rfl) ?_
    refine lv_if_eq (tgt := 53) hx hb dX0_readTests_46 (by decide) (fun c_1 => ?_) (fun c_1 => ?_)
    · have hF := ifp hF c_1
      refine lv_iload_n hx hb dX0_readTests_53 rfl (lv_at hl 1 rfl) ?_
      refine lv_if_ne (tgt := 61) hx hb dX0_readTests_54 (by decide) (fun c_2 => ?_) (fun c_2 => ?_)
      · have hF := ifn hF c_2
        refine lv_iconst (v := 0) hx hb dX0_readTests_61 (by decide) ?_
        cases hF
        exact hret _ _ _ _ dX0_readTests_62 nb0 hP hD hS
      · have hF := ifp hF c_2
        refine lv_iconst (v := 1) hx hb dX0_readTests_57 (by decide) ?_
        refine lv_goto (tgt := 62) hx hb dX0_readTests_58 (by decide) ?_
        cases hF
        exact hret _ _ _ _ dX0_readTests_62 nb1 hP hD hS
    · have hF := ifn hF c_1
      refine lv_aload_n hx hb dX0_readTests_49 rfl (lv_at hl 0 rfl) ?_
      obtain ⟨z_3, fz_3, hF⟩ := bd_at hF
      refine callV_void ([]) (wX1 C a1 S1 A1) (w' := wX0 C a0 z_3 A0 ++ wX1 C a1 S1 A1) (As := []) (rest := []) ⟨hx, hb, hml, hown, hts⟩ hK hA hZ (c_X0_advance l K D C a0 S0 A0 z_3 fz_3) (cwV 0 hts gX0_readTests_X0_advance rfl rfl rfl (by decide +kernel) ⟨Nat.le_of_ble_eq_true rfl, Nat.le_of_ble_eq_true rfl⟩) 0 rfl rfl rfl rfl hl.1 rfl (Nat.le_of_ble_eq_true rfl) ⟨Nat.zero_le _, Nat.zero_le _⟩ (by simp only [List.append_assoc, List.append_nil, List.nil_append]) (by simp only [List.append_assoc, List.append_nil, List.nil_append]) hP hD hS dX0_readTests_50 (fun H locs hP hD hS => ?_)
      refine lv_iload_n hx hb dX0_readTests_53 rfl (lv_at hl 1 rfl) ?_
      refine lv_if_ne (tgt := 61) hx hb dX0_readTests_54 (by decide) (fun c_4 => ?_) (fun c_4 => ?_)
      · have hF := ifn hF c_4
        refine lv_iconst (v := 0) hx hb dX0_readTests_61 (by decide) ?_
        cases hF
        exact hret _ _ _ _ dX0_readTests_62 nb0 hP hD hS
      · have hF := ifp hF c_4
        refine lv_iconst (v := 1) hx hb dX0_readTests_57 (by decide) ?_
        refine lv_goto (tgt := 62) hx hb dX0_readTests_58 (by decide) ?_
        cases hF
        exact hret _ _ _ _ dX0_readTests_62 nb1 hP hD hS
  have bL9 : ∀ (n : Nat) (x2 : Int32) (x3 : Int32) (S0 : Nat → Int32) (A1 : Nat → Nat → Int32), L_X0_readTests_9 A0 S1 J45 n x2 x3 S0 A1 = some z → ∀ (H : Heap) (locs : List Loc) (ls : Array Slot), va_P D vwCl (wX0 C a0 S0 A0 ++ wX1 C a1 S1 A1) H → va_D A (wX0 C a0 S0 A0 ++ wX1 C a1 S1 A1) → va_S A s.heap H locs → lv_has ls 4 [(0, .ref (a0 0)), (1, .ref (a1 0)), (2, .int x2), (3, .int x3)] → W p l e rmX0_readTests s m ([.ref (a0 0), .ref (a1 0)] : List Value).toArray below meth c H locs 0 0 Q (F0 m 9 ls []) := by
    intro n
    induction n with
    | zero => intro x2 x3 S0 A1 hF; rw [L_X0_readTests_9.eq_1] at hF; cases hF
    | succ n ih9 =>
      intro x2 x3 S0 A1 hF H locs ls hP hD hS hl
      rw [L_X0_readTests_9.eq_2] at hF
      refine lv_iload_n hx hb dX0_readTests_9 rfl (lv_at hl 2 rfl) ?_
      refine lv_if_eq (tgt := 45) hx hb dX0_readTests_10 (by decide) (fun c_5 => ?_) (fun c_5 => ?_)
      · have hF := ifp hF c_5
        exact bJ45 x2 S0 A1 hF _ _ _ hP hD hS (lv_sub hl [0, 2] rfl)
      · have hF := ifn hF c_5
        refine lv_iload_n hx hb dX0_readTests_13 rfl (lv_at hl 3 rfl) ?_
        refine lv_iconst (v := 3) hx hb dX0_readTests_14 (by decide) ?_
        refine lv_icmp_ge (tgt := 45) hx hb dX0_readTests_15 (by decide) (fun c_6 => ?_) (fun c_6 => ?_)
        · have hF := ifp hF c_6
          exact bJ45 x2 S0 A1 hF _ _ _ hP hD hS (lv_sub hl [0, 2] rfl)
        · have hF := ifn hF c_6
          refine lv_aload_n hx hb dX0_readTests_18 rfl (lv_at hl 0 rfl) ?_
          obtain ⟨z_7, fz_7, hF⟩ := bd_at hF
          refine callV_void ([]) (wX1 C a1 S1 A1) (w' := wX0 C a0 z_7 A0 ++ wX1 C a1 S1 A1) (As := []) (rest := []) ⟨hx, hb, hml, hown, hts⟩ hK hA hZ (c_X0_advance l K D C a0 S0 A0 z_7 fz_7) (cwV 0 hts gX0_readTests_X0_advance rfl rfl rfl (by decide +kernel) ⟨Nat.le_of_ble_eq_true rfl, Nat.le_of_ble_eq_true rfl⟩) 0 rfl rfl rfl rfl hl.1 rfl (Nat.le_of_ble_eq_true rfl) ⟨Nat.zero_le _, Nat.zero_le _⟩ (by simp only [List.append_assoc, List.append_nil, List.nil_append]) (by simp only [List.append_assoc, List.append_nil, List.nil_append]) hP hD hS dX0_readTests_19 (fun H locs hP hD hS => ?_)
          refine lv_aload_n hx hb dX0_readTests_22 rfl (lv_at hl 0 rfl) ?_
          refine lv_aload_n hx hb dX0_readTests_23 rfl (lv_at hl 1 rfl) ?_
          obtain ⟨z_8, fz_8, hF⟩ := bd_at hF
          refine callV_int ([]) ([]) (w' := wX0 C a0 z_8.2.1 A0 ++ wX1 C a1 S1 z_8.2.2) (As := [.ref (a1 0)]) (rest := []) ⟨hx, hb, hml, hown, hts⟩ hK hA hZ (c_X0_readTest l K D C a0 z_7 A0 a1 S1 A1 z_8 fz_8) (cwV 1 hts gX0_readTests_X0_readTest rfl rfl rfl (by decide +kernel) ⟨Nat.le_of_ble_eq_true rfl, Nat.le_of_ble_eq_true rfl⟩) 0 rfl rfl rfl rfl hl.1 rfl (Nat.le_of_ble_eq_true rfl) ⟨Nat.zero_le _, Nat.zero_le _⟩ (by simp only [List.append_assoc, List.append_nil, List.nil_append]) (by simp only [List.append_assoc, List.append_nil, List.nil_append]) hP hD hS dX0_readTests_24 (fun H locs hP hD hS => ?_)
          refine lv_if_ne (tgt := 32) hx hb dX0_readTests_27 (by decide) (fun c_9 => ?_) (fun c_9 => ?_)
          · have hF := ifn hF c_9
            refine lv_aload_n hx hb dX0_readTests_32 rfl (lv_at hl 0 rfl) ?_
            refine va_ldcS hx hb hown hZ.str7 dX0_readTests_33 ?_
            obtain ⟨z_10, fz_10, hF⟩ := bd_at hF
            refine callV_int ([]) (wX1 C a1 S1 z_8.2.2) (w' := wX0 C a0 z_8.2.1 A0 ++ wX1 C a1 S1 z_8.2.2) (As := [.ref (K.1 7)]) (rest := []) ⟨hx, hb, hml, hown, hts⟩ hK hA hZ (c_X0_isWord l K D C a0 z_8.2.1 A0 7 z_10 fz_10) (cwV 1 hts gX0_readTests_X0_isWord rfl rfl rfl (by decide +kernel) ⟨Nat.le_of_ble_eq_true rfl, Nat.le_of_ble_eq_true rfl⟩) 0 rfl rfl rfl rfl hl.1 rfl (Nat.le_of_ble_eq_true rfl) ⟨Nat.zero_le _, Nat.zero_le _⟩ (by simp only [List.append_assoc, List.append_nil, List.nil_append]) (by simp only [List.append_assoc, List.append_nil, List.nil_append]) hP hD hS dX0_readTests_35 (fun H locs hP hD hS => ?_)
            refine lv_istore_n (lv' := [(2, .int z_10), (0, .ref (a0 0)), (1, .ref (a1 0)), (3, .int x3)]) hx hb dX0_readTests_38 rfl hl (by decide) rfl (fun ls hl => ?_)
            obtain ⟨v_11, ev_11⟩ : ∃ y : Int32, y = x3 + 1 := ⟨_, rfl⟩
            have hF := nm_at hF ev_11
            refine lv_iinc (v := v_11) (lv' := [(3, .int v_11), (2, .int z_10), (0, .ref (a0 0)), (1, .ref (a1 0))]) hx hb dX0_readTests_39 hl (k := 3) rfl (by rw [ev_11]; rfl) (by decide) rfl (fun ls hl => ?_)
            refine lv_goto (tgt := 9) hx hb dX0_readTests_42 (by decide) ?_
            exact ih9 z_10 v_11 z_8.2.1 z_8.2.2 hF _ _ _ hP hD hS (lv_sub hl [2, 3, 1, 0] rfl)
          · have hF := ifp hF c_9
            refine lv_iconst (v := 0) hx hb dX0_readTests_30 (by decide) ?_
            cases hF
            exact hret _ _ _ _ dX0_readTests_31 nb0 hP hD hS
  refine lv_aload_n hx hb dX0_readTests_0 rfl (lv_at hl 0 rfl) ?_
  refine va_ldcS hx hb hown hZ.str3 dX0_readTests_1 ?_
  obtain ⟨z_12, fz_12, hF⟩ := bd_at hF
  refine callV_int ([]) (wX1 C a1 S1 A1) (w' := wX0 C a0 S0 A0 ++ wX1 C a1 S1 A1) (As := [.ref (K.1 3)]) (rest := []) ⟨hx, hb, hml, hown, hts⟩ hK hA hZ (c_X0_isWord l K D C a0 S0 A0 3 z_12 fz_12) (cwV 1 hts gX0_readTests_X0_isWord rfl rfl rfl (by decide +kernel) ⟨Nat.le_of_ble_eq_true rfl, Nat.le_of_ble_eq_true rfl⟩) 0 rfl rfl rfl rfl hl.1 rfl (Nat.le_of_ble_eq_true rfl) ⟨Nat.zero_le _, Nat.zero_le _⟩ (by simp only [List.append_assoc, List.append_nil, List.nil_append]) (by simp only [List.append_assoc, List.append_nil, List.nil_append]) hP hD hS dX0_readTests_3 (fun H locs hP hD hS => ?_)
  refine lv_istore_n (lv' := [(2, .int z_12), (0, .ref (a0 0)), (1, .ref (a1 0))]) hx hb dX0_readTests_6 rfl hl (by decide) rfl (fun ls hl => ?_)
  refine lv_iconst (v := 0) hx hb dX0_readTests_7 (by decide) ?_
  refine lv_istore_n (lv' := [(3, .int 0), (2, .int z_12), (0, .ref (a0 0)), (1, .ref (a1 0))]) hx hb dX0_readTests_8 rfl hl (by decide) rfl (fun ls hl => ?_)
  exact bL9 FU z_12 0 S0 A1 hF _ _ _ hP hD hS (lv_sub hl [2, 3, 1, 0] rfl)
abbrev rmX0_readStatement : Room := { frames := 9, cells := 0, slots := 0, locals := 238 }
set_option maxRecDepth 100000 in
set_option maxHeartbeats 4000000 in
theorem c_X0_readStatement (l : Launch) (K : Kx) (D : va_G) (C : Nat → ClassId) (a0 : Nat → Nat) (S0 : Nat → Int32) (A0 : Nat → Nat → Int32) (a1 : Nat → Nat) (S1 : Nat → Int32) (A1 : Nat → Nat → Int32) (z : Int32 × (Nat → Int32) × (Nat → Int32) × (Nat → Nat → Int32)) (hF : F_X0_readStatement S0 A0 S1 A1 = some z) : MetI l yX0_readStatement wsX0_readStatement rmX0_readStatement K D (tyV C) (wX0 C a0 S0 A0 ++ wX1 C a1 S1 A1) [.ref (a0 0), .ref (a1 0)] (wX0 C a0 z.2.1 A0 ++ wX1 C a1 z.2.2.1 z.2.2.2) z.1 := by
  refine met_int (cc := cX0_readStatement) (maxL := 5) (ty := .boolean) (by decide +kernel) rfl (Nat.le_of_ble_eq_true rfl) ?_
  intro p e s m below meth c A Q ls ⟨hx, hb, hml, hown, hts, hK, hA, hZ⟩ hP hD hS hl hret
  have hown : s.vm.findClass RX0 = some m.cls := hown
  have hl : lv_has ls 5 [(0, .ref (a0 0)), (1, .ref (a1 0))] := hl
  unfold F_X0_readStatement at hF
  obtain ⟨J108, eJ108, hF⟩ := nm_ex hF
  have bJ108 : ∀ (S0 : Nat → Int32) (S1 : Nat → Int32) (A1 : Nat → Nat → Int32), J108 S0 S1 A1 = some z → ∀ (H : Heap) (locs : List Loc) (ls : Array Slot), va_P D vwCl (wX0 C a0 S0 A0 ++ wX1 C a1 S1 A1) H → va_D A (wX0 C a0 S0 A0 ++ wX1 C a1 S1 A1) → va_S A s.heap H locs → lv_has ls 5 [(0, .ref (a0 0))] → W p l e rmX0_readStatement s m ([.ref (a0 0), .ref (a1 0)] : List Value).toArray below meth c H locs 0 0 Q (F0 m 108 ls []) := by
    intro S0 S1 A1 hF H locs ls hP hD hS hl
    rw [eJ108] at hF
    refine lv_aload_n hx hb dX0_readStatement_108 rfl (lv_at hl 0 rfl) ?_
    obtain ⟨z_1, fz_1, hF⟩ := bd_at hF
    refine callV_int ([]) (wX1 C a1 S1 A1) (w' := wX0 C a0 S0 A0 ++ wX1 C a1 S1 A1) (As := []) (rest := []) ⟨hx, hb, hml, hown, hts⟩ hK hA hZ (c_X0_signHere l K D C a0 S0 A0 z_1 fz_1) (cwV 0 hts gX0_readStatement_X0_signHere rfl rfl rfl (by decide +kernel) ⟨Nat.le_of_ble_eq_true rfl, Nat.le_of_ble_eq_true rfl⟩) 0 rfl rfl rfl rfl hl.1 rfl (Nat.le_of_ble_eq_true rfl) ⟨Nat.zero_le _, Nat.zero_le _⟩ (by simp only [List.append_assoc, List.append_nil, List.nil_append]) (by simp only [List.append_assoc, List.append_nil, List.nil_append]) hP hD hS dX0_readStatement_109 (fun H locs hP hD hS => ?_)
    refine lv_bipush (v := 59) hx hb dX0_readStatement_112 (by decide) ?_
    refine lv_icmp_eq (tgt := 119) hx hb dX0_readStatement_114 (by decide) (fun c_2 => ?_) (fun c_2 => ?_)
    · have hF := ifp hF c_2
      refine lv_aload_n hx hb dX0_readStatement_119 rfl (lv_at hl 0 rfl) ?_
      obtain ⟨z_3, fz_3, hF⟩ := bd_at hF
      refine callV_void ([]) (wX1 C a1 S1 A1) (w' := wX0 C a0 z_3 A0 ++ wX1 C a1 S1 A1) (As := []) (rest := []) ⟨hx, hb, hml, hown, hts⟩ hK hA hZ (c_X0_advance l K D C a0 S0 A0 z_3 fz_3) (cwV 0 hts gX0_readStatement_X0_advance rfl rfl rfl (by decide +kernel) ⟨Nat.le_of_ble_eq_true rfl, Nat.le_of_ble_eq_true rfl⟩) 0 rfl rfl rfl rfl hl.1 rfl (Nat.le_of_ble_eq_true rfl) ⟨Nat.zero_le _, Nat.zero_le _⟩ (by simp only [List.append_assoc, List.append_nil, List.nil_append]) (by simp only [List.append_assoc, List.append_nil, List.nil_append]) hP hD hS dX0_readStatement_120 (fun H locs hP hD hS => ?_)
      refine lv_iconst (v := 1) hx hb dX0_readStatement_123 (by decide) ?_
      cases hF
      exact hret _ _ _ _ dX0_readStatement_124 nb1 hP hD hS
    · have hF := ifn hF c_2
      refine lv_iconst (v := 0) hx hb dX0_readStatement_117 (by decide) ?_
      cases hF
      exact hret _ _ _ _ dX0_readStatement_118 nb0 hP hD hS
  obtain ⟨J49, eJ49, hF⟩ := nm_ex hF
  have bJ49 : ∀ (x2 : Int32) (x3 : Int32) (y0 : Int32) (S0 : Nat → Int32) (S1 : Nat → Int32) (A1 : Nat → Nat → Int32), J49 x2 x3 y0 S0 S1 A1 = some z → ∀ (H : Heap) (locs : List Loc) (ls : Array Slot), va_P D vwCl (wX0 C a0 S0 A0 ++ wX1 C a1 S1 A1) H → va_D A (wX0 C a0 S0 A0 ++ wX1 C a1 S1 A1) → va_S A s.heap H locs → lv_has ls 5 [(0, .ref (a0 0)), (1, .ref (a1 0)), (2, .int x2), (3, .int x3)] → W p l e rmX0_readStatement s m ([.ref (a0 0), .ref (a1 0)] : List Value).toArray below meth c H locs 0 0 Q (F0 m 49 ls [.int y0, .ref (a0 0)]) := by
    intro x2 x3 y0 S0 S1 A1 hF H locs ls hP hD hS hl
    rw [eJ49] at hF
    obtain ⟨z_4, fz_4, hF⟩ := bd_at hF
    refine callV_int ([]) (wX1 C a1 S1 A1) (w' := wX0 C a0 S0 A0 ++ wX1 C a1 S1 A1) (As := [.int y0]) (rest := []) ⟨hx, hb, hml, hown, hts⟩ hK hA hZ (c_X0_numberHere l K D C a0 S0 A0 y0 z_4 fz_4) (cwV 1 hts gX0_readStatement_X0_numberHere rfl rfl rfl (by decide +kernel) ⟨Nat.le_of_ble_eq_true rfl, Nat.le_of_ble_eq_true rfl⟩) 0 rfl rfl rfl rfl hl.1 rfl (Nat.le_of_ble_eq_true rfl) ⟨Nat.zero_le _, Nat.zero_le _⟩ (by simp only [List.append_assoc, List.append_nil, List.nil_append]) (by simp only [List.append_assoc, List.append_nil, List.nil_append]) hP hD hS dX0_readStatement_49 (fun H locs hP hD hS => ?_)
    refine lv_istore (lv' := [(4, .int z_4), (0, .ref (a0 0)), (1, .ref (a1 0)), (2, .int x2), (3, .int x3)]) hx hb dX0_readStatement_52 hl (by decide) rfl (fun ls hl => ?_)
    refine lv_iload hx hb dX0_readStatement_54 (lv_at hl 0 rfl) ?_
    refine lv_iconst (v := -1) hx hb dX0_readStatement_56 (by decide) ?_
    refine lv_icmp_ne (tgt := 62) hx hb dX0_readStatement_57 (by decide) (fun c_5 => ?_) (fun c_5 => ?_)
    · have hF := ifn hF c_5
      refine lv_aload_n hx hb dX0_readStatement_62 rfl (lv_at hl 1 rfl) ?_
      obtain ⟨z_6, fz_6, hF⟩ := bd_at hF
      refine callV_void ([]) (wX1 C a1 S1 A1) (w' := wX0 C a0 z_6 A0 ++ wX1 C a1 S1 A1) (As := []) (rest := []) ⟨hx, hb, hml, hown, hts⟩ hK hA hZ (c_X0_advance l K D C a0 S0 A0 z_6 fz_6) (cwV 0 hts gX0_readStatement_X0_advance rfl rfl rfl (by decide +kernel) ⟨Nat.le_of_ble_eq_true rfl, Nat.le_of_ble_eq_true rfl⟩) 0 rfl rfl rfl rfl hl.1 rfl (Nat.le_of_ble_eq_true rfl) ⟨Nat.zero_le _, Nat.zero_le _⟩ (by simp only [List.append_assoc, List.append_nil, List.nil_append]) (by simp only [List.append_assoc, List.append_nil, List.nil_append]) hP hD hS dX0_readStatement_63 (fun H locs hP hD hS => ?_)
      refine lv_iload_n hx hb dX0_readStatement_66 rfl (lv_at hl 3 rfl) ?_
      refine lv_if_eq (tgt := 79) hx hb dX0_readStatement_67 (by decide) (fun c_7 => ?_) (fun c_7 => ?_)
      · have hF := ifp hF c_7
        refine lv_iload_n hx hb dX0_readStatement_79 rfl (lv_at hl 4 rfl) ?_
        refine lv_if_ne (tgt := 92) hx hb dX0_readStatement_80 (by decide) (fun c_8 => ?_) (fun c_8 => ?_)
        · have hF := ifn hF c_8
          refine lv_aload_n hx hb dX0_readStatement_92 rfl (lv_at hl 2 rfl) ?_
          refine lv_iload hx hb dX0_readStatement_93 (lv_at hl 0 rfl) ?_
          obtain ⟨z_9, fz_9, hF⟩ := bd_at hF
          refine callV_void (wX0 C a0 z_6 A0) ([]) (w' := wX0 C a0 z_6 A0 ++ wX1 C a1 z_9.1 z_9.2) (As := [.int z_4]) (rest := []) ⟨hx, hb, hml, hown, hts⟩ hK hA hZ (c_X1_addPart l K D C a1 S1 A1 z_4 z_9 fz_9) (cwV 1 hts gX0_readStatement_X1_addPart rfl rfl rfl (by decide +kernel) ⟨Nat.le_of_ble_eq_true rfl, Nat.le_of_ble_eq_true rfl⟩) 0 rfl rfl rfl rfl hl.1 rfl (Nat.le_of_ble_eq_true rfl) ⟨Nat.zero_le _, Nat.zero_le _⟩ (by simp only [List.append_assoc, List.append_nil, List.nil_append]) (by simp only [List.append_assoc, List.append_nil, List.nil_append]) hP hD hS dX0_readStatement_95 (fun H locs hP hD hS => ?_)
          refine lv_aload_n hx hb dX0_readStatement_98 rfl (lv_at hl 1 rfl) ?_
          refine lv_aload_n hx hb dX0_readStatement_99 rfl (lv_at hl 2 rfl) ?_
          obtain ⟨z_10, fz_10, hF⟩ := bd_at hF
          refine callV_int ([]) ([]) (w' := wX0 C a0 z_10.2.1 A0 ++ wX1 C a1 z_9.1 z_10.2.2) (As := [.ref (a1 0)]) (rest := []) ⟨hx, hb, hml, hown, hts⟩ hK hA hZ (c_X0_readTests l K D C a0 z_6 A0 a1 z_9.1 z_9.2 z_10 fz_10) (cwV 1 hts gX0_readStatement_X0_readTests rfl rfl rfl (by decide +kernel) ⟨Nat.le_of_ble_eq_true rfl, Nat.le_of_ble_eq_true rfl⟩) 0 rfl rfl rfl rfl hl.1 rfl (Nat.le_of_ble_eq_true rfl) ⟨Nat.zero_le _, Nat.zero_le _⟩ (by simp only [List.append_assoc, List.append_nil, List.nil_append]) (by simp only [List.append_assoc, List.append_nil, List.nil_append]) hP hD hS dX0_readStatement_100 (fun H locs hP hD hS => ?_)
          refine lv_if_ne (tgt := 108) hx hb dX0_readStatement_103 (by decide) (fun c_11 => ?_) (fun c_11 => ?_)
          · have hF := ifn hF c_11
            exact bJ108 z_10.2.1 z_9.1 z_10.2.2 hF _ _ _ hP hD hS (lv_sub hl [1] rfl)
          · have hF := ifp hF c_11
            refine lv_iconst (v := 0) hx hb dX0_readStatement_106 (by decide) ?_
            cases hF
            exact hret _ _ _ _ dX0_readStatement_107 nb0 hP hD hS
        · have hF := ifp hF c_8
          refine lv_aload_n hx hb dX0_readStatement_83 rfl (lv_at hl 2 rfl) ?_
          refine lv_iload hx hb dX0_readStatement_84 (lv_at hl 0 rfl) ?_
          obtain ⟨z_12, fz_12, hF⟩ := bd_at hF
          refine callV_void (wX0 C a0 z_6 A0) ([]) (w' := wX0 C a0 z_6 A0 ++ wX1 C a1 z_12 A1) (As := [.int z_4]) (rest := []) ⟨hx, hb, hml, hown, hts⟩ hK hA hZ (c_X1_setRent l K D C a1 S1 A1 z_4 z_12 fz_12) (cwV 1 hts gX0_readStatement_X1_setRent rfl rfl rfl (by decide +kernel) ⟨Nat.le_of_ble_eq_true rfl, Nat.le_of_ble_eq_true rfl⟩) 0 rfl rfl rfl rfl hl.1 rfl (Nat.le_of_ble_eq_true rfl) ⟨Nat.zero_le _, Nat.zero_le _⟩ (by simp only [List.append_assoc, List.append_nil, List.nil_append]) (by simp only [List.append_assoc, List.append_nil, List.nil_append]) hP hD hS dX0_readStatement_86 (fun H locs hP hD hS => ?_)
          refine lv_goto (tgt := 108) hx hb dX0_readStatement_89 (by decide) ?_
          exact bJ108 z_6 z_12 A1 hF _ _ _ hP hD hS (lv_sub hl [1] rfl)
      · have hF := ifn hF c_7
        refine lv_aload_n hx hb dX0_readStatement_70 rfl (lv_at hl 2 rfl) ?_
        refine lv_iload hx hb dX0_readStatement_71 (lv_at hl 0 rfl) ?_
        obtain ⟨z_13, fz_13, hF⟩ := bd_at hF
        refine callV_void (wX0 C a0 z_6 A0) ([]) (w' := wX0 C a0 z_6 A0 ++ wX1 C a1 z_13 A1) (As := [.int z_4]) (rest := []) ⟨hx, hb, hml, hown, hts⟩ hK hA hZ (c_X1_setWeeks l K D C a1 S1 A1 z_4 z_13 fz_13) (cwV 1 hts gX0_readStatement_X1_setWeeks rfl rfl rfl (by decide +kernel) ⟨Nat.le_of_ble_eq_true rfl, Nat.le_of_ble_eq_true rfl⟩) 0 rfl rfl rfl rfl hl.1 rfl (Nat.le_of_ble_eq_true rfl) ⟨Nat.zero_le _, Nat.zero_le _⟩ (by simp only [List.append_assoc, List.append_nil, List.nil_append]) (by simp only [List.append_assoc, List.append_nil, List.nil_append]) hP hD hS dX0_readStatement_73 (fun H locs hP hD hS => ?_)
        refine lv_goto (tgt := 108) hx hb dX0_readStatement_76 (by decide) ?_
        exact bJ108 z_6 z_13 A1 hF _ _ _ hP hD hS (lv_sub hl [1] rfl)
    · have hF := ifp hF c_5
      refine lv_iconst (v := 0) hx hb dX0_readStatement_60 (by decide) ?_
      cases hF
      exact hret _ _ _ _ dX0_readStatement_61 nb0 hP hD hS
  obtain ⟨J33, eJ33, hF⟩ := nm_ex hF
  have bJ33 : ∀ (x2 : Int32) (x3 : Int32) (S0 : Nat → Int32) (S1 : Nat → Int32) (A1 : Nat → Nat → Int32), J33 x2 x3 S0 S1 A1 = some z → ∀ (H : Heap) (locs : List Loc) (ls : Array Slot), va_P D vwCl (wX0 C a0 S0 A0 ++ wX1 C a1 S1 A1) H → va_D A (wX0 C a0 S0 A0 ++ wX1 C a1 S1 A1) → va_S A s.heap H locs → lv_has ls 5 [(0, .ref (a0 0)), (1, .ref (a1 0)), (2, .int x2), (3, .int x3)] → W p l e rmX0_readStatement s m ([.ref (a0 0), .ref (a1 0)] : List Value).toArray below meth c H locs 0 0 Q (F0 m 33 ls []) := by
    intro x2 x3 S0 S1 A1 hF H locs ls hP hD hS hl
    rw [eJ33] at hF
    refine lv_aload_n hx hb dX0_readStatement_33 rfl (lv_at hl 0 rfl) ?_
    obtain ⟨z_14, fz_14, hF⟩ := bd_at hF
    refine callV_void ([]) (wX1 C a1 S1 A1) (w' := wX0 C a0 z_14 A0 ++ wX1 C a1 S1 A1) (As := []) (rest := []) ⟨hx, hb, hml, hown, hts⟩ hK hA hZ (c_X0_advance l K D C a0 S0 A0 z_14 fz_14) (cwV 0 hts gX0_readStatement_X0_advance rfl rfl rfl (by decide +kernel) ⟨Nat.le_of_ble_eq_true rfl, Nat.le_of_ble_eq_true rfl⟩) 0 rfl rfl rfl rfl hl.1 rfl (Nat.le_of_ble_eq_true rfl) ⟨Nat.zero_le _, Nat.zero_le _⟩ (by simp only [List.append_assoc, List.append_nil, List.nil_append]) (by simp only [List.append_assoc, List.append_nil, List.nil_append]) hP hD hS dX0_readStatement_34 (fun H locs hP hD hS => ?_)
    refine lv_aload_n hx hb dX0_readStatement_37 rfl (lv_at hl 0 rfl) ?_
    refine lv_iload_n hx hb dX0_readStatement_38 rfl (lv_at hl 3 rfl) ?_
    refine lv_if_eq (tgt := 47) hx hb dX0_readStatement_39 (by decide) (fun c_15 => ?_) (fun c_15 => ?_)
    · have hF := ifp hF c_15
      refine lv_ldc (v := 99999) hx hb hown (hts (.constant RX0 63 99999) (by decide +kernel)) dX0_readStatement_47 ?_
      exact bJ49 x2 x3 99999 z_14 S1 A1 hF _ _ _ hP hD hS (lv_sub hl [0, 1, 2, 3] rfl)
    · have hF := ifn hF c_15
      refine lv_bipush (v := 100) hx hb dX0_readStatement_42 (by decide) ?_
      refine lv_goto (tgt := 49) hx hb dX0_readStatement_44 (by decide) ?_
      exact bJ49 x2 x3 100 z_14 S1 A1 hF _ _ _ hP hD hS (lv_sub hl [0, 1, 2, 3] rfl)
  refine lv_aload_n hx hb dX0_readStatement_0 rfl (lv_at hl 0 rfl) ?_
  refine va_ldcS hx hb hown hZ.str0 dX0_readStatement_1 ?_
  obtain ⟨z_16, fz_16, hF⟩ := bd_at hF
  refine callV_int ([]) (wX1 C a1 S1 A1) (w' := wX0 C a0 S0 A0 ++ wX1 C a1 S1 A1) (As := [.ref (K.1 0)]) (rest := []) ⟨hx, hb, hml, hown, hts⟩ hK hA hZ (c_X0_isWord l K D C a0 S0 A0 0 z_16 fz_16) (cwV 1 hts gX0_readStatement_X0_isWord rfl rfl rfl (by decide +kernel) ⟨Nat.le_of_ble_eq_true rfl, Nat.le_of_ble_eq_true rfl⟩) 0 rfl rfl rfl rfl hl.1 rfl (Nat.le_of_ble_eq_true rfl) ⟨Nat.zero_le _, Nat.zero_le _⟩ (by simp only [List.append_assoc, List.append_nil, List.nil_append]) (by simp only [List.append_assoc, List.append_nil, List.nil_append]) hP hD hS dX0_readStatement_3 (fun H locs hP hD hS => ?_)
  refine lv_istore_n (lv' := [(2, .int z_16), (0, .ref (a0 0)), (1, .ref (a1 0))]) hx hb dX0_readStatement_6 rfl hl (by decide) rfl (fun ls hl => ?_)
  refine lv_aload_n hx hb dX0_readStatement_7 rfl (lv_at hl 1 rfl) ?_
  refine va_ldcS hx hb hown hZ.str1 dX0_readStatement_8 ?_
  obtain ⟨z_17, fz_17, hF⟩ := bd_at hF
  refine callV_int ([]) (wX1 C a1 S1 A1) (w' := wX0 C a0 S0 A0 ++ wX1 C a1 S1 A1) (As := [.ref (K.1 1)]) (rest := []) ⟨hx, hb, hml, hown, hts⟩ hK hA hZ (c_X0_isWord l K D C a0 S0 A0 1 z_17 fz_17) (cwV 1 hts gX0_readStatement_X0_isWord rfl rfl rfl (by decide +kernel) ⟨Nat.le_of_ble_eq_true rfl, Nat.le_of_ble_eq_true rfl⟩) 0 rfl rfl rfl rfl hl.1 rfl (Nat.le_of_ble_eq_true rfl) ⟨Nat.zero_le _, Nat.zero_le _⟩ (by simp only [List.append_assoc, List.append_nil, List.nil_append]) (by simp only [List.append_assoc, List.append_nil, List.nil_append]) hP hD hS dX0_readStatement_10 (fun H locs hP hD hS => ?_)
  refine lv_istore_n (lv' := [(3, .int z_17), (2, .int z_16), (0, .ref (a0 0)), (1, .ref (a1 0))]) hx hb dX0_readStatement_13 rfl hl (by decide) rfl (fun ls hl => ?_)
  refine lv_iload_n hx hb dX0_readStatement_14 rfl (lv_at hl 1 rfl) ?_
  refine lv_if_ne (tgt := 33) hx hb dX0_readStatement_15 (by decide) (fun c_18 => ?_) (fun c_18 => ?_)
  · have hF := ifn hF c_18
    exact bJ33 z_16 z_17 S0 S1 A1 hF _ _ _ hP hD hS (lv_sub hl [2, 3, 1, 0] rfl)
  · have hF := ifp hF c_18
    refine lv_iload_n hx hb dX0_readStatement_18 rfl (lv_at hl 0 rfl) ?_
    refine lv_if_ne (tgt := 33) hx hb dX0_readStatement_19 (by decide) (fun c_19 => ?_) (fun c_19 => ?_)
    · have hF := ifn hF c_19
      exact bJ33 z_16 z_17 S0 S1 A1 hF _ _ _ hP hD hS (lv_sub hl [2, 3, 1, 0] rfl)
    · have hF := ifp hF c_19
      refine lv_aload_n hx hb dX0_readStatement_22 rfl (lv_at hl 2 rfl) ?_
      refine va_ldcS hx hb hown hZ.str2 dX0_readStatement_23 ?_
      obtain ⟨z_20, fz_20, hF⟩ := bd_at hF
      refine callV_int ([]) (wX1 C a1 S1 A1) (w' := wX0 C a0 S0 A0 ++ wX1 C a1 S1 A1) (As := [.ref (K.1 2)]) (rest := []) ⟨hx, hb, hml, hown, hts⟩ hK hA hZ (c_X0_isWord l K D C a0 S0 A0 2 z_20 fz_20) (cwV 1 hts gX0_readStatement_X0_isWord rfl rfl rfl (by decide +kernel) ⟨Nat.le_of_ble_eq_true rfl, Nat.le_of_ble_eq_true rfl⟩) 0 rfl rfl rfl rfl hl.1 rfl (Nat.le_of_ble_eq_true rfl) ⟨Nat.zero_le _, Nat.zero_le _⟩ (by simp only [List.append_assoc, List.append_nil, List.nil_append]) (by simp only [List.append_assoc, List.append_nil, List.nil_append]) hP hD hS dX0_readStatement_25 (fun H locs hP hD hS => ?_)
      refine lv_if_ne (tgt := 33) hx hb dX0_readStatement_28 (by decide) (fun c_21 => ?_) (fun c_21 => ?_)
      · have hF := ifn hF c_21
        exact bJ33 z_16 z_17 S0 S1 A1 hF _ _ _ hP hD hS (lv_sub hl [2, 3, 1, 0] rfl)
      · have hF := ifp hF c_21
        refine lv_iconst (v := 0) hx hb dX0_readStatement_31 (by decide) ?_
        cases hF
        exact hret _ _ _ _ dX0_readStatement_32 nb0 hP hD hS
abbrev rmX0_readContract : Room := { frames := 10, cells := 0, slots := 0, locals := 262 }
set_option maxRecDepth 100000 in
set_option maxHeartbeats 4000000 in
theorem c_X0_readContract (l : Launch) (K : Kx) (D : va_G) (C : Nat → ClassId) (a0 : Nat → Nat) (S0 : Nat → Int32) (A0 : Nat → Nat → Int32) (a1 : Nat → Nat) (S1 : Nat → Int32) (A1 : Nat → Nat → Int32) (p1 : Int32) (z : Int32 × (Nat → Int32) × (Nat → Int32) × (Nat → Nat → Int32)) (hF : F_X0_readContract S0 A0 S1 A1 p1 = some z) : MetI l yX0_readContract wsX0_readContract rmX0_readContract K D (tyV C) (wX0 C a0 S0 A0 ++ wX1 C a1 S1 A1) [.ref (a0 0), .int p1, .ref (a1 0)] (wX0 C a0 z.2.1 A0 ++ wX1 C a1 z.2.2.1 z.2.2.2) z.1 := by
  refine met_int (cc := cX0_readContract) (maxL := 4) (ty := .int) (by decide +kernel) rfl (Nat.le_of_ble_eq_true rfl) ?_
  intro p e s m below meth c A Q ls ⟨hx, hb, hml, hown, hts, hK, hA, hZ⟩ hP hD hS hl hret
  have hown : s.vm.findClass RX0 = some m.cls := hown
  have hiX0 : ∀ w ∈ u_ws RX0 TX0 6, w ∈ wsX0_readContract := by decide +kernel
  have hl : lv_has ls 4 [(0, .ref (a0 0)), (1, .int p1), (2, .ref (a1 0))] := hl
  unfold F_X0_readContract at hF
  obtain ⟨J64, eJ64, hF⟩ := nm_ex hF
  have bJ64 : ∀ (S0 : Nat → Int32) (S1 : Nat → Int32) (A1 : Nat → Nat → Int32), J64 S0 S1 A1 = some z → ∀ (H : Heap) (locs : List Loc) (ls : Array Slot), va_P D vwCl (wX0 C a0 S0 A0 ++ wX1 C a1 S1 A1) H → va_D A (wX0 C a0 S0 A0 ++ wX1 C a1 S1 A1) → va_S A s.heap H locs → lv_has ls 4 [(0, .ref (a0 0))] → W p l e rmX0_readContract s m ([.ref (a0 0), .int p1, .ref (a1 0)] : List Value).toArray below meth c H locs 0 0 Q (F0 m 64 ls []) := by
    intro S0 S1 A1 hF H locs ls hP hD hS hl
    rw [eJ64] at hF
    refine lv_aload_n hx hb dX0_readContract_64 rfl (lv_at hl 0 rfl) ?_
    refine va_get (D := D) (ci := 0) (v := .int (S0 3)) (C := RX0) (T := TX0) (N := 6) hx hb hts hiX0 hown hK hP 0 rfl rfl 3 (by decide) (hts (.fieldLink RX0 43 "PanoramaHouse$ContractReader" "kind" "I") (by decide +kernel)) (fun _ h9 => h9) rfl dX0_readContract_65 ?_
    refine lv_if_ne (tgt := 75) hx hb dX0_readContract_68 (by decide) (fun c_1 => ?_) (fun c_1 => ?_)
    · have hF := ifn hF c_1
      refine lv_aload_n hx hb dX0_readContract_75 rfl (lv_at hl 0 rfl) ?_
      refine va_get (D := D) (ci := 0) (v := .int (S0 4)) (C := RX0) (T := TX0) (N := 6) hx hb hts hiX0 hown hK hP 0 rfl rfl 4 (by decide) (hts (.fieldLink RX0 50 "PanoramaHouse$ContractReader" "start" "I") (by decide +kernel)) (fun _ h9 => h9) rfl dX0_readContract_76 ?_
      cases hF
      exact hret _ _ _ _ dX0_readContract_79 rfl hP hD hS
    · have hF := ifp hF c_1
      refine lv_iconst (v := -1) hx hb dX0_readContract_71 (by decide) ?_
      refine lv_goto (tgt := 79) hx hb dX0_readContract_72 (by decide) ?_
      cases hF
      exact hret _ _ _ _ dX0_readContract_79 rfl hP hD hS
  have bL32 : ∀ (n : Nat) (x3 : Int32) (S0 : Nat → Int32) (S1 : Nat → Int32) (A1 : Nat → Nat → Int32), L_X0_readContract_32 A0 J64 n x3 S0 S1 A1 = some z → ∀ (H : Heap) (locs : List Loc) (ls : Array Slot), va_P D vwCl (wX0 C a0 S0 A0 ++ wX1 C a1 S1 A1) H → va_D A (wX0 C a0 S0 A0 ++ wX1 C a1 S1 A1) → va_S A s.heap H locs → lv_has ls 4 [(0, .ref (a0 0)), (2, .ref (a1 0)), (3, .int x3)] → W p l e rmX0_readContract s m ([.ref (a0 0), .int p1, .ref (a1 0)] : List Value).toArray below meth c H locs 0 0 Q (F0 m 32 ls []) := by
    intro n
    induction n with
    | zero => intro x3 S0 S1 A1 hF; rw [L_X0_readContract_32.eq_1] at hF; cases hF
    | succ n ih32 =>
      intro x3 S0 S1 A1 hF H locs ls hP hD hS hl
      rw [L_X0_readContract_32.eq_2] at hF
      refine lv_iload_n hx hb dX0_readContract_32 rfl (lv_at hl 2 rfl) ?_
      refine lv_bipush (v := 12) hx hb dX0_readContract_33 (by decide) ?_
      refine lv_icmp_ge (tgt := 64) hx hb dX0_readContract_35 (by decide) (fun c_2 => ?_) (fun c_2 => ?_)
      · have hF := ifp hF c_2
        exact bJ64 S0 S1 A1 hF _ _ _ hP hD hS (lv_sub hl [0] rfl)
      · have hF := ifn hF c_2
        refine lv_aload_n hx hb dX0_readContract_38 rfl (lv_at hl 0 rfl) ?_
        refine va_get (D := D) (ci := 0) (v := .int (S0 3)) (C := RX0) (T := TX0) (N := 6) hx hb hts hiX0 hown hK hP 0 rfl rfl 3 (by decide) (hts (.fieldLink RX0 43 "PanoramaHouse$ContractReader" "kind" "I") (by decide +kernel)) (fun _ h9 => h9) rfl dX0_readContract_39 ?_
        refine lv_if_eq (tgt := 64) hx hb dX0_readContract_42 (by decide) (fun c_3 => ?_) (fun c_3 => ?_)
        · have hF := ifp hF c_3
          exact bJ64 S0 S1 A1 hF _ _ _ hP hD hS (lv_sub hl [0] rfl)
        · have hF := ifn hF c_3
          refine lv_aload_n hx hb dX0_readContract_45 rfl (lv_at hl 0 rfl) ?_
          refine lv_aload_n hx hb dX0_readContract_46 rfl (lv_at hl 1 rfl) ?_
          obtain ⟨z_4, fz_4, hF⟩ := bd_at hF
          refine callV_int ([]) ([]) (w' := wX0 C a0 z_4.2.1 A0 ++ wX1 C a1 z_4.2.2.1 z_4.2.2.2) (As := [.ref (a1 0)]) (rest := []) ⟨hx, hb, hml, hown, hts⟩ hK hA hZ (c_X0_readStatement l K D C a0 S0 A0 a1 S1 A1 z_4 fz_4) (cwV 1 hts gX0_readContract_X0_readStatement rfl rfl rfl (by decide +kernel) ⟨Nat.le_of_ble_eq_true rfl, Nat.le_of_ble_eq_true rfl⟩) 0 rfl rfl rfl rfl hl.1 rfl (Nat.le_of_ble_eq_true rfl) ⟨Nat.zero_le _, Nat.zero_le _⟩ (by simp only [List.append_assoc, List.append_nil, List.nil_append]) (by simp only [List.append_assoc, List.append_nil, List.nil_append]) hP hD hS dX0_readContract_47 (fun H locs hP hD hS => ?_)
          refine lv_if_ne (tgt := 58) hx hb dX0_readContract_50 (by decide) (fun c_5 => ?_) (fun c_5 => ?_)
          · have hF := ifn hF c_5
            obtain ⟨v_6, ev_6⟩ : ∃ y : Int32, y = x3 + 1 := ⟨_, rfl⟩
            have hF := nm_at hF ev_6
            refine lv_iinc (v := v_6) (lv' := [(3, .int v_6), (0, .ref (a0 0)), (2, .ref (a1 0))]) hx hb dX0_readContract_58 hl (k := 2) rfl (by rw [ev_6]; rfl) (by decide) rfl (fun ls hl => ?_)
            refine lv_goto (tgt := 32) hx hb dX0_readContract_61 (by decide) ?_
            exact ih32 v_6 z_4.2.1 z_4.2.2.1 z_4.2.2.2 hF _ _ _ hP hD hS (lv_sub hl [1, 2, 0] rfl)
          · have hF := ifp hF c_5
            refine lv_aload_n hx hb dX0_readContract_53 rfl (lv_at hl 0 rfl) ?_
            refine va_get (D := D) (ci := 0) (v := .int (z_4.2.1 4)) (C := RX0) (T := TX0) (N := 6) hx hb hts hiX0 hown hK hP 0 rfl rfl 4 (by decide) (hts (.fieldLink RX0 50 "PanoramaHouse$ContractReader" "start" "I") (by decide +kernel)) (fun _ h9 => h9) rfl dX0_readContract_54 ?_
            cases hF
            exact hret _ _ _ _ dX0_readContract_57 rfl hP hD hS
  refine lv_aload_n hx hb dX0_readContract_0 rfl (lv_at hl 2 rfl) ?_
  obtain ⟨z_7, fz_7, hF⟩ := bd_at hF
  refine callV_void (wX0 C a0 S0 A0) ([]) (w' := wX0 C a0 S0 A0 ++ wX1 C a1 z_7 A1) (As := []) (rest := []) ⟨hx, hb, hml, hown, hts⟩ hK hA hZ (c_X1_clearContract l K D C a1 S1 A1 z_7 fz_7) (cwV 0 hts gX0_readContract_X1_clearContract rfl rfl rfl (by decide +kernel) ⟨Nat.le_of_ble_eq_true rfl, Nat.le_of_ble_eq_true rfl⟩) 0 rfl rfl rfl rfl hl.1 rfl (Nat.le_of_ble_eq_true rfl) ⟨Nat.zero_le _, Nat.zero_le _⟩ (by simp only [List.append_assoc, List.append_nil, List.nil_append]) (by simp only [List.append_assoc, List.append_nil, List.nil_append]) hP hD hS dX0_readContract_1 (fun H locs hP hD hS => ?_)
  refine lv_aload_n hx hb dX0_readContract_4 rfl (lv_at hl 0 rfl) ?_
  refine lv_iload_n hx hb dX0_readContract_5 rfl (lv_at hl 1 rfl) ?_
  refine lv_aload_n hx hb dX0_readContract_6 rfl (lv_at hl 0 rfl) ?_
  refine va_get (D := D) (ci := 0) (v := .int (S0 1)) (C := RX0) (T := TX0) (N := 6) hx hb hts hiX0 hown hK hP 0 rfl rfl 1 (by decide) (hts (.fieldLink RX0 15 "PanoramaHouse$ContractReader" "bytesOnTape" "I") (by decide +kernel)) (fun _ h9 => h9) rfl dX0_readContract_7 ?_
  refine va_mmin hx hb (hml.trans hl.1.symm) hown (hts (.methodLink RX0 28 Lib.Math.min.name) (by decide +kernel)) (hts (.static Lib.Math.min.name) (by decide +kernel)) (hts (.initialized "java/lang/Math") (by decide +kernel)) (hts (.code Lib.Math.min.name Lib.Math.min.code 2 (some .int)) (by decide +kernel)) (Nat.le_of_ble_eq_true rfl) (Nat.le_of_ble_eq_true rfl) (Nat.zero_le _) (Nat.zero_le _) dX0_readContract_10 ?_
  refine lv_topi (fun v_8 ev_8 => ?_)
  have hF := nm_at hF ev_8
  refine va_put (D := D) (ci := 0) (v := .int v_8) (ty := .int) (C := RX0) (T := TX0) (N := 6) hx hb hts hiX0 tyX0 tyX0_ok nmX0 hown hK hP hD hS 0 rfl rfl 2 (by decide) (hts (.fieldLink RX0 34 "PanoramaHouse$ContractReader" "length" "I") (by decide +kernel)) (fun _ h9 => h9) rfl (by decide +kernel) rfl rfl (Nat.le_of_ble_eq_true rfl) dX0_readContract_13 (fun H locs hP hD hS => ?_)
  obtain ⟨S0_9, eS0_9, hF⟩ := nm_ex hF
  have hP : va_P D vwCl (wX0 C a0 S0_9 A0 ++ wX1 C a1 z_7 A1) H := by rw [eS0_9]; exact hP
  have hD : va_D A (wX0 C a0 S0_9 A0 ++ wX1 C a1 z_7 A1) := by rw [eS0_9]; exact hD
  refine lv_aload_n hx hb dX0_readContract_16 rfl (lv_at hl 0 rfl) ?_
  refine lv_iconst (v := 0) hx hb dX0_readContract_17 (by decide) ?_
  refine va_put (D := D) (ci := 0) (v := .int 0) (ty := .int) (C := RX0) (T := TX0) (N := 6) hx hb hts hiX0 tyX0 tyX0_ok nmX0 hown hK hP hD hS 0 rfl rfl 1 (by decide) (hts (.fieldLink RX0 15 "PanoramaHouse$ContractReader" "bytesOnTape" "I") (by decide +kernel)) (fun _ h9 => h9) rfl (by decide +kernel) rfl rfl (Nat.le_of_ble_eq_true rfl) dX0_readContract_18 (fun H locs hP hD hS => ?_)
  obtain ⟨S0_10, eS0_10, hF⟩ := nm_ex hF
  have hP : va_P D vwCl (wX0 C a0 S0_10 A0 ++ wX1 C a1 z_7 A1) H := by rw [eS0_10]; exact hP
  have hD : va_D A (wX0 C a0 S0_10 A0 ++ wX1 C a1 z_7 A1) := by rw [eS0_10]; exact hD
  refine lv_aload_n hx hb dX0_readContract_21 rfl (lv_at hl 0 rfl) ?_
  refine lv_iconst (v := 0) hx hb dX0_readContract_22 (by decide) ?_
  refine va_put (D := D) (ci := 0) (v := .int 0) (ty := .int) (C := RX0) (T := TX0) (N := 6) hx hb hts hiX0 tyX0 tyX0_ok nmX0 hown hK hP hD hS 0 rfl rfl 5 (by decide) (hts (.fieldLink RX0 37 "PanoramaHouse$ContractReader" "end" "I") (by decide +kernel)) (fun _ h9 => h9) rfl (by decide +kernel) rfl rfl (Nat.le_of_ble_eq_true rfl) dX0_readContract_23 (fun H locs hP hD hS => ?_)
  obtain ⟨S0_11, eS0_11, hF⟩ := nm_ex hF
  have hP : va_P D vwCl (wX0 C a0 S0_11 A0 ++ wX1 C a1 z_7 A1) H := by rw [eS0_11]; exact hP
  have hD : va_D A (wX0 C a0 S0_11 A0 ++ wX1 C a1 z_7 A1) := by rw [eS0_11]; exact hD
  refine lv_aload_n hx hb dX0_readContract_26 rfl (lv_at hl 0 rfl) ?_
  obtain ⟨z_12, fz_12, hF⟩ := bd_at hF
  refine callV_void ([]) (wX1 C a1 z_7 A1) (w' := wX0 C a0 z_12 A0 ++ wX1 C a1 z_7 A1) (As := []) (rest := []) ⟨hx, hb, hml, hown, hts⟩ hK hA hZ (c_X0_advance l K D C a0 S0_11 A0 z_12 fz_12) (cwV 0 hts gX0_readContract_X0_advance rfl rfl rfl (by decide +kernel) ⟨Nat.le_of_ble_eq_true rfl, Nat.le_of_ble_eq_true rfl⟩) 0 rfl rfl rfl rfl hl.1 rfl (Nat.le_of_ble_eq_true rfl) ⟨Nat.zero_le _, Nat.zero_le _⟩ (by simp only [List.append_assoc, List.append_nil, List.nil_append]) (by simp only [List.append_assoc, List.append_nil, List.nil_append]) hP hD hS dX0_readContract_27 (fun H locs hP hD hS => ?_)
  refine lv_iconst (v := 0) hx hb dX0_readContract_30 (by decide) ?_
  refine lv_istore_n (lv' := [(3, .int 0), (0, .ref (a0 0)), (1, .int p1), (2, .ref (a1 0))]) hx hb dX0_readContract_31 rfl hl (by decide) rfl (fun ls hl => ?_)
  exact bL32 FU 0 z_12 z_7 A1 hF _ _ _ hP hD hS (lv_sub hl [1, 3, 0] rfl)
