abbrev rmX2_today : Room := { frames := 1, cells := 0, slots := 0, locals := 32 }
set_option maxRecDepth 100000 in
set_option maxHeartbeats 4000000 in
theorem c_X2_today (l : Launch) (K : Kx) (D : va_G) (C : Nat → ClassId) (a2 : Nat → Nat) (S2 : Nat → Int32) (A2 : Nat → Nat → Int32) (a4 : Nat → Nat) (z : Int32) (hF : F_X2_today S2 = some z) : MetI l yX2_today wsX2_today rmX2_today K D (tyV C) (wX2 C a2 a4 S2 A2) [.ref (a2 0)] (wX2 C a2 a4 S2 A2) z := by
  refine met_int (cc := cX2_today) (maxL := 1) (ty := .int) (by decide +kernel) rfl (Nat.le_of_ble_eq_true rfl) ?_
  intro p e s m below meth c A Q ls ⟨hx, hb, hml, hown, hts, hK, hA, hZ⟩ hP hD hS hl hret
  have hown : s.vm.findClass RX2 = some m.cls := hown
  have hiX2 : ∀ w ∈ u_ws RX2 TX2 12, w ∈ wsX2_today := by decide +kernel
  have hl : lv_has ls 1 [(0, .ref (a2 0))] := hl
  unfold F_X2_today at hF
  refine lv_aload_n hx hb dX2_today_0 rfl (lv_at hl 0 rfl) ?_
  refine va_get (D := D) (ci := 2) (v := .int (S2 11)) (C := RX2) (T := TX2) (N := 12) hx hb hts hiX2 hown hK hP 0 rfl rfl 11 (by decide) (hts (.fieldLink RX2 43 "PanoramaHouse$Paintwork" "daysGone" "I") (by decide +kernel)) (fun _ h9 => h9) rfl dX2_today_1 ?_
  cases hF
  exact hret _ _ _ _ dX2_today_4 rfl hP hD hS
abbrev rmX2_gangs : Room := { frames := 1, cells := 0, slots := 0, locals := 32 }
set_option maxRecDepth 100000 in
set_option maxHeartbeats 4000000 in
theorem c_X2_gangs (l : Launch) (K : Kx) (D : va_G) (C : Nat → ClassId) (a2 : Nat → Nat) (S2 : Nat → Int32) (A2 : Nat → Nat → Int32) (a4 : Nat → Nat) (z : Int32) (hF : F_X2_gangs S2 = some z) : MetI l yX2_gangs wsX2_gangs rmX2_gangs K D (tyV C) (wX2 C a2 a4 S2 A2) [.ref (a2 0)] (wX2 C a2 a4 S2 A2) z := by
  refine met_int (cc := cX2_gangs) (maxL := 1) (ty := .int) (by decide +kernel) rfl (Nat.le_of_ble_eq_true rfl) ?_
  intro p e s m below meth c A Q ls ⟨hx, hb, hml, hown, hts, hK, hA, hZ⟩ hP hD hS hl hret
  have hown : s.vm.findClass RX2 = some m.cls := hown
  have hiX2 : ∀ w ∈ u_ws RX2 TX2 12, w ∈ wsX2_gangs := by decide +kernel
  have hl : lv_has ls 1 [(0, .ref (a2 0))] := hl
  unfold F_X2_gangs at hF
  refine lv_aload_n hx hb dX2_gangs_0 rfl (lv_at hl 0 rfl) ?_
  refine va_get (D := D) (ci := 2) (v := .int (S2 10)) (C := RX2) (T := TX2) (N := 12) hx hb hts hiX2 hown hK hP 0 rfl rfl 10 (by decide) (hts (.fieldLink RX2 47 "PanoramaHouse$Paintwork" "gangsHired" "I") (by decide +kernel)) (fun _ h9 => h9) rfl dX2_gangs_1 ?_
  cases hF
  exact hret _ _ _ _ dX2_gangs_4 rfl hP hD hS
abbrev rmX2_finishedSquares : Room := { frames := 1, cells := 0, slots := 0, locals := 32 }
set_option maxRecDepth 100000 in
set_option maxHeartbeats 4000000 in
theorem c_X2_finishedSquares (l : Launch) (K : Kx) (D : va_G) (C : Nat → ClassId) (a2 : Nat → Nat) (S2 : Nat → Int32) (A2 : Nat → Nat → Int32) (a4 : Nat → Nat) (z : Int32) (hF : F_X2_finishedSquares A2 = some z) : MetI l yX2_finishedSquares wsX2_finishedSquares rmX2_finishedSquares K D (tyV C) (wX2 C a2 a4 S2 A2) [.ref (a2 0)] (wX2 C a2 a4 S2 A2) z := by
  refine met_int (cc := cX2_finishedSquares) (maxL := 3) (ty := .int) (by decide +kernel) rfl (Nat.le_of_ble_eq_true rfl) ?_
  intro p e s m below meth c A Q ls ⟨hx, hb, hml, hown, hts, hK, hA, hZ⟩ hP hD hS hl hret
  have hown : s.vm.findClass RX2 = some m.cls := hown
  have hiX2 : ∀ w ∈ u_ws RX2 TX2 12, w ∈ wsX2_finishedSquares := by decide +kernel
  have hl : lv_has ls 3 [(0, .ref (a2 0))] := hl
  unfold F_X2_finishedSquares at hF
  obtain ⟨J34, eJ34, hF⟩ := nm_ex hF
  have bJ34 : ∀ (x1 : Int32), J34 x1 = some z → ∀ (H : Heap) (locs : List Loc) (ls : Array Slot), va_P D vwCl (wX2 C a2 a4 S2 A2) H → va_D A (wX2 C a2 a4 S2 A2) → va_S A s.heap H locs → lv_has ls 3 [(1, .int x1)] → W p l e rmX2_finishedSquares s m ([.ref (a2 0)] : List Value).toArray below meth c H locs 0 0 Q (F0 m 34 ls []) := by
    intro x1 hF H locs ls hP hD hS hl
    rw [eJ34] at hF
    refine lv_iload_n hx hb dX2_finishedSquares_34 rfl (lv_at hl 0 rfl) ?_
    cases hF
    exact hret _ _ _ _ dX2_finishedSquares_35 rfl hP hD hS
  have bL4 : ∀ (n : Nat) (x1 : Int32) (x2 : Int32), L_X2_finishedSquares_4 A2 J34 n x1 x2 = some z → ∀ (H : Heap) (locs : List Loc) (ls : Array Slot), va_P D vwCl (wX2 C a2 a4 S2 A2) H → va_D A (wX2 C a2 a4 S2 A2) → va_S A s.heap H locs → lv_has ls 3 [(0, .ref (a2 0)), (1, .int x1), (2, .int x2)] → W p l e rmX2_finishedSquares s m ([.ref (a2 0)] : List Value).toArray below meth c H locs 0 0 Q (F0 m 4 ls []) := by
    intro n
    induction n with
    | zero => intro x1 x2 hF; rw [L_X2_finishedSquares_4.eq_1] at hF; cases hF
    | succ n ih4 =>
      intro x1 x2 hF H locs ls hP hD hS hl
      rw [L_X2_finishedSquares_4.eq_2] at hF
      obtain ⟨J26, eJ26, hF⟩ := nm_ex hF
      have bJ26 : ∀ (x2 : Int32) (y0 : Int32) (y1 : Int32), J26 x2 y0 y1 = some z → ∀ (H : Heap) (locs : List Loc) (ls : Array Slot), va_P D vwCl (wX2 C a2 a4 S2 A2) H → va_D A (wX2 C a2 a4 S2 A2) → va_S A s.heap H locs → lv_has ls 3 [(0, .ref (a2 0)), (2, .int x2)] → W p l e rmX2_finishedSquares s m ([.ref (a2 0)] : List Value).toArray below meth c H locs 0 0 Q (F0 m 26 ls [.int y0, .int y1]) := by
        intro x2 y0 y1 hF H locs ls hP hD hS hl
        rw [eJ26] at hF
        refine lv_iadd hx hb dX2_finishedSquares_26 ?_
        refine lv_topi (fun v_1 ev_1 => ?_)
        have hF := nm_at hF ev_1
        refine lv_istore_n (lv' := [(1, .int v_1), (0, .ref (a2 0)), (2, .int x2)]) hx hb dX2_finishedSquares_27 rfl hl (by decide) rfl (fun ls hl => ?_)
        obtain ⟨v_2, ev_2⟩ : ∃ y : Int32, y = x2 + 1 := ⟨_, rfl⟩
        have hF := nm_at hF ev_2
        refine lv_iinc (v := v_2) (lv' := [(2, .int v_2), (1, .int v_1), (0, .ref (a2 0))]) hx hb dX2_finishedSquares_28 hl (k := 2) rfl (by rw [ev_2]; rfl) (by decide) rfl (fun ls hl => ?_)
        refine lv_goto (tgt := 4) hx hb dX2_finishedSquares_31 (by decide) ?_
        exact ih4 v_1 v_2 hF _ _ _ hP hD hS (lv_sub hl [2, 1, 0] rfl)
      refine lv_iload_n hx hb dX2_finishedSquares_4 rfl (lv_at hl 2 rfl) ?_
      refine lv_bipush (v := 72) hx hb dX2_finishedSquares_5 (by decide) ?_
      refine lv_icmp_ge (tgt := 34) hx hb dX2_finishedSquares_7 (by decide) (fun c_3 => ?_) (fun c_3 => ?_)
      · have hF := ifp hF c_3
        exact bJ34 x1 hF _ _ _ hP hD hS (lv_sub hl [1] rfl)
      · have hF := ifn hF c_3
        refine lv_iload_n hx hb dX2_finishedSquares_10 rfl (lv_at hl 1 rfl) ?_
        refine lv_aload_n hx hb dX2_finishedSquares_11 rfl (lv_at hl 0 rfl) ?_
        refine va_get (D := D) (ci := 2) (v := .ref (a2 4)) (C := RX2) (T := TX2) (N := 12) hx hb hts hiX2 hown hK hP 0 rfl rfl 3 (by decide) (hts (.fieldLink RX2 18 "PanoramaHouse$Paintwork" "coatsDone" "[I") (by decide +kernel)) (fun _ h9 => h9) rfl dX2_finishedSquares_12 ?_
        refine lv_iload_n hx hb dX2_finishedSquares_15 rfl (lv_at hl 2 rfl) ?_
        obtain ⟨h_4, hF⟩ := ix_at hF
        refine va_iald hx hb hK hP 3 0 rfl rfl h_4 dX2_finishedSquares_16 ?_
        refine lv_iconst (v := 2) hx hb dX2_finishedSquares_17 (by decide) ?_
        refine lv_icmp_ne (tgt := 25) hx hb dX2_finishedSquares_18 (by decide) (fun c_5 => ?_) (fun c_5 => ?_)
        · have hF := ifn hF c_5
          refine lv_iconst (v := 0) hx hb dX2_finishedSquares_25 (by decide) ?_
          exact bJ26 x2 0 x1 hF _ _ _ hP hD hS (lv_sub hl [0, 2] rfl)
        · have hF := ifp hF c_5
          refine lv_iconst (v := 1) hx hb dX2_finishedSquares_21 (by decide) ?_
          refine lv_goto (tgt := 26) hx hb dX2_finishedSquares_22 (by decide) ?_
          exact bJ26 x2 1 x1 hF _ _ _ hP hD hS (lv_sub hl [0, 2] rfl)
  refine lv_iconst (v := 0) hx hb dX2_finishedSquares_0 (by decide) ?_
  refine lv_istore_n (lv' := [(1, .int 0), (0, .ref (a2 0))]) hx hb dX2_finishedSquares_1 rfl hl (by decide) rfl (fun ls hl => ?_)
  refine lv_iconst (v := 0) hx hb dX2_finishedSquares_2 (by decide) ?_
  refine lv_istore_n (lv' := [(2, .int 0), (1, .int 0), (0, .ref (a2 0))]) hx hb dX2_finishedSquares_3 rfl hl (by decide) rfl (fun ls hl => ?_)
  exact bL4 FU 0 0 hF _ _ _ hP hD hS (lv_sub hl [2, 1, 0] rfl)
abbrev rmX2_hire : Room := { frames := 1, cells := 0, slots := 0, locals := 32 }
set_option maxRecDepth 100000 in
set_option maxHeartbeats 4000000 in
theorem c_X2_hire (l : Launch) (K : Kx) (D : va_G) (C : Nat → ClassId) (a2 : Nat → Nat) (S2 : Nat → Int32) (A2 : Nat → Nat → Int32) (a4 : Nat → Nat) (p1 : Int32) (z : Int32 × (Nat → Int32) × (Nat → Nat → Int32)) (hF : F_X2_hire S2 A2 p1 = some z) : MetI l yX2_hire wsX2_hire rmX2_hire K D (tyV C) (wX2 C a2 a4 S2 A2) [.ref (a2 0), .int p1] (wX2 C a2 a4 z.2.1 z.2.2) z.1 := by
  refine met_int (cc := cX2_hire) (maxL := 2) (ty := .int) (by decide +kernel) rfl (Nat.le_of_ble_eq_true rfl) ?_
  intro p e s m below meth c A Q ls ⟨hx, hb, hml, hown, hts, hK, hA, hZ⟩ hP hD hS hl hret
  have hown : s.vm.findClass RX2 = some m.cls := hown
  have hiX2 : ∀ w ∈ u_ws RX2 TX2 12, w ∈ wsX2_hire := by decide +kernel
  have hl : lv_has ls 2 [(0, .ref (a2 0)), (1, .int p1)] := hl
  unfold F_X2_hire at hF
  refine lv_iload_n hx hb dX2_hire_0 rfl (lv_at hl 1 rfl) ?_
  refine lv_iconst (v := 1) hx hb dX2_hire_1 (by decide) ?_
  refine lv_icmp_lt (tgt := 27) hx hb dX2_hire_2 (by decide) (fun c_1 => ?_) (fun c_1 => ?_)
  · have hF := ifp hF c_1
    refine lv_iconst (v := -1) hx hb dX2_hire_27 (by decide) ?_
    cases hF
    exact hret _ _ _ _ dX2_hire_28 rfl hP hD hS
  · have hF := ifn hF c_1
    refine lv_iload_n hx hb dX2_hire_5 rfl (lv_at hl 1 rfl) ?_
    refine lv_bipush (v := 20) hx hb dX2_hire_6 (by decide) ?_
    refine lv_icmp_gt (tgt := 27) hx hb dX2_hire_8 (by decide) (fun c_2 => ?_) (fun c_2 => ?_)
    · have hF := ifp hF c_2
      refine lv_iconst (v := -1) hx hb dX2_hire_27 (by decide) ?_
      cases hF
      exact hret _ _ _ _ dX2_hire_28 rfl hP hD hS
    · have hF := ifn hF c_2
      refine lv_aload_n hx hb dX2_hire_11 rfl (lv_at hl 0 rfl) ?_
      refine va_get (D := D) (ci := 2) (v := .int (S2 10)) (C := RX2) (T := TX2) (N := 12) hx hb hts hiX2 hown hK hP 0 rfl rfl 10 (by decide) (hts (.fieldLink RX2 47 "PanoramaHouse$Paintwork" "gangsHired" "I") (by decide +kernel)) (fun _ h9 => h9) rfl dX2_hire_12 ?_
      refine lv_if_lt (tgt := 27) hx hb dX2_hire_15 (by decide) (fun c_3 => ?_) (fun c_3 => ?_)
      · have hF := ifp hF c_3
        refine lv_iconst (v := -1) hx hb dX2_hire_27 (by decide) ?_
        cases hF
        exact hret _ _ _ _ dX2_hire_28 rfl hP hD hS
      · have hF := ifn hF c_3
        refine lv_aload_n hx hb dX2_hire_18 rfl (lv_at hl 0 rfl) ?_
        refine va_get (D := D) (ci := 2) (v := .int (S2 10)) (C := RX2) (T := TX2) (N := 12) hx hb hts hiX2 hown hK hP 0 rfl rfl 10 (by decide) (hts (.fieldLink RX2 47 "PanoramaHouse$Paintwork" "gangsHired" "I") (by decide +kernel)) (fun _ h9 => h9) rfl dX2_hire_19 ?_
        refine lv_bipush (v := 6) hx hb dX2_hire_22 (by decide) ?_
        refine lv_icmp_lt (tgt := 29) hx hb dX2_hire_24 (by decide) (fun c_4 => ?_) (fun c_4 => ?_)
        · have hF := ifp hF c_4
          refine lv_aload_n hx hb dX2_hire_29 rfl (lv_at hl 0 rfl) ?_
          refine va_get (D := D) (ci := 2) (v := .ref (a2 2)) (C := RX2) (T := TX2) (N := 12) hx hb hts hiX2 hown hK hP 0 rfl rfl 1 (by decide) (hts (.fieldLink RX2 9 "PanoramaHouse$Paintwork" "skillOf" "[I") (by decide +kernel)) (fun _ h9 => h9) rfl dX2_hire_30 ?_
          refine lv_aload_n hx hb dX2_hire_33 rfl (lv_at hl 0 rfl) ?_
          refine va_get (D := D) (ci := 2) (v := .int (S2 10)) (C := RX2) (T := TX2) (N := 12) hx hb hts hiX2 hown hK hP 0 rfl rfl 10 (by decide) (hts (.fieldLink RX2 47 "PanoramaHouse$Paintwork" "gangsHired" "I") (by decide +kernel)) (fun _ h9 => h9) rfl dX2_hire_34 ?_
          refine lv_iload_n hx hb dX2_hire_37 rfl (lv_at hl 1 rfl) ?_
          obtain ⟨h_5, hF⟩ := ix_at hF
          refine va_iast hx hb hK hP hD hS 1 0 rfl rfl h_5 dX2_hire_38 (fun H locs hP hD hS => ?_)
          obtain ⟨A2_6, eA2_6, hF⟩ := nm_ex hF
          have hP : va_P D vwCl (wX2 C a2 a4 S2 A2_6) H := by rw [eA2_6]; exact hP
          have hD : va_D A (wX2 C a2 a4 S2 A2_6) := by rw [eA2_6]; exact hD
          refine lv_aload_n hx hb dX2_hire_39 rfl (lv_at hl 0 rfl) ?_
          refine lv_dup hx hb dX2_hire_40 rfl ?_
          refine va_get (D := D) (ci := 2) (v := .int (S2 10)) (C := RX2) (T := TX2) (N := 12) hx hb hts hiX2 hown hK hP 0 rfl rfl 10 (by decide) (hts (.fieldLink RX2 47 "PanoramaHouse$Paintwork" "gangsHired" "I") (by decide +kernel)) (fun _ h9 => h9) rfl dX2_hire_41 ?_
          refine lv_dup_x1 hx hb dX2_hire_44 rfl rfl ?_
          refine lv_iconst (v := 1) hx hb dX2_hire_45 (by decide) ?_
          refine lv_iadd hx hb dX2_hire_46 ?_
          refine va_put (D := D) (ci := 2) (v := .int ((S2 10) + 1)) (ty := .int) (C := RX2) (T := TX2) (N := 12) hx hb hts hiX2 tyX2 tyX2_ok nmX2 hown hK hP hD hS 0 rfl rfl 10 (by decide) (hts (.fieldLink RX2 47 "PanoramaHouse$Paintwork" "gangsHired" "I") (by decide +kernel)) (fun _ h9 => h9) rfl (by decide +kernel) rfl rfl (Nat.le_of_ble_eq_true rfl) dX2_hire_47 (fun H locs hP hD hS => ?_)
          obtain ⟨S2_7, eS2_7, hF⟩ := nm_ex hF
          have hP : va_P D vwCl (wX2 C a2 a4 S2_7 A2_6) H := by rw [eS2_7]; exact hP
          have hD : va_D A (wX2 C a2 a4 S2_7 A2_6) := by rw [eS2_7]; exact hD
          cases hF
          exact hret _ _ _ _ dX2_hire_50 rfl hP hD hS
        · have hF := ifn hF c_4
          refine lv_iconst (v := -1) hx hb dX2_hire_27 (by decide) ?_
          cases hF
          exact hret _ _ _ _ dX2_hire_28 rfl hP hD hS
abbrev rmX2_isGang : Room := { frames := 1, cells := 0, slots := 0, locals := 32 }
set_option maxRecDepth 100000 in
set_option maxHeartbeats 4000000 in
theorem c_X2_isGang (l : Launch) (K : Kx) (D : va_G) (C : Nat → ClassId) (a2 : Nat → Nat) (S2 : Nat → Int32) (A2 : Nat → Nat → Int32) (a4 : Nat → Nat) (p1 : Int32) (z : Int32) (hF : F_X2_isGang S2 p1 = some z) : MetI l yX2_isGang wsX2_isGang rmX2_isGang K D (tyV C) (wX2 C a2 a4 S2 A2) [.ref (a2 0), .int p1] (wX2 C a2 a4 S2 A2) z := by
  refine met_int (cc := cX2_isGang) (maxL := 2) (ty := .boolean) (by decide +kernel) rfl (Nat.le_of_ble_eq_true rfl) ?_
  intro p e s m below meth c A Q ls ⟨hx, hb, hml, hown, hts, hK, hA, hZ⟩ hP hD hS hl hret
  have hown : s.vm.findClass RX2 = some m.cls := hown
  have hiX2 : ∀ w ∈ u_ws RX2 TX2 12, w ∈ wsX2_isGang := by decide +kernel
  have hl : lv_has ls 2 [(0, .ref (a2 0)), (1, .int p1)] := hl
  unfold F_X2_isGang at hF
  refine lv_iload_n hx hb dX2_isGang_0 rfl (lv_at hl 1 rfl) ?_
  refine lv_if_lt (tgt := 22) hx hb dX2_isGang_1 (by decide) (fun c_1 => ?_) (fun c_1 => ?_)
  · have hF := ifp hF c_1
    refine lv_iconst (v := 0) hx hb dX2_isGang_22 (by decide) ?_
    cases hF
    exact hret _ _ _ _ dX2_isGang_23 nb0 hP hD hS
  · have hF := ifn hF c_1
    refine lv_iload_n hx hb dX2_isGang_4 rfl (lv_at hl 1 rfl) ?_
    refine lv_aload_n hx hb dX2_isGang_5 rfl (lv_at hl 0 rfl) ?_
    refine va_get (D := D) (ci := 2) (v := .int (S2 10)) (C := RX2) (T := TX2) (N := 12) hx hb hts hiX2 hown hK hP 0 rfl rfl 10 (by decide) (hts (.fieldLink RX2 47 "PanoramaHouse$Paintwork" "gangsHired" "I") (by decide +kernel)) (fun _ h9 => h9) rfl dX2_isGang_6 ?_
    refine lv_icmp_ge (tgt := 22) hx hb dX2_isGang_9 (by decide) (fun c_2 => ?_) (fun c_2 => ?_)
    · have hF := ifp hF c_2
      refine lv_iconst (v := 0) hx hb dX2_isGang_22 (by decide) ?_
      cases hF
      exact hret _ _ _ _ dX2_isGang_23 nb0 hP hD hS
    · have hF := ifn hF c_2
      refine lv_iload_n hx hb dX2_isGang_12 rfl (lv_at hl 1 rfl) ?_
      refine lv_bipush (v := 6) hx hb dX2_isGang_13 (by decide) ?_
      refine lv_icmp_ge (tgt := 22) hx hb dX2_isGang_15 (by decide) (fun c_3 => ?_) (fun c_3 => ?_)
      · have hF := ifp hF c_3
        refine lv_iconst (v := 0) hx hb dX2_isGang_22 (by decide) ?_
        cases hF
        exact hret _ _ _ _ dX2_isGang_23 nb0 hP hD hS
      · have hF := ifn hF c_3
        refine lv_iconst (v := 1) hx hb dX2_isGang_18 (by decide) ?_
        refine lv_goto (tgt := 23) hx hb dX2_isGang_19 (by decide) ?_
        cases hF
        exact hret _ _ _ _ dX2_isGang_23 nb1 hP hD hS
abbrev rmX2_firstCoatWork : Room := { frames := 3, cells := 0, slots := 0, locals := 73 }
set_option maxRecDepth 100000 in
set_option maxHeartbeats 4000000 in
theorem c_X2_firstCoatWork (l : Launch) (K : Kx) (D : va_G) (C : Nat → ClassId) (a2 : Nat → Nat) (S2 : Nat → Int32) (A2 : Nat → Nat → Int32) (a4 : Nat → Nat) (A4 : Nat → Nat → Int32) (p1 : Int32) (z : Int32) (hF : F_X2_firstCoatWork A4 p1 = some z) : MetI l yX2_firstCoatWork wsX2_firstCoatWork rmX2_firstCoatWork K D (tyV C) (wX2 C a2 a4 S2 A2 ++ wX4 C a4 A4) [.ref (a2 0), .int p1] (wX2 C a2 a4 S2 A2 ++ wX4 C a4 A4) z := by
  refine met_int (cc := cX2_firstCoatWork) (maxL := 2) (ty := .int) (by decide +kernel) rfl (Nat.le_of_ble_eq_true rfl) ?_
  intro p e s m below meth c A Q ls ⟨hx, hb, hml, hown, hts, hK, hA, hZ⟩ hP hD hS hl hret
  have hown : s.vm.findClass RX2 = some m.cls := hown
  have hiX2 : ∀ w ∈ u_ws RX2 TX2 12, w ∈ wsX2_firstCoatWork := by decide +kernel
  have hl : lv_has ls 2 [(0, .ref (a2 0)), (1, .int p1)] := hl
  unfold F_X2_firstCoatWork at hF
  refine lv_iconst (v := 3) hx hb dX2_firstCoatWork_0 (by decide) ?_
  refine lv_aload_n hx hb dX2_firstCoatWork_1 rfl (lv_at hl 0 rfl) ?_
  refine va_get (D := D) (ci := 2) (v := .ref (a4 0)) (C := RX2) (T := TX2) (N := 12) hx hb hts hiX2 hown hK hP 0 rfl rfl 0 (by decide) (hts (.fieldLink RX2 39 "PanoramaHouse$Paintwork" "round" "LPanoramaHouse$Round;") (by decide +kernel)) (fun _ h9 => h9) rfl dX2_firstCoatWork_2 ?_
  refine lv_iload_n hx hb dX2_firstCoatWork_5 rfl (lv_at hl 1 rfl) ?_
  obtain ⟨z_1, fz_1, hF⟩ := bd_at hF
  refine callV_int (wX2 C a2 a4 S2 A2) ([]) (w' := wX2 C a2 a4 S2 A2 ++ wX4 C a4 A4) (As := [.int p1]) (rest := [.int 3]) ⟨hx, hb, hml, hown, hts⟩ hK hA hZ (c_X4_colouredIn l K D C a4 A4 p1 z_1 fz_1) (cwV 1 hts gX2_firstCoatWork_X4_colouredIn rfl rfl rfl (by decide +kernel) ⟨Nat.le_of_ble_eq_true rfl, Nat.le_of_ble_eq_true rfl⟩) 0 rfl rfl rfl rfl hl.1 rfl (Nat.le_of_ble_eq_true rfl) ⟨Nat.zero_le _, Nat.zero_le _⟩ (by simp only [List.append_assoc, List.append_nil, List.nil_append]) (by simp only [List.append_assoc, List.append_nil, List.nil_append]) hP hD hS dX2_firstCoatWork_6 (fun H locs hP hD hS => ?_)
  refine lv_iadd hx hb dX2_firstCoatWork_9 ?_
  cases hF
  exact hret _ _ _ _ dX2_firstCoatWork_10 rfl hP hD hS
abbrev rmX2_beginCoat : Room := { frames := 4, cells := 0, slots := 0, locals := 94 }
set_option maxRecDepth 100000 in
set_option maxHeartbeats 4000000 in
theorem c_X2_beginCoat (l : Launch) (K : Kx) (D : va_G) (C : Nat → ClassId) (a2 : Nat → Nat) (S2 : Nat → Int32) (A2 : Nat → Nat → Int32) (a4 : Nat → Nat) (A4 : Nat → Nat → Int32) (p1 : Int32) (p2 : Int32) (z : Int32 × (Nat → Nat → Int32)) (hF : F_X2_beginCoat S2 A2 A4 p1 p2 = some z) : MetI l yX2_beginCoat wsX2_beginCoat rmX2_beginCoat K D (tyV C) (wX2 C a2 a4 S2 A2 ++ wX4 C a4 A4) [.ref (a2 0), .int p1, .int p2] (wX2 C a2 a4 S2 z.2 ++ wX4 C a4 A4) z.1 := by
  refine met_int (cc := cX2_beginCoat) (maxL := 5) (ty := .int) (by decide +kernel) rfl (Nat.le_of_ble_eq_true rfl) ?_
  intro p e s m below meth c A Q ls ⟨hx, hb, hml, hown, hts, hK, hA, hZ⟩ hP hD hS hl hret
  have hown : s.vm.findClass RX2 = some m.cls := hown
  have hiX2 : ∀ w ∈ u_ws RX2 TX2 12, w ∈ wsX2_beginCoat := by decide +kernel
  have hl : lv_has ls 5 [(0, .ref (a2 0)), (1, .int p1), (2, .int p2)] := hl
  unfold F_X2_beginCoat at hF
  obtain ⟨J136, eJ136, hF⟩ := nm_ex hF
  have bJ136 : ∀ (x1 : Int32) (x2 : Int32) (x3 : Int32) (y0 : Int32) (y1 : Int32) (A2 : Nat → Nat → Int32), J136 x1 x2 x3 y0 y1 A2 = some z → ∀ (H : Heap) (locs : List Loc) (ls : Array Slot), va_P D vwCl (wX2 C a2 a4 S2 A2 ++ wX4 C a4 A4) H → va_D A (wX2 C a2 a4 S2 A2 ++ wX4 C a4 A4) → va_S A s.heap H locs → lv_has ls 5 [(0, .ref (a2 0)), (1, .int x1), (2, .int x2), (3, .int x3)] → W p l e rmX2_beginCoat s m ([.ref (a2 0), .int p1, .int p2] : List Value).toArray below meth c H locs 0 0 Q (F0 m 136 ls [.int y0, .int y1, .ref (a2 6)]) := by
    intro x1 x2 x3 y0 y1 A2 hF H locs ls hP hD hS hl
    rw [eJ136] at hF
    obtain ⟨h_1, hF⟩ := ix_at hF
    refine va_iast hx hb hK hP hD hS 5 0 rfl rfl h_1 dX2_beginCoat_136 (fun H locs hP hD hS => ?_)
    obtain ⟨A2_2, eA2_2, hF⟩ := nm_ex hF
    have hP : va_P D vwCl (wX2 C a2 a4 S2 A2_2 ++ wX4 C a4 A4) H := by rw [eA2_2]; exact hP
    have hD : va_D A (wX2 C a2 a4 S2 A2_2 ++ wX4 C a4 A4) := by rw [eA2_2]; exact hD
    refine lv_aload_n hx hb dX2_beginCoat_137 rfl (lv_at hl 0 rfl) ?_
    refine va_get (D := D) (ci := 2) (v := .ref (a2 5)) (C := RX2) (T := TX2) (N := 12) hx hb hts hiX2 hown hK hP 0 rfl rfl 4 (by decide) (hts (.fieldLink RX2 21 "PanoramaHouse$Paintwork" "gangOn" "[I") (by decide +kernel)) (fun _ h9 => h9) rfl dX2_beginCoat_138 ?_
    refine lv_iload_n hx hb dX2_beginCoat_141 rfl (lv_at hl 2 rfl) ?_
    refine lv_iload_n hx hb dX2_beginCoat_142 rfl (lv_at hl 1 rfl) ?_
    obtain ⟨h_3, hF⟩ := ix_at hF
    refine va_iast hx hb hK hP hD hS 4 0 rfl rfl h_3 dX2_beginCoat_143 (fun H locs hP hD hS => ?_)
    obtain ⟨A2_4, eA2_4, hF⟩ := nm_ex hF
    have hP : va_P D vwCl (wX2 C a2 a4 S2 A2_4 ++ wX4 C a4 A4) H := by rw [eA2_4]; exact hP
    have hD : va_D A (wX2 C a2 a4 S2 A2_4 ++ wX4 C a4 A4) := by rw [eA2_4]; exact hD
    refine lv_aload_n hx hb dX2_beginCoat_144 rfl (lv_at hl 0 rfl) ?_
    refine va_get (D := D) (ci := 2) (v := .ref (a2 3)) (C := RX2) (T := TX2) (N := 12) hx hb hts hiX2 hown hK hP 0 rfl rfl 2 (by decide) (hts (.fieldLink RX2 15 "PanoramaHouse$Paintwork" "squareOfGang" "[I") (by decide +kernel)) (fun _ h9 => h9) rfl dX2_beginCoat_145 ?_
    refine lv_iload_n hx hb dX2_beginCoat_148 rfl (lv_at hl 1 rfl) ?_
    refine lv_iload_n hx hb dX2_beginCoat_149 rfl (lv_at hl 2 rfl) ?_
    obtain ⟨h_5, hF⟩ := ix_at hF
    refine va_iast hx hb hK hP hD hS 2 0 rfl rfl h_5 dX2_beginCoat_150 (fun H locs hP hD hS => ?_)
    obtain ⟨A2_6, eA2_6, hF⟩ := nm_ex hF
    have hP : va_P D vwCl (wX2 C a2 a4 S2 A2_6 ++ wX4 C a4 A4) H := by rw [eA2_6]; exact hP
    have hD : va_D A (wX2 C a2 a4 S2 A2_6 ++ wX4 C a4 A4) := by rw [eA2_6]; exact hD
    refine lv_iload_n hx hb dX2_beginCoat_151 rfl (lv_at hl 3 rfl) ?_
    cases hF
    exact hret _ _ _ _ dX2_beginCoat_152 rfl hP hD hS
  obtain ⟨J106, eJ106, hF⟩ := nm_ex hF
  have bJ106 : ∀ (x1 : Int32) (x2 : Int32) (x3 : Int32) (A2 : Nat → Nat → Int32), J106 x1 x2 x3 A2 = some z → ∀ (H : Heap) (locs : List Loc) (ls : Array Slot), va_P D vwCl (wX2 C a2 a4 S2 A2 ++ wX4 C a4 A4) H → va_D A (wX2 C a2 a4 S2 A2 ++ wX4 C a4 A4) → va_S A s.heap H locs → lv_has ls 5 [(0, .ref (a2 0)), (1, .int x1), (2, .int x2), (3, .int x3)] → W p l e rmX2_beginCoat s m ([.ref (a2 0), .int p1, .int p2] : List Value).toArray below meth c H locs 0 0 Q (F0 m 106 ls []) := by
    intro x1 x2 x3 A2 hF H locs ls hP hD hS hl
    rw [eJ106] at hF
    refine lv_aload_n hx hb dX2_beginCoat_106 rfl (lv_at hl 0 rfl) ?_
    refine lv_iload_n hx hb dX2_beginCoat_107 rfl (lv_at hl 2 rfl) ?_
    obtain ⟨z_7, fz_7, hF⟩ := bd_at hF
    refine callV_int ([]) ([]) (w' := wX2 C a2 a4 S2 A2 ++ wX4 C a4 A4) (As := [.int x2]) (rest := []) ⟨hx, hb, hml, hown, hts⟩ hK hA hZ (c_X2_firstCoatWork l K D C a2 S2 A2 a4 A4 x2 z_7 fz_7) (cwV 1 hts gX2_beginCoat_X2_firstCoatWork rfl rfl rfl (by decide +kernel) ⟨Nat.le_of_ble_eq_true rfl, Nat.le_of_ble_eq_true rfl⟩) 0 rfl rfl rfl rfl hl.1 rfl (Nat.le_of_ble_eq_true rfl) ⟨Nat.zero_le _, Nat.zero_le _⟩ (by simp only [List.append_assoc, List.append_nil, List.nil_append]) (by simp only [List.append_assoc, List.append_nil, List.nil_append]) hP hD hS dX2_beginCoat_108 (fun H locs hP hD hS => ?_)
    refine lv_istore (lv' := [(4, .int z_7), (0, .ref (a2 0)), (1, .int x1), (2, .int x2), (3, .int x3)]) hx hb dX2_beginCoat_111 hl (by decide) rfl (fun ls hl => ?_)
    refine lv_aload_n hx hb dX2_beginCoat_113 rfl (lv_at hl 1 rfl) ?_
    refine va_get (D := D) (ci := 2) (v := .ref (a2 6)) (C := RX2) (T := TX2) (N := 12) hx hb hts hiX2 hown hK hP 0 rfl rfl 5 (by decide) (hts (.fieldLink RX2 24 "PanoramaHouse$Paintwork" "workLeft" "[I") (by decide +kernel)) (fun _ h9 => h9) rfl dX2_beginCoat_114 ?_
    refine lv_iload_n hx hb dX2_beginCoat_117 rfl (lv_at hl 3 rfl) ?_
    refine lv_iload_n hx hb dX2_beginCoat_118 rfl (lv_at hl 4 rfl) ?_
    refine lv_iconst (v := 1) hx hb dX2_beginCoat_119 (by decide) ?_
    refine lv_icmp_ne (tgt := 128) hx hb dX2_beginCoat_120 (by decide) (fun c_8 => ?_) (fun c_8 => ?_)
    · have hF := ifn hF c_8
      refine lv_iload hx hb dX2_beginCoat_128 (lv_at hl 0 rfl) ?_
      refine lv_iconst (v := 2) hx hb dX2_beginCoat_130 (by decide) ?_
      refine lv_idiv hx hb dX2_beginCoat_131 (by decide) ?_
      refine lv_iconst (v := 1) hx hb dX2_beginCoat_132 (by decide) ?_
      refine va_mmax hx hb (hml.trans hl.1.symm) hown (hts (.methodLink RX2 66 Lib.Math.max.name) (by decide +kernel)) (hts (.static Lib.Math.max.name) (by decide +kernel)) (hts (.initialized "java/lang/Math") (by decide +kernel)) (hts (.code Lib.Math.max.name Lib.Math.max.code 2 (some .int)) (by decide +kernel)) (Nat.le_of_ble_eq_true rfl) (Nat.le_of_ble_eq_true rfl) (Nat.zero_le _) (Nat.zero_le _) dX2_beginCoat_133 ?_
      refine lv_topi (fun v_9 ev_9 => ?_)
      have hF := nm_at hF ev_9
      exact bJ136 x1 x2 x3 v_9 x2 A2 hF _ _ _ hP hD hS (lv_sub hl [1, 2, 3, 4] rfl)
    · have hF := ifp hF c_8
      refine lv_iload hx hb dX2_beginCoat_123 (lv_at hl 0 rfl) ?_
      refine lv_goto (tgt := 136) hx hb dX2_beginCoat_125 (by decide) ?_
      exact bJ136 x1 x2 x3 z_7 x2 A2 hF _ _ _ hP hD hS (lv_sub hl [1, 2, 3, 4] rfl)
  obtain ⟨J84, eJ84, hF⟩ := nm_ex hF
  have bJ84 : ∀ (x1 : Int32) (x2 : Int32) (x3 : Int32) (A2 : Nat → Nat → Int32), J84 x1 x2 x3 A2 = some z → ∀ (H : Heap) (locs : List Loc) (ls : Array Slot), va_P D vwCl (wX2 C a2 a4 S2 A2 ++ wX4 C a4 A4) H → va_D A (wX2 C a2 a4 S2 A2 ++ wX4 C a4 A4) → va_S A s.heap H locs → lv_has ls 5 [(0, .ref (a2 0)), (1, .int x1), (2, .int x2), (3, .int x3)] → W p l e rmX2_beginCoat s m ([.ref (a2 0), .int p1, .int p2] : List Value).toArray below meth c H locs 0 0 Q (F0 m 84 ls []) := by
    intro x1 x2 x3 A2 hF H locs ls hP hD hS hl
    rw [eJ84] at hF
    refine lv_iload_n hx hb dX2_beginCoat_84 rfl (lv_at hl 2 rfl) ?_
    refine lv_bipush (v := 36) hx hb dX2_beginCoat_85 (by decide) ?_
    refine lv_icmp_ge (tgt := 106) hx hb dX2_beginCoat_87 (by decide) (fun c_10 => ?_) (fun c_10 => ?_)
    · have hF := ifp hF c_10
      exact bJ106 x1 x2 x3 A2 hF _ _ _ hP hD hS (lv_sub hl [0, 1, 2, 3] rfl)
    · have hF := ifn hF c_10
      refine lv_aload_n hx hb dX2_beginCoat_90 rfl (lv_at hl 0 rfl) ?_
      refine va_get (D := D) (ci := 2) (v := .ref (a2 4)) (C := RX2) (T := TX2) (N := 12) hx hb hts hiX2 hown hK hP 0 rfl rfl 3 (by decide) (hts (.fieldLink RX2 18 "PanoramaHouse$Paintwork" "coatsDone" "[I") (by decide +kernel)) (fun _ h9 => h9) rfl dX2_beginCoat_91 ?_
      refine lv_iload_n hx hb dX2_beginCoat_94 rfl (lv_at hl 2 rfl) ?_
      refine lv_bipush (v := 36) hx hb dX2_beginCoat_95 (by decide) ?_
      refine lv_iadd hx hb dX2_beginCoat_97 ?_
      obtain ⟨h_11, hF⟩ := ix_at hF
      refine va_iald hx hb hK hP 3 0 rfl rfl h_11 dX2_beginCoat_98 ?_
      refine lv_iload_n hx hb dX2_beginCoat_99 rfl (lv_at hl 3 rfl) ?_
      refine lv_icmp_ge (tgt := 106) hx hb dX2_beginCoat_100 (by decide) (fun c_12 => ?_) (fun c_12 => ?_)
      · have hF := ifp hF c_12
        exact bJ106 x1 x2 x3 A2 hF _ _ _ hP hD hS (lv_sub hl [0, 1, 2, 3] rfl)
      · have hF := ifn hF c_12
        refine lv_bipush (v := -7) hx hb dX2_beginCoat_103 (by decide) ?_
        cases hF
        exact hret _ _ _ _ dX2_beginCoat_105 rfl hP hD hS
  refine lv_aload_n hx hb dX2_beginCoat_0 rfl (lv_at hl 0 rfl) ?_
  refine lv_iload_n hx hb dX2_beginCoat_1 rfl (lv_at hl 1 rfl) ?_
  obtain ⟨z_13, fz_13, hF⟩ := bd_at hF
  refine callV_int ([]) (wX4 C a4 A4) (w' := wX2 C a2 a4 S2 A2 ++ wX4 C a4 A4) (As := [.int p1]) (rest := []) ⟨hx, hb, hml, hown, hts⟩ hK hA hZ (c_X2_isGang l K D C a2 S2 A2 a4 p1 z_13 fz_13) (cwV 1 hts gX2_beginCoat_X2_isGang rfl rfl rfl (by decide +kernel) ⟨Nat.le_of_ble_eq_true rfl, Nat.le_of_ble_eq_true rfl⟩) 0 rfl rfl rfl rfl hl.1 rfl (Nat.le_of_ble_eq_true rfl) ⟨Nat.zero_le _, Nat.zero_le _⟩ (by simp only [List.append_assoc, List.append_nil, List.nil_append]) (by simp only [List.append_assoc, List.append_nil, List.nil_append]) hP hD hS dX2_beginCoat_2 (fun H locs hP hD hS => ?_)
  refine lv_if_eq (tgt := 15) hx hb dX2_beginCoat_5 (by decide) (fun c_14 => ?_) (fun c_14 => ?_)
  · have hF := ifp hF c_14
    refine lv_bipush (v := -2) hx hb dX2_beginCoat_15 (by decide) ?_
    cases hF
    exact hret _ _ _ _ dX2_beginCoat_17 rfl hP hD hS
  · have hF := ifn hF c_14
    refine lv_iload_n hx hb dX2_beginCoat_8 rfl (lv_at hl 2 rfl) ?_
    obtain ⟨z_15, fz_15, hF⟩ := bd_at hF
    refine callSN_int (As := [.int p2]) (rest := []) ⟨hx, hb, hml, hown, hts⟩ hK hA hZ (c_X5_isSquare l K D C p2 z_15 fz_15) ⟨va_cnB 1 hts gX2_beginCoat_X5_isSquare_n60 rfl rfl rfl hZ.nw3 (hts (.initialized RX5) (by decide +kernel)) (by decide +kernel) ⟨Nat.le_of_ble_eq_true rfl, Nat.le_of_ble_eq_true rfl⟩, hts (.static yX5_isSquare) (by decide +kernel), trivial⟩ rfl hl.1 rfl (Nat.le_of_ble_eq_true rfl) ⟨Nat.zero_le _, Nat.zero_le _⟩ hP hS dX2_beginCoat_9 (fun H locs hP hS => ?_)
    refine lv_if_ne (tgt := 18) hx hb dX2_beginCoat_12 (by decide) (fun c_16 => ?_) (fun c_16 => ?_)
    · have hF := ifn hF c_16
      refine lv_aload_n hx hb dX2_beginCoat_18 rfl (lv_at hl 0 rfl) ?_
      refine va_get (D := D) (ci := 2) (v := .ref (a2 3)) (C := RX2) (T := TX2) (N := 12) hx hb hts hiX2 hown hK hP 0 rfl rfl 2 (by decide) (hts (.fieldLink RX2 15 "PanoramaHouse$Paintwork" "squareOfGang" "[I") (by decide +kernel)) (fun _ h9 => h9) rfl dX2_beginCoat_19 ?_
      refine lv_iload_n hx hb dX2_beginCoat_22 rfl (lv_at hl 1 rfl) ?_
      obtain ⟨h_17, hF⟩ := ix_at hF
      refine va_iald hx hb hK hP 2 0 rfl rfl h_17 dX2_beginCoat_23 ?_
      refine lv_iconst (v := -1) hx hb dX2_beginCoat_24 (by decide) ?_
      refine lv_icmp_eq (tgt := 31) hx hb dX2_beginCoat_25 (by decide) (fun c_18 => ?_) (fun c_18 => ?_)
      · have hF := ifp hF c_18
        refine lv_aload_n hx hb dX2_beginCoat_31 rfl (lv_at hl 0 rfl) ?_
        refine va_get (D := D) (ci := 2) (v := .ref (a2 4)) (C := RX2) (T := TX2) (N := 12) hx hb hts hiX2 hown hK hP 0 rfl rfl 3 (by decide) (hts (.fieldLink RX2 18 "PanoramaHouse$Paintwork" "coatsDone" "[I") (by decide +kernel)) (fun _ h9 => h9) rfl dX2_beginCoat_32 ?_
        refine lv_iload_n hx hb dX2_beginCoat_35 rfl (lv_at hl 2 rfl) ?_
        obtain ⟨h_19, hF⟩ := ix_at hF
        refine va_iald hx hb hK hP 3 0 rfl rfl h_19 dX2_beginCoat_36 ?_
        refine lv_iconst (v := 1) hx hb dX2_beginCoat_37 (by decide) ?_
        refine lv_iadd hx hb dX2_beginCoat_38 ?_
        refine lv_topi (fun v_20 ev_20 => ?_)
        have hF := nm_at hF ev_20
        refine lv_istore_n (lv' := [(3, .int v_20), (0, .ref (a2 0)), (1, .int p1), (2, .int p2)]) hx hb dX2_beginCoat_39 rfl hl (by decide) rfl (fun ls hl => ?_)
        refine lv_iload_n hx hb dX2_beginCoat_40 rfl (lv_at hl 0 rfl) ?_
        refine lv_iconst (v := 2) hx hb dX2_beginCoat_41 (by decide) ?_
        refine lv_icmp_le (tgt := 48) hx hb dX2_beginCoat_42 (by decide) (fun c_21 => ?_) (fun c_21 => ?_)
        · have hF := ifp hF c_21
          refine lv_aload_n hx hb dX2_beginCoat_48 rfl (lv_at hl 1 rfl) ?_
          refine va_get (D := D) (ci := 2) (v := .ref (a2 5)) (C := RX2) (T := TX2) (N := 12) hx hb hts hiX2 hown hK hP 0 rfl rfl 4 (by decide) (hts (.fieldLink RX2 21 "PanoramaHouse$Paintwork" "gangOn" "[I") (by decide +kernel)) (fun _ h9 => h9) rfl dX2_beginCoat_49 ?_
          refine lv_iload_n hx hb dX2_beginCoat_52 rfl (lv_at hl 3 rfl) ?_
          obtain ⟨h_22, hF⟩ := ix_at hF
          refine va_iald hx hb hK hP 4 0 rfl rfl h_22 dX2_beginCoat_53 ?_
          refine lv_iconst (v := -1) hx hb dX2_beginCoat_54 (by decide) ?_
          refine lv_icmp_eq (tgt := 61) hx hb dX2_beginCoat_55 (by decide) (fun c_23 => ?_) (fun c_23 => ?_)
          · have hF := ifp hF c_23
            refine lv_iload_n hx hb dX2_beginCoat_61 rfl (lv_at hl 0 rfl) ?_
            refine lv_iconst (v := 2) hx hb dX2_beginCoat_62 (by decide) ?_
            refine lv_icmp_ne (tgt := 84) hx hb dX2_beginCoat_63 (by decide) (fun c_24 => ?_) (fun c_24 => ?_)
            · have hF := ifn hF c_24
              exact bJ84 p1 p2 v_20 A2 hF _ _ _ hP hD hS (lv_sub hl [1, 2, 3, 0] rfl)
            · have hF := ifp hF c_24
              refine lv_aload_n hx hb dX2_beginCoat_66 rfl (lv_at hl 1 rfl) ?_
              refine va_get (D := D) (ci := 2) (v := .int (S2 11)) (C := RX2) (T := TX2) (N := 12) hx hb hts hiX2 hown hK hP 0 rfl rfl 11 (by decide) (hts (.fieldLink RX2 43 "PanoramaHouse$Paintwork" "daysGone" "I") (by decide +kernel)) (fun _ h9 => h9) rfl dX2_beginCoat_67 ?_
              refine lv_aload_n hx hb dX2_beginCoat_70 rfl (lv_at hl 1 rfl) ?_
              refine va_get (D := D) (ci := 2) (v := .ref (a2 7)) (C := RX2) (T := TX2) (N := 12) hx hb hts hiX2 hown hK hP 0 rfl rfl 6 (by decide) (hts (.fieldLink RX2 27 "PanoramaHouse$Paintwork" "firstDoneOn" "[I") (by decide +kernel)) (fun _ h9 => h9) rfl dX2_beginCoat_71 ?_
              refine lv_iload_n hx hb dX2_beginCoat_74 rfl (lv_at hl 3 rfl) ?_
              obtain ⟨h_25, hF⟩ := ix_at hF
              refine va_iald hx hb hK hP 6 0 rfl rfl h_25 dX2_beginCoat_75 ?_
              refine lv_isub hx hb dX2_beginCoat_76 ?_
              refine lv_iconst (v := 3) hx hb dX2_beginCoat_77 (by decide) ?_
              refine lv_icmp_ge (tgt := 84) hx hb dX2_beginCoat_78 (by decide) (fun c_26 => ?_) (fun c_26 => ?_)
              · have hF := ifp hF c_26
                exact bJ84 p1 p2 v_20 A2 hF _ _ _ hP hD hS (lv_sub hl [1, 2, 3, 0] rfl)
              · have hF := ifn hF c_26
                refine lv_bipush (v := -6) hx hb dX2_beginCoat_81 (by decide) ?_
                cases hF
                exact hret _ _ _ _ dX2_beginCoat_83 rfl hP hD hS
          · have hF := ifn hF c_23
            refine lv_bipush (v := -5) hx hb dX2_beginCoat_58 (by decide) ?_
            cases hF
            exact hret _ _ _ _ dX2_beginCoat_60 rfl hP hD hS
        · have hF := ifn hF c_21
          refine lv_bipush (v := -4) hx hb dX2_beginCoat_45 (by decide) ?_
          cases hF
          exact hret _ _ _ _ dX2_beginCoat_47 rfl hP hD hS
      · have hF := ifn hF c_18
        refine lv_bipush (v := -3) hx hb dX2_beginCoat_28 (by decide) ?_
        cases hF
        exact hret _ _ _ _ dX2_beginCoat_30 rfl hP hD hS
    · have hF := ifp hF c_16
      refine lv_bipush (v := -2) hx hb dX2_beginCoat_15 (by decide) ?_
      cases hF
      exact hret _ _ _ _ dX2_beginCoat_17 rfl hP hD hS
abbrev rmX2_endCoat : Room := { frames := 2, cells := 0, slots := 0, locals := 53 }
set_option maxRecDepth 100000 in
set_option maxHeartbeats 4000000 in
theorem c_X2_endCoat (l : Launch) (K : Kx) (D : va_G) (C : Nat → ClassId) (a2 : Nat → Nat) (S2 : Nat → Int32) (A2 : Nat → Nat → Int32) (a4 : Nat → Nat) (p1 : Int32) (p2 : Int32) (z : (Nat → Nat → Int32)) (hF : F_X2_endCoat S2 A2 p1 p2 = some z) : MetV l yX2_endCoat wsX2_endCoat rmX2_endCoat K D (tyV C) (wX2 C a2 a4 S2 A2) [.ref (a2 0), .int p1, .int p2] (wX2 C a2 a4 S2 z) := by
  refine met_void (cc := cX2_endCoat) (maxL := 3) (by decide +kernel) rfl (Nat.le_of_ble_eq_true rfl) ?_
  intro p e s m below meth c A Q ls ⟨hx, hb, hml, hown, hts, hK, hA, hZ⟩ hP hD hS hl hret
  have hown : s.vm.findClass RX2 = some m.cls := hown
  have hiX2 : ∀ w ∈ u_ws RX2 TX2 12, w ∈ wsX2_endCoat := by decide +kernel
  have hl : lv_has ls 3 [(0, .ref (a2 0)), (1, .int p1), (2, .int p2)] := hl
  unfold F_X2_endCoat at hF
  obtain ⟨J59, eJ59, hF⟩ := nm_ex hF
  have bJ59 : ∀ (x1 : Int32) (x2 : Int32) (A2 : Nat → Nat → Int32), J59 x1 x2 A2 = some z → ∀ (H : Heap) (locs : List Loc) (ls : Array Slot), va_P D vwCl (wX2 C a2 a4 S2 A2) H → va_D A (wX2 C a2 a4 S2 A2) → va_S A s.heap H locs → lv_has ls 3 [(0, .ref (a2 0)), (1, .int x1), (2, .int x2)] → W p l e rmX2_endCoat s m ([.ref (a2 0), .int p1, .int p2] : List Value).toArray below meth c H locs 0 0 Q (F0 m 59 ls []) := by
    intro x1 x2 A2 hF H locs ls hP hD hS hl
    rw [eJ59] at hF
    refine lv_aload_n hx hb dX2_endCoat_59 rfl (lv_at hl 0 rfl) ?_
    refine va_get (D := D) (ci := 2) (v := .ref (a2 9)) (C := RX2) (T := TX2) (N := 12) hx hb hts hiX2 hown hK hP 0 rfl rfl 8 (by decide) (hts (.fieldLink RX2 33 "PanoramaHouse$Paintwork" "lastGang" "[I") (by decide +kernel)) (fun _ h9 => h9) rfl dX2_endCoat_60 ?_
    refine lv_iload_n hx hb dX2_endCoat_63 rfl (lv_at hl 2 rfl) ?_
    refine lv_iload_n hx hb dX2_endCoat_64 rfl (lv_at hl 1 rfl) ?_
    obtain ⟨h_1, hF⟩ := ix_at hF
    refine va_iast hx hb hK hP hD hS 8 0 rfl rfl h_1 dX2_endCoat_65 (fun H locs hP hD hS => ?_)
    obtain ⟨A2_2, eA2_2, hF⟩ := nm_ex hF
    have hP : va_P D vwCl (wX2 C a2 a4 S2 A2_2) H := by rw [eA2_2]; exact hP
    have hD : va_D A (wX2 C a2 a4 S2 A2_2) := by rw [eA2_2]; exact hD
    refine lv_aload_n hx hb dX2_endCoat_66 rfl (lv_at hl 0 rfl) ?_
    refine va_get (D := D) (ci := 2) (v := .ref (a2 5)) (C := RX2) (T := TX2) (N := 12) hx hb hts hiX2 hown hK hP 0 rfl rfl 4 (by decide) (hts (.fieldLink RX2 21 "PanoramaHouse$Paintwork" "gangOn" "[I") (by decide +kernel)) (fun _ h9 => h9) rfl dX2_endCoat_67 ?_
    refine lv_iload_n hx hb dX2_endCoat_70 rfl (lv_at hl 2 rfl) ?_
    refine lv_iconst (v := -1) hx hb dX2_endCoat_71 (by decide) ?_
    obtain ⟨h_3, hF⟩ := ix_at hF
    refine va_iast hx hb hK hP hD hS 4 0 rfl rfl h_3 dX2_endCoat_72 (fun H locs hP hD hS => ?_)
    obtain ⟨A2_4, eA2_4, hF⟩ := nm_ex hF
    have hP : va_P D vwCl (wX2 C a2 a4 S2 A2_4) H := by rw [eA2_4]; exact hP
    have hD : va_D A (wX2 C a2 a4 S2 A2_4) := by rw [eA2_4]; exact hD
    refine lv_aload_n hx hb dX2_endCoat_73 rfl (lv_at hl 0 rfl) ?_
    refine va_get (D := D) (ci := 2) (v := .ref (a2 3)) (C := RX2) (T := TX2) (N := 12) hx hb hts hiX2 hown hK hP 0 rfl rfl 2 (by decide) (hts (.fieldLink RX2 15 "PanoramaHouse$Paintwork" "squareOfGang" "[I") (by decide +kernel)) (fun _ h9 => h9) rfl dX2_endCoat_74 ?_
    refine lv_iload_n hx hb dX2_endCoat_77 rfl (lv_at hl 1 rfl) ?_
    refine lv_iconst (v := -1) hx hb dX2_endCoat_78 (by decide) ?_
    obtain ⟨h_5, hF⟩ := ix_at hF
    refine va_iast hx hb hK hP hD hS 2 0 rfl rfl h_5 dX2_endCoat_79 (fun H locs hP hD hS => ?_)
    obtain ⟨A2_6, eA2_6, hF⟩ := nm_ex hF
    have hP : va_P D vwCl (wX2 C a2 a4 S2 A2_6) H := by rw [eA2_6]; exact hP
    have hD : va_D A (wX2 C a2 a4 S2 A2_6) := by rw [eA2_6]; exact hD
    cases hF
    exact hret _ _ _ _ dX2_endCoat_80 hP hD hS
  refine lv_aload_n hx hb dX2_endCoat_0 rfl (lv_at hl 0 rfl) ?_
  refine lv_iload_n hx hb dX2_endCoat_1 rfl (lv_at hl 1 rfl) ?_
  obtain ⟨z_7, fz_7, hF⟩ := bd_at hF
  refine callV_int ([]) ([]) (w' := wX2 C a2 a4 S2 A2) (As := [.int p1]) (rest := []) ⟨hx, hb, hml, hown, hts⟩ hK hA hZ (c_X2_isGang l K D C a2 S2 A2 a4 p1 z_7 fz_7) (cwV 1 hts gX2_endCoat_X2_isGang rfl rfl rfl (by decide +kernel) ⟨Nat.le_of_ble_eq_true rfl, Nat.le_of_ble_eq_true rfl⟩) 0 rfl rfl rfl rfl hl.1 rfl (Nat.le_of_ble_eq_true rfl) ⟨Nat.zero_le _, Nat.zero_le _⟩ (by simp only [List.append_assoc, List.append_nil, List.nil_append]) (by simp only [List.append_assoc, List.append_nil, List.nil_append]) hP hD hS dX2_endCoat_2 (fun H locs hP hD hS => ?_)
  refine lv_if_eq (tgt := 15) hx hb dX2_endCoat_5 (by decide) (fun c_8 => ?_) (fun c_8 => ?_)
  · have hF := ifp hF c_8
    cases hF
    exact hret _ _ _ _ dX2_endCoat_15 hP hD hS
  · have hF := ifn hF c_8
    refine lv_iload_n hx hb dX2_endCoat_8 rfl (lv_at hl 2 rfl) ?_
    obtain ⟨z_9, fz_9, hF⟩ := bd_at hF
    refine callSN_int (As := [.int p2]) (rest := []) ⟨hx, hb, hml, hown, hts⟩ hK hA hZ (c_X5_isSquare l K D C p2 z_9 fz_9) ⟨va_cnB 1 hts gX2_endCoat_X5_isSquare_n60 rfl rfl rfl hZ.nw3 (hts (.initialized RX5) (by decide +kernel)) (by decide +kernel) ⟨Nat.le_of_ble_eq_true rfl, Nat.le_of_ble_eq_true rfl⟩, hts (.static yX5_isSquare) (by decide +kernel), trivial⟩ rfl hl.1 rfl (Nat.le_of_ble_eq_true rfl) ⟨Nat.zero_le _, Nat.zero_le _⟩ hP hS dX2_endCoat_9 (fun H locs hP hS => ?_)
    refine lv_if_ne (tgt := 16) hx hb dX2_endCoat_12 (by decide) (fun c_10 => ?_) (fun c_10 => ?_)
    · have hF := ifn hF c_10
      refine lv_aload_n hx hb dX2_endCoat_16 rfl (lv_at hl 0 rfl) ?_
      refine va_get (D := D) (ci := 2) (v := .ref (a2 4)) (C := RX2) (T := TX2) (N := 12) hx hb hts hiX2 hown hK hP 0 rfl rfl 3 (by decide) (hts (.fieldLink RX2 18 "PanoramaHouse$Paintwork" "coatsDone" "[I") (by decide +kernel)) (fun _ h9 => h9) rfl dX2_endCoat_17 ?_
      refine lv_iload_n hx hb dX2_endCoat_20 rfl (lv_at hl 2 rfl) ?_
      refine lv_dup2_11 hx hb dX2_endCoat_21 rfl rfl ?_
      obtain ⟨h_11, hF⟩ := ix_at hF
      refine va_iald hx hb hK hP 3 0 rfl rfl h_11 dX2_endCoat_22 ?_
      refine lv_iconst (v := 1) hx hb dX2_endCoat_23 (by decide) ?_
      refine lv_iadd hx hb dX2_endCoat_24 ?_
      obtain ⟨h_12, hF⟩ := ix_at hF
      refine va_iast hx hb hK hP hD hS 3 0 rfl rfl h_12 dX2_endCoat_25 (fun H locs hP hD hS => ?_)
      obtain ⟨A2_13, eA2_13, hF⟩ := nm_ex hF
      have hP : va_P D vwCl (wX2 C a2 a4 S2 A2_13) H := by rw [eA2_13]; exact hP
      have hD : va_D A (wX2 C a2 a4 S2 A2_13) := by rw [eA2_13]; exact hD
      refine lv_aload_n hx hb dX2_endCoat_26 rfl (lv_at hl 0 rfl) ?_
      refine va_get (D := D) (ci := 2) (v := .ref (a2 4)) (C := RX2) (T := TX2) (N := 12) hx hb hts hiX2 hown hK hP 0 rfl rfl 3 (by decide) (hts (.fieldLink RX2 18 "PanoramaHouse$Paintwork" "coatsDone" "[I") (by decide +kernel)) (fun _ h9 => h9) rfl dX2_endCoat_27 ?_
      refine lv_iload_n hx hb dX2_endCoat_30 rfl (lv_at hl 2 rfl) ?_
      obtain ⟨h_14, hF⟩ := ix_at hF
      refine va_iald hx hb hK hP 3 0 rfl rfl h_14 dX2_endCoat_31 ?_
      refine lv_iconst (v := 1) hx hb dX2_endCoat_32 (by decide) ?_
      refine lv_icmp_ne (tgt := 49) hx hb dX2_endCoat_33 (by decide) (fun c_15 => ?_) (fun c_15 => ?_)
      · have hF := ifn hF c_15
        refine lv_aload_n hx hb dX2_endCoat_49 rfl (lv_at hl 0 rfl) ?_
        refine va_get (D := D) (ci := 2) (v := .ref (a2 8)) (C := RX2) (T := TX2) (N := 12) hx hb hts hiX2 hown hK hP 0 rfl rfl 7 (by decide) (hts (.fieldLink RX2 30 "PanoramaHouse$Paintwork" "secondDoneOn" "[I") (by decide +kernel)) (fun _ h9 => h9) rfl dX2_endCoat_50 ?_
        refine lv_iload_n hx hb dX2_endCoat_53 rfl (lv_at hl 2 rfl) ?_
        refine lv_aload_n hx hb dX2_endCoat_54 rfl (lv_at hl 0 rfl) ?_
        refine va_get (D := D) (ci := 2) (v := .int (S2 11)) (C := RX2) (T := TX2) (N := 12) hx hb hts hiX2 hown hK hP 0 rfl rfl 11 (by decide) (hts (.fieldLink RX2 43 "PanoramaHouse$Paintwork" "daysGone" "I") (by decide +kernel)) (fun _ h9 => h9) rfl dX2_endCoat_55 ?_
        obtain ⟨h_16, hF⟩ := ix_at hF
        refine va_iast hx hb hK hP hD hS 7 0 rfl rfl h_16 dX2_endCoat_58 (fun H locs hP hD hS => ?_)
        obtain ⟨A2_17, eA2_17, hF⟩ := nm_ex hF
        have hP : va_P D vwCl (wX2 C a2 a4 S2 A2_17) H := by rw [eA2_17]; exact hP
        have hD : va_D A (wX2 C a2 a4 S2 A2_17) := by rw [eA2_17]; exact hD
        exact bJ59 p1 p2 A2_17 hF _ _ _ hP hD hS (lv_sub hl [0, 1, 2] rfl)
      · have hF := ifp hF c_15
        refine lv_aload_n hx hb dX2_endCoat_36 rfl (lv_at hl 0 rfl) ?_
        refine va_get (D := D) (ci := 2) (v := .ref (a2 7)) (C := RX2) (T := TX2) (N := 12) hx hb hts hiX2 hown hK hP 0 rfl rfl 6 (by decide) (hts (.fieldLink RX2 27 "PanoramaHouse$Paintwork" "firstDoneOn" "[I") (by decide +kernel)) (fun _ h9 => h9) rfl dX2_endCoat_37 ?_
        refine lv_iload_n hx hb dX2_endCoat_40 rfl (lv_at hl 2 rfl) ?_
        refine lv_aload_n hx hb dX2_endCoat_41 rfl (lv_at hl 0 rfl) ?_
        refine va_get (D := D) (ci := 2) (v := .int (S2 11)) (C := RX2) (T := TX2) (N := 12) hx hb hts hiX2 hown hK hP 0 rfl rfl 11 (by decide) (hts (.fieldLink RX2 43 "PanoramaHouse$Paintwork" "daysGone" "I") (by decide +kernel)) (fun _ h9 => h9) rfl dX2_endCoat_42 ?_
        obtain ⟨h_18, hF⟩ := ix_at hF
        refine va_iast hx hb hK hP hD hS 6 0 rfl rfl h_18 dX2_endCoat_45 (fun H locs hP hD hS => ?_)
        obtain ⟨A2_19, eA2_19, hF⟩ := nm_ex hF
        have hP : va_P D vwCl (wX2 C a2 a4 S2 A2_19) H := by rw [eA2_19]; exact hP
        have hD : va_D A (wX2 C a2 a4 S2 A2_19) := by rw [eA2_19]; exact hD
        refine lv_goto (tgt := 59) hx hb dX2_endCoat_46 (by decide) ?_
        exact bJ59 p1 p2 A2_19 hF _ _ _ hP hD hS (lv_sub hl [0, 1, 2] rfl)
    · have hF := ifp hF c_10
      cases hF
      exact hret _ _ _ _ dX2_endCoat_15 hP hD hS
abbrev rmX2_workADay : Room := { frames := 3, cells := 0, slots := 0, locals := 75 }
set_option maxRecDepth 100000 in
set_option maxHeartbeats 4000000 in
theorem c_X2_workADay (l : Launch) (K : Kx) (D : va_G) (C : Nat → ClassId) (a2 : Nat → Nat) (S2 : Nat → Int32) (A2 : Nat → Nat → Int32) (a4 : Nat → Nat) (p1 : Int32) (p2 : Int32) (z : (Nat → Nat → Int32)) (hF : F_X2_workADay S2 A2 p1 p2 = some z) : MetV l yX2_workADay wsX2_workADay rmX2_workADay K D (tyV C) (wX2 C a2 a4 S2 A2) [.ref (a2 0), .int p1, .int p2] (wX2 C a2 a4 S2 z) := by
  refine met_void (cc := cX2_workADay) (maxL := 3) (by decide +kernel) rfl (Nat.le_of_ble_eq_true rfl) ?_
  intro p e s m below meth c A Q ls ⟨hx, hb, hml, hown, hts, hK, hA, hZ⟩ hP hD hS hl hret
  have hown : s.vm.findClass RX2 = some m.cls := hown
  have hiX2 : ∀ w ∈ u_ws RX2 TX2 12, w ∈ wsX2_workADay := by decide +kernel
  have hl : lv_has ls 3 [(0, .ref (a2 0)), (1, .int p1), (2, .int p2)] := hl
  unfold F_X2_workADay at hF
  refine lv_aload_n hx hb dX2_workADay_0 rfl (lv_at hl 0 rfl) ?_
  refine lv_iload_n hx hb dX2_workADay_1 rfl (lv_at hl 1 rfl) ?_
  obtain ⟨z_1, fz_1, hF⟩ := bd_at hF
  refine callV_int ([]) ([]) (w' := wX2 C a2 a4 S2 A2) (As := [.int p1]) (rest := []) ⟨hx, hb, hml, hown, hts⟩ hK hA hZ (c_X2_isGang l K D C a2 S2 A2 a4 p1 z_1 fz_1) (cwV 1 hts gX2_workADay_X2_isGang rfl rfl rfl (by decide +kernel) ⟨Nat.le_of_ble_eq_true rfl, Nat.le_of_ble_eq_true rfl⟩) 0 rfl rfl rfl rfl hl.1 rfl (Nat.le_of_ble_eq_true rfl) ⟨Nat.zero_le _, Nat.zero_le _⟩ (by simp only [List.append_assoc, List.append_nil, List.nil_append]) (by simp only [List.append_assoc, List.append_nil, List.nil_append]) hP hD hS dX2_workADay_2 (fun H locs hP hD hS => ?_)
  refine lv_if_eq (tgt := 15) hx hb dX2_workADay_5 (by decide) (fun c_2 => ?_) (fun c_2 => ?_)
  · have hF := ifp hF c_2
    cases hF
    exact hret _ _ _ _ dX2_workADay_15 hP hD hS
  · have hF := ifn hF c_2
    refine lv_iload_n hx hb dX2_workADay_8 rfl (lv_at hl 2 rfl) ?_
    obtain ⟨z_3, fz_3, hF⟩ := bd_at hF
    refine callSN_int (As := [.int p2]) (rest := []) ⟨hx, hb, hml, hown, hts⟩ hK hA hZ (c_X5_isSquare l K D C p2 z_3 fz_3) ⟨va_cnB 1 hts gX2_workADay_X5_isSquare_n60 rfl rfl rfl hZ.nw3 (hts (.initialized RX5) (by decide +kernel)) (by decide +kernel) ⟨Nat.le_of_ble_eq_true rfl, Nat.le_of_ble_eq_true rfl⟩, hts (.static yX5_isSquare) (by decide +kernel), trivial⟩ rfl hl.1 rfl (Nat.le_of_ble_eq_true rfl) ⟨Nat.zero_le _, Nat.zero_le _⟩ hP hS dX2_workADay_9 (fun H locs hP hS => ?_)
    refine lv_if_ne (tgt := 16) hx hb dX2_workADay_12 (by decide) (fun c_4 => ?_) (fun c_4 => ?_)
    · have hF := ifn hF c_4
      refine lv_aload_n hx hb dX2_workADay_16 rfl (lv_at hl 0 rfl) ?_
      refine va_get (D := D) (ci := 2) (v := .ref (a2 6)) (C := RX2) (T := TX2) (N := 12) hx hb hts hiX2 hown hK hP 0 rfl rfl 5 (by decide) (hts (.fieldLink RX2 24 "PanoramaHouse$Paintwork" "workLeft" "[I") (by decide +kernel)) (fun _ h9 => h9) rfl dX2_workADay_17 ?_
      refine lv_iload_n hx hb dX2_workADay_20 rfl (lv_at hl 2 rfl) ?_
      refine lv_aload_n hx hb dX2_workADay_21 rfl (lv_at hl 0 rfl) ?_
      refine va_get (D := D) (ci := 2) (v := .ref (a2 6)) (C := RX2) (T := TX2) (N := 12) hx hb hts hiX2 hown hK hP 0 rfl rfl 5 (by decide) (hts (.fieldLink RX2 24 "PanoramaHouse$Paintwork" "workLeft" "[I") (by decide +kernel)) (fun _ h9 => h9) rfl dX2_workADay_22 ?_
      refine lv_iload_n hx hb dX2_workADay_25 rfl (lv_at hl 2 rfl) ?_
      obtain ⟨h_5, hF⟩ := ix_at hF
      refine va_iald hx hb hK hP 5 0 rfl rfl h_5 dX2_workADay_26 ?_
      refine lv_aload_n hx hb dX2_workADay_27 rfl (lv_at hl 0 rfl) ?_
      refine va_get (D := D) (ci := 2) (v := .ref (a2 2)) (C := RX2) (T := TX2) (N := 12) hx hb hts hiX2 hown hK hP 0 rfl rfl 1 (by decide) (hts (.fieldLink RX2 9 "PanoramaHouse$Paintwork" "skillOf" "[I") (by decide +kernel)) (fun _ h9 => h9) rfl dX2_workADay_28 ?_
      refine lv_iload_n hx hb dX2_workADay_31 rfl (lv_at hl 1 rfl) ?_
      obtain ⟨h_6, hF⟩ := ix_at hF
      refine va_iald hx hb hK hP 1 0 rfl rfl h_6 dX2_workADay_32 ?_
      refine lv_isub hx hb dX2_workADay_33 ?_
      refine lv_iconst (v := 0) hx hb dX2_workADay_34 (by decide) ?_
      refine va_mmax hx hb (hml.trans hl.1.symm) hown (hts (.methodLink RX2 66 Lib.Math.max.name) (by decide +kernel)) (hts (.static Lib.Math.max.name) (by decide +kernel)) (hts (.initialized "java/lang/Math") (by decide +kernel)) (hts (.code Lib.Math.max.name Lib.Math.max.code 2 (some .int)) (by decide +kernel)) (Nat.le_of_ble_eq_true rfl) (Nat.le_of_ble_eq_true rfl) (Nat.zero_le _) (Nat.zero_le _) dX2_workADay_35 ?_
      refine lv_topi (fun v_7 ev_7 => ?_)
      have hF := nm_at hF ev_7
      obtain ⟨h_8, hF⟩ := ix_at hF
      refine va_iast hx hb hK hP hD hS 5 0 rfl rfl h_8 dX2_workADay_38 (fun H locs hP hD hS => ?_)
      obtain ⟨A2_9, eA2_9, hF⟩ := nm_ex hF
      have hP : va_P D vwCl (wX2 C a2 a4 S2 A2_9) H := by rw [eA2_9]; exact hP
      have hD : va_D A (wX2 C a2 a4 S2 A2_9) := by rw [eA2_9]; exact hD
      refine lv_aload_n hx hb dX2_workADay_39 rfl (lv_at hl 0 rfl) ?_
      refine va_get (D := D) (ci := 2) (v := .ref (a2 6)) (C := RX2) (T := TX2) (N := 12) hx hb hts hiX2 hown hK hP 0 rfl rfl 5 (by decide) (hts (.fieldLink RX2 24 "PanoramaHouse$Paintwork" "workLeft" "[I") (by decide +kernel)) (fun _ h9 => h9) rfl dX2_workADay_40 ?_
      refine lv_iload_n hx hb dX2_workADay_43 rfl (lv_at hl 2 rfl) ?_
      obtain ⟨h_10, hF⟩ := ix_at hF
      refine va_iald hx hb hK hP 5 0 rfl rfl h_10 dX2_workADay_44 ?_
      refine lv_if_ne (tgt := 54) hx hb dX2_workADay_45 (by decide) (fun c_11 => ?_) (fun c_11 => ?_)
      · have hF := ifn hF c_11
        cases hF
        exact hret _ _ _ _ dX2_workADay_54 hP hD hS
      · have hF := ifp hF c_11
        refine lv_aload_n hx hb dX2_workADay_48 rfl (lv_at hl 0 rfl) ?_
        refine lv_iload_n hx hb dX2_workADay_49 rfl (lv_at hl 1 rfl) ?_
        refine lv_iload_n hx hb dX2_workADay_50 rfl (lv_at hl 2 rfl) ?_
        obtain ⟨z_12, fz_12, hF⟩ := bd_at hF
        refine callV_void ([]) ([]) (w' := wX2 C a2 a4 S2 z_12) (As := [.int p1, .int p2]) (rest := []) ⟨hx, hb, hml, hown, hts⟩ hK hA hZ (c_X2_endCoat l K D C a2 S2 A2_9 a4 p1 p2 z_12 fz_12) (cwV 2 hts gX2_workADay_X2_endCoat rfl rfl rfl (by decide +kernel) ⟨Nat.le_of_ble_eq_true rfl, Nat.le_of_ble_eq_true rfl⟩) 0 rfl rfl rfl rfl hl.1 rfl (Nat.le_of_ble_eq_true rfl) ⟨Nat.zero_le _, Nat.zero_le _⟩ (by simp only [List.append_assoc, List.append_nil, List.nil_append]) (by simp only [List.append_assoc, List.append_nil, List.nil_append]) hP hD hS dX2_workADay_51 (fun H locs hP hD hS => ?_)
        cases hF
        exact hret _ _ _ _ dX2_workADay_54 hP hD hS
    · have hF := ifp hF c_4
      cases hF
      exact hret _ _ _ _ dX2_workADay_15 hP hD hS
abbrev rmX2_passDay : Room := { frames := 4, cells := 0, slots := 0, locals := 97 }
set_option maxRecDepth 100000 in
set_option maxHeartbeats 4000000 in
theorem c_X2_passDay (l : Launch) (K : Kx) (D : va_G) (C : Nat → ClassId) (a2 : Nat → Nat) (S2 : Nat → Int32) (A2 : Nat → Nat → Int32) (a4 : Nat → Nat) (z : Int32 × (Nat → Int32) × (Nat → Nat → Int32)) (hF : F_X2_passDay S2 A2 = some z) : MetI l yX2_passDay wsX2_passDay rmX2_passDay K D (tyV C) (wX2 C a2 a4 S2 A2) [.ref (a2 0)] (wX2 C a2 a4 z.2.1 z.2.2) z.1 := by
  refine met_int (cc := cX2_passDay) (maxL := 2) (ty := .int) (by decide +kernel) rfl (Nat.le_of_ble_eq_true rfl) ?_
  intro p e s m below meth c A Q ls ⟨hx, hb, hml, hown, hts, hK, hA, hZ⟩ hP hD hS hl hret
  have hown : s.vm.findClass RX2 = some m.cls := hown
  have hiX2 : ∀ w ∈ u_ws RX2 TX2 12, w ∈ wsX2_passDay := by decide +kernel
  have hl : lv_has ls 2 [(0, .ref (a2 0))] := hl
  unfold F_X2_passDay at hF
  obtain ⟨J37, eJ37, hF⟩ := nm_ex hF
  have bJ37 : ∀ (S2 : Nat → Int32) (A2 : Nat → Nat → Int32), J37 S2 A2 = some z → ∀ (H : Heap) (locs : List Loc) (ls : Array Slot), va_P D vwCl (wX2 C a2 a4 S2 A2) H → va_D A (wX2 C a2 a4 S2 A2) → va_S A s.heap H locs → lv_has ls 2 [(0, .ref (a2 0))] → W p l e rmX2_passDay s m ([.ref (a2 0)] : List Value).toArray below meth c H locs 0 0 Q (F0 m 37 ls []) := by
    intro S2 A2 hF H locs ls hP hD hS hl
    rw [eJ37] at hF
    refine lv_aload_n hx hb dX2_passDay_37 rfl (lv_at hl 0 rfl) ?_
    refine lv_dup hx hb dX2_passDay_38 rfl ?_
    refine va_get (D := D) (ci := 2) (v := .int (S2 11)) (C := RX2) (T := TX2) (N := 12) hx hb hts hiX2 hown hK hP 0 rfl rfl 11 (by decide) (hts (.fieldLink RX2 43 "PanoramaHouse$Paintwork" "daysGone" "I") (by decide +kernel)) (fun _ h9 => h9) rfl dX2_passDay_39 ?_
    refine lv_iconst (v := 1) hx hb dX2_passDay_42 (by decide) ?_
    refine lv_iadd hx hb dX2_passDay_43 ?_
    refine va_put (D := D) (ci := 2) (v := .int ((S2 11) + 1)) (ty := .int) (C := RX2) (T := TX2) (N := 12) hx hb hts hiX2 tyX2 tyX2_ok nmX2 hown hK hP hD hS 0 rfl rfl 11 (by decide) (hts (.fieldLink RX2 43 "PanoramaHouse$Paintwork" "daysGone" "I") (by decide +kernel)) (fun _ h9 => h9) rfl (by decide +kernel) rfl rfl (Nat.le_of_ble_eq_true rfl) dX2_passDay_44 (fun H locs hP hD hS => ?_)
    obtain ⟨S2_1, eS2_1, hF⟩ := nm_ex hF
    have hP : va_P D vwCl (wX2 C a2 a4 S2_1 A2) H := by rw [eS2_1]; exact hP
    have hD : va_D A (wX2 C a2 a4 S2_1 A2) := by rw [eS2_1]; exact hD
    refine lv_aload_n hx hb dX2_passDay_47 rfl (lv_at hl 0 rfl) ?_
    refine va_get (D := D) (ci := 2) (v := .int (S2_1 11)) (C := RX2) (T := TX2) (N := 12) hx hb hts hiX2 hown hK hP 0 rfl rfl 11 (by decide) (hts (.fieldLink RX2 43 "PanoramaHouse$Paintwork" "daysGone" "I") (by decide +kernel)) (fun _ h9 => h9) rfl dX2_passDay_48 ?_
    cases hF
    exact hret _ _ _ _ dX2_passDay_51 rfl hP hD hS
  have bL14 : ∀ (n : Nat) (x1 : Int32) (S2 : Nat → Int32) (A2 : Nat → Nat → Int32), L_X2_passDay_14 J37 n x1 S2 A2 = some z → ∀ (H : Heap) (locs : List Loc) (ls : Array Slot), va_P D vwCl (wX2 C a2 a4 S2 A2) H → va_D A (wX2 C a2 a4 S2 A2) → va_S A s.heap H locs → lv_has ls 2 [(0, .ref (a2 0)), (1, .int x1)] → W p l e rmX2_passDay s m ([.ref (a2 0)] : List Value).toArray below meth c H locs 0 0 Q (F0 m 14 ls []) := by
    intro n
    induction n with
    | zero => intro x1 S2 A2 hF; rw [L_X2_passDay_14.eq_1] at hF; cases hF
    | succ n ih14 =>
      intro x1 S2 A2 hF H locs ls hP hD hS hl
      rw [L_X2_passDay_14.eq_2] at hF
      refine lv_iload_n hx hb dX2_passDay_14 rfl (lv_at hl 1 rfl) ?_
      refine lv_bipush (v := 6) hx hb dX2_passDay_15 (by decide) ?_
      refine lv_icmp_ge (tgt := 37) hx hb dX2_passDay_17 (by decide) (fun c_2 => ?_) (fun c_2 => ?_)
      · have hF := ifp hF c_2
        exact bJ37 S2 A2 hF _ _ _ hP hD hS (lv_sub hl [0] rfl)
      · have hF := ifn hF c_2
        refine lv_aload_n hx hb dX2_passDay_20 rfl (lv_at hl 0 rfl) ?_
        refine lv_iload_n hx hb dX2_passDay_21 rfl (lv_at hl 1 rfl) ?_
        refine lv_aload_n hx hb dX2_passDay_22 rfl (lv_at hl 0 rfl) ?_
        refine va_get (D := D) (ci := 2) (v := .ref (a2 3)) (C := RX2) (T := TX2) (N := 12) hx hb hts hiX2 hown hK hP 0 rfl rfl 2 (by decide) (hts (.fieldLink RX2 15 "PanoramaHouse$Paintwork" "squareOfGang" "[I") (by decide +kernel)) (fun _ h9 => h9) rfl dX2_passDay_23 ?_
        refine lv_iload_n hx hb dX2_passDay_26 rfl (lv_at hl 1 rfl) ?_
        obtain ⟨h_3, hF⟩ := ix_at hF
        refine va_iald hx hb hK hP 2 0 rfl rfl h_3 dX2_passDay_27 ?_
        obtain ⟨z_4, fz_4, hF⟩ := bd_at hF
        refine callV_void ([]) ([]) (w' := wX2 C a2 a4 S2 z_4) (As := [.int x1, .int (A2 2 (x1).toNatClampNeg)]) (rest := []) ⟨hx, hb, hml, hown, hts⟩ hK hA hZ (c_X2_workADay l K D C a2 S2 A2 a4 x1 (A2 2 (x1).toNatClampNeg) z_4 fz_4) (cwV 2 hts gX2_passDay_X2_workADay rfl rfl rfl (by decide +kernel) ⟨Nat.le_of_ble_eq_true rfl, Nat.le_of_ble_eq_true rfl⟩) 0 rfl rfl rfl rfl hl.1 rfl (Nat.le_of_ble_eq_true rfl) ⟨Nat.zero_le _, Nat.zero_le _⟩ (by simp only [List.append_assoc, List.append_nil, List.nil_append]) (by simp only [List.append_assoc, List.append_nil, List.nil_append]) hP hD hS dX2_passDay_28 (fun H locs hP hD hS => ?_)
        obtain ⟨v_5, ev_5⟩ : ∃ y : Int32, y = x1 + 1 := ⟨_, rfl⟩
        have hF := nm_at hF ev_5
        refine lv_iinc (v := v_5) (lv' := [(1, .int v_5), (0, .ref (a2 0))]) hx hb dX2_passDay_31 hl (k := 1) rfl (by rw [ev_5]; rfl) (by decide) rfl (fun ls hl => ?_)
        refine lv_goto (tgt := 14) hx hb dX2_passDay_34 (by decide) ?_
        exact ih14 v_5 S2 z_4 hF _ _ _ hP hD hS (lv_sub hl [1, 0] rfl)
  refine lv_aload_n hx hb dX2_passDay_0 rfl (lv_at hl 0 rfl) ?_
  refine va_get (D := D) (ci := 2) (v := .int (S2 11)) (C := RX2) (T := TX2) (N := 12) hx hb hts hiX2 hown hK hP 0 rfl rfl 11 (by decide) (hts (.fieldLink RX2 43 "PanoramaHouse$Paintwork" "daysGone" "I") (by decide +kernel)) (fun _ h9 => h9) rfl dX2_passDay_1 ?_
  refine lv_sipush (v := 1000) hx hb dX2_passDay_4 (by decide) ?_
  refine lv_icmp_lt (tgt := 12) hx hb dX2_passDay_7 (by decide) (fun c_6 => ?_) (fun c_6 => ?_)
  · have hF := ifp hF c_6
    refine lv_iconst (v := 0) hx hb dX2_passDay_12 (by decide) ?_
    refine lv_istore_n (lv' := [(1, .int 0), (0, .ref (a2 0))]) hx hb dX2_passDay_13 rfl hl (by decide) rfl (fun ls hl => ?_)
    exact bL14 FU 0 S2 A2 hF _ _ _ hP hD hS (lv_sub hl [1, 0] rfl)
  · have hF := ifn hF c_6
    refine lv_iconst (v := -1) hx hb dX2_passDay_10 (by decide) ?_
    cases hF
    exact hret _ _ _ _ dX2_passDay_11 rfl hP hD hS
abbrev rmX2_tellSquare : Room := { frames := 4, cells := 0, slots := 0, locals := 94 }
set_option maxRecDepth 100000 in
set_option maxHeartbeats 4000000 in
theorem c_X2_tellSquare (l : Launch) (K : Kx) (D : va_G) (C : Nat → ClassId) (a2 : Nat → Nat) (S2 : Nat → Int32) (A2 : Nat → Nat → Int32) (a4 : Nat → Nat) (A4 : Nat → Nat → Int32) (p1 : Int32) (p2 : Int32) (z : Int32) (hF : F_X2_tellSquare A2 A4 p1 p2 = some z) : MetI l yX2_tellSquare wsX2_tellSquare rmX2_tellSquare K D (tyV C) (wX2 C a2 a4 S2 A2 ++ wX4 C a4 A4) [.ref (a2 0), .int p1, .int p2] (wX2 C a2 a4 S2 A2 ++ wX4 C a4 A4) z := by
  refine met_int (cc := cX2_tellSquare) (maxL := 3) (ty := .int) (by decide +kernel) rfl (Nat.le_of_ble_eq_true rfl) ?_
  intro p e s m below meth c A Q ls ⟨hx, hb, hml, hown, hts, hK, hA, hZ⟩ hP hD hS hl hret
  have hown : s.vm.findClass RX2 = some m.cls := hown
  have hiX2 : ∀ w ∈ u_ws RX2 TX2 12, w ∈ wsX2_tellSquare := by decide +kernel
  have hl : lv_has ls 3 [(0, .ref (a2 0)), (1, .int p1), (2, .int p2)] := hl
  unfold F_X2_tellSquare at hF
  refine lv_iload_n hx hb dX2_tellSquare_0 rfl (lv_at hl 1 rfl) ?_
  obtain ⟨z_1, fz_1, hF⟩ := bd_at hF
  refine callSN_int (As := [.int p1]) (rest := []) ⟨hx, hb, hml, hown, hts⟩ hK hA hZ (c_X5_isSquare l K D C p1 z_1 fz_1) ⟨va_cnB 1 hts gX2_tellSquare_X5_isSquare_n60 rfl rfl rfl hZ.nw3 (hts (.initialized RX5) (by decide +kernel)) (by decide +kernel) ⟨Nat.le_of_ble_eq_true rfl, Nat.le_of_ble_eq_true rfl⟩, hts (.static yX5_isSquare) (by decide +kernel), trivial⟩ rfl hl.1 rfl (Nat.le_of_ble_eq_true rfl) ⟨Nat.zero_le _, Nat.zero_le _⟩ hP hS dX2_tellSquare_1 (fun H locs hP hS => ?_)
  refine lv_if_ne (tgt := 9) hx hb dX2_tellSquare_4 (by decide) (fun c_2 => ?_) (fun c_2 => ?_)
  · have hF := ifn hF c_2
    refine lv_iload_n hx hb dX2_tellSquare_9 rfl (lv_at hl 2 rfl) ?_
    rcases Decidable.em (p2 = 0) with c_3 | c_3
    · have hF := ifp hF c_3
      refine lv_tableIn (tgt := 52) hx hb dX2_tellSquare_10 (by rw [c_3]; decide) (by rw [c_3]; decide) (by rw [c_3]; rfl) (by decide) ?_
      refine lv_aload_n hx hb dX2_tellSquare_52 rfl (lv_at hl 0 rfl) ?_
      refine lv_iload_n hx hb dX2_tellSquare_53 rfl (lv_at hl 1 rfl) ?_
      obtain ⟨z_4, fz_4, hF⟩ := bd_at hF
      refine callV_int ([]) ([]) (w' := wX2 C a2 a4 S2 A2 ++ wX4 C a4 A4) (As := [.int p1]) (rest := []) ⟨hx, hb, hml, hown, hts⟩ hK hA hZ (c_X2_firstCoatWork l K D C a2 S2 A2 a4 A4 p1 z_4 fz_4) (cwV 1 hts gX2_tellSquare_X2_firstCoatWork rfl rfl rfl (by decide +kernel) ⟨Nat.le_of_ble_eq_true rfl, Nat.le_of_ble_eq_true rfl⟩) 0 rfl rfl rfl rfl hl.1 rfl (Nat.le_of_ble_eq_true rfl) ⟨Nat.zero_le _, Nat.zero_le _⟩ (by simp only [List.append_assoc, List.append_nil, List.nil_append]) (by simp only [List.append_assoc, List.append_nil, List.nil_append]) hP hD hS dX2_tellSquare_54 (fun H locs hP hD hS => ?_)
      cases hF
      exact hret _ _ _ _ dX2_tellSquare_57 rfl hP hD hS
    · have hF := ifn hF c_3
      rcases Decidable.em (p2 = 1) with c_5 | c_5
      · have hF := ifp hF c_5
        refine lv_tableIn (tgt := 58) hx hb dX2_tellSquare_10 (by rw [c_5]; decide) (by rw [c_5]; decide) (by rw [c_5]; rfl) (by decide) ?_
        refine lv_aload_n hx hb dX2_tellSquare_58 rfl (lv_at hl 0 rfl) ?_
        refine va_get (D := D) (ci := 2) (v := .ref (a2 4)) (C := RX2) (T := TX2) (N := 12) hx hb hts hiX2 hown hK hP 0 rfl rfl 3 (by decide) (hts (.fieldLink RX2 18 "PanoramaHouse$Paintwork" "coatsDone" "[I") (by decide +kernel)) (fun _ h9 => h9) rfl dX2_tellSquare_59 ?_
        refine lv_iload_n hx hb dX2_tellSquare_62 rfl (lv_at hl 1 rfl) ?_
        obtain ⟨h_6, hF⟩ := ix_at hF
        refine va_iald hx hb hK hP 3 0 rfl rfl h_6 dX2_tellSquare_63 ?_
        cases hF
        exact hret _ _ _ _ dX2_tellSquare_64 rfl hP hD hS
      · have hF := ifn hF c_5
        rcases Decidable.em (p2 = 2) with c_7 | c_7
        · have hF := ifp hF c_7
          refine lv_tableIn (tgt := 65) hx hb dX2_tellSquare_10 (by rw [c_7]; decide) (by rw [c_7]; decide) (by rw [c_7]; rfl) (by decide) ?_
          refine lv_aload_n hx hb dX2_tellSquare_65 rfl (lv_at hl 0 rfl) ?_
          refine va_get (D := D) (ci := 2) (v := .ref (a2 5)) (C := RX2) (T := TX2) (N := 12) hx hb hts hiX2 hown hK hP 0 rfl rfl 4 (by decide) (hts (.fieldLink RX2 21 "PanoramaHouse$Paintwork" "gangOn" "[I") (by decide +kernel)) (fun _ h9 => h9) rfl dX2_tellSquare_66 ?_
          refine lv_iload_n hx hb dX2_tellSquare_69 rfl (lv_at hl 1 rfl) ?_
          obtain ⟨h_8, hF⟩ := ix_at hF
          refine va_iald hx hb hK hP 4 0 rfl rfl h_8 dX2_tellSquare_70 ?_
          cases hF
          exact hret _ _ _ _ dX2_tellSquare_71 rfl hP hD hS
        · have hF := ifn hF c_7
          rcases Decidable.em (p2 = 3) with c_9 | c_9
          · have hF := ifp hF c_9
            refine lv_tableIn (tgt := 72) hx hb dX2_tellSquare_10 (by rw [c_9]; decide) (by rw [c_9]; decide) (by rw [c_9]; rfl) (by decide) ?_
            refine lv_aload_n hx hb dX2_tellSquare_72 rfl (lv_at hl 0 rfl) ?_
            refine va_get (D := D) (ci := 2) (v := .ref (a2 6)) (C := RX2) (T := TX2) (N := 12) hx hb hts hiX2 hown hK hP 0 rfl rfl 5 (by decide) (hts (.fieldLink RX2 24 "PanoramaHouse$Paintwork" "workLeft" "[I") (by decide +kernel)) (fun _ h9 => h9) rfl dX2_tellSquare_73 ?_
            refine lv_iload_n hx hb dX2_tellSquare_76 rfl (lv_at hl 1 rfl) ?_
            obtain ⟨h_10, hF⟩ := ix_at hF
            refine va_iald hx hb hK hP 5 0 rfl rfl h_10 dX2_tellSquare_77 ?_
            cases hF
            exact hret _ _ _ _ dX2_tellSquare_78 rfl hP hD hS
          · have hF := ifn hF c_9
            rcases Decidable.em (p2 = 4) with c_11 | c_11
            · have hF := ifp hF c_11
              refine lv_tableIn (tgt := 79) hx hb dX2_tellSquare_10 (by rw [c_11]; decide) (by rw [c_11]; decide) (by rw [c_11]; rfl) (by decide) ?_
              refine lv_aload_n hx hb dX2_tellSquare_79 rfl (lv_at hl 0 rfl) ?_
              refine va_get (D := D) (ci := 2) (v := .ref (a2 7)) (C := RX2) (T := TX2) (N := 12) hx hb hts hiX2 hown hK hP 0 rfl rfl 6 (by decide) (hts (.fieldLink RX2 27 "PanoramaHouse$Paintwork" "firstDoneOn" "[I") (by decide +kernel)) (fun _ h9 => h9) rfl dX2_tellSquare_80 ?_
              refine lv_iload_n hx hb dX2_tellSquare_83 rfl (lv_at hl 1 rfl) ?_
              obtain ⟨h_12, hF⟩ := ix_at hF
              refine va_iald hx hb hK hP 6 0 rfl rfl h_12 dX2_tellSquare_84 ?_
              cases hF
              exact hret _ _ _ _ dX2_tellSquare_85 rfl hP hD hS
            · have hF := ifn hF c_11
              rcases Decidable.em (p2 = 5) with c_13 | c_13
              · have hF := ifp hF c_13
                refine lv_tableIn (tgt := 86) hx hb dX2_tellSquare_10 (by rw [c_13]; decide) (by rw [c_13]; decide) (by rw [c_13]; rfl) (by decide) ?_
                refine lv_aload_n hx hb dX2_tellSquare_86 rfl (lv_at hl 0 rfl) ?_
                refine va_get (D := D) (ci := 2) (v := .ref (a2 8)) (C := RX2) (T := TX2) (N := 12) hx hb hts hiX2 hown hK hP 0 rfl rfl 7 (by decide) (hts (.fieldLink RX2 30 "PanoramaHouse$Paintwork" "secondDoneOn" "[I") (by decide +kernel)) (fun _ h9 => h9) rfl dX2_tellSquare_87 ?_
                refine lv_iload_n hx hb dX2_tellSquare_90 rfl (lv_at hl 1 rfl) ?_
                obtain ⟨h_14, hF⟩ := ix_at hF
                refine va_iald hx hb hK hP 7 0 rfl rfl h_14 dX2_tellSquare_91 ?_
                cases hF
                exact hret _ _ _ _ dX2_tellSquare_92 rfl hP hD hS
              · have hF := ifn hF c_13
                rcases Decidable.em (p2 = 6) with c_15 | c_15
                · have hF := ifp hF c_15
                  refine lv_tableIn (tgt := 93) hx hb dX2_tellSquare_10 (by rw [c_15]; decide) (by rw [c_15]; decide) (by rw [c_15]; rfl) (by decide) ?_
                  refine lv_aload_n hx hb dX2_tellSquare_93 rfl (lv_at hl 0 rfl) ?_
                  refine va_get (D := D) (ci := 2) (v := .ref (a2 9)) (C := RX2) (T := TX2) (N := 12) hx hb hts hiX2 hown hK hP 0 rfl rfl 8 (by decide) (hts (.fieldLink RX2 33 "PanoramaHouse$Paintwork" "lastGang" "[I") (by decide +kernel)) (fun _ h9 => h9) rfl dX2_tellSquare_94 ?_
                  refine lv_iload_n hx hb dX2_tellSquare_97 rfl (lv_at hl 1 rfl) ?_
                  obtain ⟨h_16, hF⟩ := ix_at hF
                  refine va_iald hx hb hK hP 8 0 rfl rfl h_16 dX2_tellSquare_98 ?_
                  cases hF
                  exact hret _ _ _ _ dX2_tellSquare_99 rfl hP hD hS
                · have hF := ifn hF c_15
                  have ic_3 : (p2).toInt ≠ 0 := fun h => c_3 (Int32.toInt_inj.mp (h.trans (by decide)))
                  have ic_5 : (p2).toInt ≠ 1 := fun h => c_5 (Int32.toInt_inj.mp (h.trans (by decide)))
                  have ic_7 : (p2).toInt ≠ 2 := fun h => c_7 (Int32.toInt_inj.mp (h.trans (by decide)))
                  have ic_9 : (p2).toInt ≠ 3 := fun h => c_9 (Int32.toInt_inj.mp (h.trans (by decide)))
                  have ic_11 : (p2).toInt ≠ 4 := fun h => c_11 (Int32.toInt_inj.mp (h.trans (by decide)))
                  have ic_13 : (p2).toInt ≠ 5 := fun h => c_13 (Int32.toInt_inj.mp (h.trans (by decide)))
                  have ic_15 : (p2).toInt ≠ 6 := fun h => c_15 (Int32.toInt_inj.mp (h.trans (by decide)))
                  refine lv_tableOut (tgt := 100) hx hb dX2_tellSquare_10 (by omega) (by decide) ?_
                  refine lv_iconst (v := -1) hx hb dX2_tellSquare_100 (by decide) ?_
                  cases hF
                  exact hret _ _ _ _ dX2_tellSquare_101 rfl hP hD hS
  · have hF := ifp hF c_2
    refine lv_iconst (v := -1) hx hb dX2_tellSquare_7 (by decide) ?_
    cases hF
    exact hret _ _ _ _ dX2_tellSquare_8 rfl hP hD hS
abbrev rmX2_daysOf : Room := { frames := 1, cells := 0, slots := 0, locals := 32 }
set_option maxRecDepth 100000 in
set_option maxHeartbeats 4000000 in
theorem c_X2_daysOf (l : Launch) (K : Kx) (D : va_G) (C : Nat → ClassId) (a2 : Nat → Nat) (S2 : Nat → Int32) (A2 : Nat → Nat → Int32) (a4 : Nat → Nat) (p1 : Int32) (z : Int32) (hF : F_X2_daysOf A2 p1 = some z) : MetI l yX2_daysOf wsX2_daysOf rmX2_daysOf K D (tyV C) (wX2 C a2 a4 S2 A2) [.ref (a2 0), .int p1] (wX2 C a2 a4 S2 A2) z := by
  refine met_int (cc := cX2_daysOf) (maxL := 2) (ty := .int) (by decide +kernel) rfl (Nat.le_of_ble_eq_true rfl) ?_
  intro p e s m below meth c A Q ls ⟨hx, hb, hml, hown, hts, hK, hA, hZ⟩ hP hD hS hl hret
  have hown : s.vm.findClass RX2 = some m.cls := hown
  have hiX2 : ∀ w ∈ u_ws RX2 TX2 12, w ∈ wsX2_daysOf := by decide +kernel
  have hl : lv_has ls 2 [(0, .ref (a2 0)), (1, .int p1)] := hl
  unfold F_X2_daysOf at hF
  refine lv_iload_n hx hb dX2_daysOf_0 rfl (lv_at hl 1 rfl) ?_
  refine lv_if_lt (tgt := 19) hx hb dX2_daysOf_1 (by decide) (fun c_1 => ?_) (fun c_1 => ?_)
  · have hF := ifp hF c_1
    refine lv_iconst (v := 0) hx hb dX2_daysOf_19 (by decide) ?_
    cases hF
    exact hret _ _ _ _ dX2_daysOf_20 rfl hP hD hS
  · have hF := ifn hF c_1
    refine lv_iload_n hx hb dX2_daysOf_4 rfl (lv_at hl 1 rfl) ?_
    refine lv_iconst (v := 3) hx hb dX2_daysOf_5 (by decide) ?_
    refine lv_icmp_ge (tgt := 19) hx hb dX2_daysOf_6 (by decide) (fun c_2 => ?_) (fun c_2 => ?_)
    · have hF := ifp hF c_2
      refine lv_iconst (v := 0) hx hb dX2_daysOf_19 (by decide) ?_
      cases hF
      exact hret _ _ _ _ dX2_daysOf_20 rfl hP hD hS
    · have hF := ifn hF c_2
      refine lv_aload_n hx hb dX2_daysOf_9 rfl (lv_at hl 0 rfl) ?_
      refine va_get (D := D) (ci := 2) (v := .ref (a2 2)) (C := RX2) (T := TX2) (N := 12) hx hb hts hiX2 hown hK hP 0 rfl rfl 1 (by decide) (hts (.fieldLink RX2 9 "PanoramaHouse$Paintwork" "skillOf" "[I") (by decide +kernel)) (fun _ h9 => h9) rfl dX2_daysOf_10 ?_
      refine lv_iload_n hx hb dX2_daysOf_13 rfl (lv_at hl 1 rfl) ?_
      obtain ⟨h_3, hF⟩ := ix_at hF
      refine va_iald hx hb hK hP 1 0 rfl rfl h_3 dX2_daysOf_14 ?_
      refine lv_iconst (v := 1) hx hb dX2_daysOf_15 (by decide) ?_
      refine lv_icmp_ge (tgt := 21) hx hb dX2_daysOf_16 (by decide) (fun c_4 => ?_) (fun c_4 => ?_)
      · have hF := ifp hF c_4
        refine lv_aload_n hx hb dX2_daysOf_21 rfl (lv_at hl 0 rfl) ?_
        refine va_get (D := D) (ci := 2) (v := .ref (a2 10)) (C := RX2) (T := TX2) (N := 12) hx hb hts hiX2 hown hK hP 0 rfl rfl 9 (by decide) (hts (.fieldLink RX2 36 "PanoramaHouse$Paintwork" "workGiven" "[I") (by decide +kernel)) (fun _ h9 => h9) rfl dX2_daysOf_22 ?_
        refine lv_iload_n hx hb dX2_daysOf_25 rfl (lv_at hl 1 rfl) ?_
        obtain ⟨h_5, hF⟩ := ix_at hF
        refine va_iald hx hb hK hP 9 0 rfl rfl h_5 dX2_daysOf_26 ?_
        refine lv_aload_n hx hb dX2_daysOf_27 rfl (lv_at hl 0 rfl) ?_
        refine va_get (D := D) (ci := 2) (v := .ref (a2 2)) (C := RX2) (T := TX2) (N := 12) hx hb hts hiX2 hown hK hP 0 rfl rfl 1 (by decide) (hts (.fieldLink RX2 9 "PanoramaHouse$Paintwork" "skillOf" "[I") (by decide +kernel)) (fun _ h9 => h9) rfl dX2_daysOf_28 ?_
        refine lv_iload_n hx hb dX2_daysOf_31 rfl (lv_at hl 1 rfl) ?_
        obtain ⟨h_6, hF⟩ := ix_at hF
        refine va_iald hx hb hK hP 1 0 rfl rfl h_6 dX2_daysOf_32 ?_
        refine lv_iadd hx hb dX2_daysOf_33 ?_
        refine lv_iconst (v := 1) hx hb dX2_daysOf_34 (by decide) ?_
        refine lv_isub hx hb dX2_daysOf_35 ?_
        refine lv_aload_n hx hb dX2_daysOf_36 rfl (lv_at hl 0 rfl) ?_
        refine va_get (D := D) (ci := 2) (v := .ref (a2 2)) (C := RX2) (T := TX2) (N := 12) hx hb hts hiX2 hown hK hP 0 rfl rfl 1 (by decide) (hts (.fieldLink RX2 9 "PanoramaHouse$Paintwork" "skillOf" "[I") (by decide +kernel)) (fun _ h9 => h9) rfl dX2_daysOf_37 ?_
        refine lv_iload_n hx hb dX2_daysOf_40 rfl (lv_at hl 1 rfl) ?_
        obtain ⟨h_7, hF⟩ := ix_at hF
        refine va_iald hx hb hK hP 1 0 rfl rfl h_7 dX2_daysOf_41 ?_
        obtain ⟨n_8, hF⟩ := nz_at hF
        refine lv_idiv hx hb dX2_daysOf_42 n_8 ?_
        cases hF
        exact hret _ _ _ _ dX2_daysOf_43 rfl hP hD hS
      · have hF := ifn hF c_4
        refine lv_iconst (v := 0) hx hb dX2_daysOf_19 (by decide) ?_
        cases hF
        exact hret _ _ _ _ dX2_daysOf_20 rfl hP hD hS
abbrev rmX2_mostDays : Room := { frames := 2, cells := 0, slots := 0, locals := 53 }
set_option maxRecDepth 100000 in
set_option maxHeartbeats 4000000 in
theorem c_X2_mostDays (l : Launch) (K : Kx) (D : va_G) (C : Nat → ClassId) (a2 : Nat → Nat) (S2 : Nat → Int32) (A2 : Nat → Nat → Int32) (a4 : Nat → Nat) (p1 : Int32) (z : Int32) (hF : F_X2_mostDays A2 p1 = some z) : MetI l yX2_mostDays wsX2_mostDays rmX2_mostDays K D (tyV C) (wX2 C a2 a4 S2 A2) [.ref (a2 0), .int p1] (wX2 C a2 a4 S2 A2) z := by
  refine met_int (cc := cX2_mostDays) (maxL := 4) (ty := .int) (by decide +kernel) rfl (Nat.le_of_ble_eq_true rfl) ?_
  intro p e s m below meth c A Q ls ⟨hx, hb, hml, hown, hts, hK, hA, hZ⟩ hP hD hS hl hret
  have hown : s.vm.findClass RX2 = some m.cls := hown
  have hl : lv_has ls 4 [(0, .ref (a2 0)), (1, .int p1)] := hl
  unfold F_X2_mostDays at hF
  obtain ⟨J25, eJ25, hF⟩ := nm_ex hF
  have bJ25 : ∀ (x2 : Int32), J25 x2 = some z → ∀ (H : Heap) (locs : List Loc) (ls : Array Slot), va_P D vwCl (wX2 C a2 a4 S2 A2) H → va_D A (wX2 C a2 a4 S2 A2) → va_S A s.heap H locs → lv_has ls 4 [(2, .int x2)] → W p l e rmX2_mostDays s m ([.ref (a2 0), .int p1] : List Value).toArray below meth c H locs 0 0 Q (F0 m 25 ls []) := by
    intro x2 hF H locs ls hP hD hS hl
    rw [eJ25] at hF
    refine lv_iload_n hx hb dX2_mostDays_25 rfl (lv_at hl 0 rfl) ?_
    cases hF
    exact hret _ _ _ _ dX2_mostDays_26 rfl hP hD hS
  have bL4 : ∀ (n : Nat) (x1 : Int32) (x2 : Int32) (x3 : Int32), L_X2_mostDays_4 A2 J25 n x1 x2 x3 = some z → ∀ (H : Heap) (locs : List Loc) (ls : Array Slot), va_P D vwCl (wX2 C a2 a4 S2 A2) H → va_D A (wX2 C a2 a4 S2 A2) → va_S A s.heap H locs → lv_has ls 4 [(0, .ref (a2 0)), (1, .int x1), (2, .int x2), (3, .int x3)] → W p l e rmX2_mostDays s m ([.ref (a2 0), .int p1] : List Value).toArray below meth c H locs 0 0 Q (F0 m 4 ls []) := by
    intro n
    induction n with
    | zero => intro x1 x2 x3 hF; rw [L_X2_mostDays_4.eq_1] at hF; cases hF
    | succ n ih4 =>
      intro x1 x2 x3 hF H locs ls hP hD hS hl
      rw [L_X2_mostDays_4.eq_2] at hF
      refine lv_iload_n hx hb dX2_mostDays_4 rfl (lv_at hl 3 rfl) ?_
      refine lv_iload_n hx hb dX2_mostDays_5 rfl (lv_at hl 1 rfl) ?_
      refine lv_icmp_ge (tgt := 25) hx hb dX2_mostDays_6 (by decide) (fun c_1 => ?_) (fun c_1 => ?_)
      · have hF := ifp hF c_1
        exact bJ25 x2 hF _ _ _ hP hD hS (lv_sub hl [2] rfl)
      · have hF := ifn hF c_1
        refine lv_iload_n hx hb dX2_mostDays_9 rfl (lv_at hl 2 rfl) ?_
        refine lv_aload_n hx hb dX2_mostDays_10 rfl (lv_at hl 0 rfl) ?_
        refine lv_iload_n hx hb dX2_mostDays_11 rfl (lv_at hl 3 rfl) ?_
        obtain ⟨z_2, fz_2, hF⟩ := bd_at hF
        refine callV_int ([]) ([]) (w' := wX2 C a2 a4 S2 A2) (As := [.int x3]) (rest := [.int x2]) ⟨hx, hb, hml, hown, hts⟩ hK hA hZ (c_X2_daysOf l K D C a2 S2 A2 a4 x3 z_2 fz_2) (cwV 1 hts gX2_mostDays_X2_daysOf rfl rfl rfl (by decide +kernel) ⟨Nat.le_of_ble_eq_true rfl, Nat.le_of_ble_eq_true rfl⟩) 0 rfl rfl rfl rfl hl.1 rfl (Nat.le_of_ble_eq_true rfl) ⟨Nat.zero_le _, Nat.zero_le _⟩ (by simp only [List.append_assoc, List.append_nil, List.nil_append]) (by simp only [List.append_assoc, List.append_nil, List.nil_append]) hP hD hS dX2_mostDays_12 (fun H locs hP hD hS => ?_)
        refine va_mmax hx hb (hml.trans hl.1.symm) hown (hts (.methodLink RX2 66 Lib.Math.max.name) (by decide +kernel)) (hts (.static Lib.Math.max.name) (by decide +kernel)) (hts (.initialized "java/lang/Math") (by decide +kernel)) (hts (.code Lib.Math.max.name Lib.Math.max.code 2 (some .int)) (by decide +kernel)) (Nat.le_of_ble_eq_true rfl) (Nat.le_of_ble_eq_true rfl) (Nat.zero_le _) (Nat.zero_le _) dX2_mostDays_15 ?_
        refine lv_topi (fun v_3 ev_3 => ?_)
        have hF := nm_at hF ev_3
        refine lv_istore_n (lv' := [(2, .int v_3), (0, .ref (a2 0)), (1, .int x1), (3, .int x3)]) hx hb dX2_mostDays_18 rfl hl (by decide) rfl (fun ls hl => ?_)
        obtain ⟨v_4, ev_4⟩ : ∃ y : Int32, y = x3 + 1 := ⟨_, rfl⟩
        have hF := nm_at hF ev_4
        refine lv_iinc (v := v_4) (lv' := [(3, .int v_4), (2, .int v_3), (0, .ref (a2 0)), (1, .int x1)]) hx hb dX2_mostDays_19 hl (k := 3) rfl (by rw [ev_4]; rfl) (by decide) rfl (fun ls hl => ?_)
        refine lv_goto (tgt := 4) hx hb dX2_mostDays_22 (by decide) ?_
        exact ih4 x1 v_3 v_4 hF _ _ _ hP hD hS (lv_sub hl [2, 3, 1, 0] rfl)
  refine lv_iconst (v := 0) hx hb dX2_mostDays_0 (by decide) ?_
  refine lv_istore_n (lv' := [(2, .int 0), (0, .ref (a2 0)), (1, .int p1)]) hx hb dX2_mostDays_1 rfl hl (by decide) rfl (fun ls hl => ?_)
  refine lv_iconst (v := 0) hx hb dX2_mostDays_2 (by decide) ?_
  refine lv_istore_n (lv' := [(3, .int 0), (2, .int 0), (0, .ref (a2 0)), (1, .int p1)]) hx hb dX2_mostDays_3 rfl hl (by decide) rfl (fun ls hl => ?_)
  exact bL4 FU p1 0 0 hF _ _ _ hP hD hS (lv_sub hl [2, 3, 1, 0] rfl)
abbrev rrX2_leastBelow (dd : Nat) : Room := { frames := 4 + dd, cells := 0, slots := 0, locals := 94 + 27 * dd }
abbrev rmX2_leastBelow : Room := rrX2_leastBelow 8
set_option maxRecDepth 100000 in
set_option maxHeartbeats 4000000 in
theorem c_X2_leastBelow_r (l : Launch) (K : Kx) (D : va_G) (C : Nat → ClassId) : ∀ (dd : Nat) (a2 : Nat → Nat) (S2 : Nat → Int32) (A2 : Nat → Nat → Int32) (a4 : Nat → Nat) (A4 : Nat → Nat → Int32) (p1 : Int32) (p2 : Int32) (p3 : Int32) (p4 : Int32) (z : Int32 × (Nat → Nat → Int32)) (hF : F_X2_leastBelow_r dd A2 A4 p1 p2 p3 p4 = some z), MetI l yX2_leastBelow wsX2_leastBelow (rrX2_leastBelow dd) K D (tyV C) (wX2 C a2 a4 S2 A2 ++ wX4 C a4 A4) [.ref (a2 0), .int p1, .int p2, .int p3, .int p4] (wX2 C a2 a4 S2 z.2 ++ wX4 C a4 A4) z.1 := by
  intro dd
  induction dd with
  | zero => intro a2 S2 A2 a4 A4 p1 p2 p3 p4 z hF; rw [F_X2_leastBelow_r.eq_1] at hF; cases hF
  | succ dd ihr =>
  intro a2 S2 A2 a4 A4 p1 p2 p3 p4 z hF
  rw [F_X2_leastBelow_r.eq_2] at hF
  refine met_int (cc := cX2_leastBelow) (maxL := 8) (ty := .int) (by decide +kernel) rfl (Nat.le_of_ble_eq_true rfl) ?_
  intro p e s m below meth c A Q ls ⟨hx, hb, hml, hown, hts, hK, hA, hZ⟩ hP hD hS hl hret
  have hown : s.vm.findClass RX2 = some m.cls := hown
  have hiX2 : ∀ w ∈ u_ws RX2 TX2 12, w ∈ wsX2_leastBelow := by decide +kernel
  have hl : lv_has ls 8 [(0, .ref (a2 0)), (1, .int p1), (2, .int p2), (3, .int p3), (4, .int p4)] := hl
  obtain ⟨J97, eJ97, hF⟩ := nm_ex hF
  have bJ97 : ∀ (x6 : Int32) (A2 : Nat → Nat → Int32), J97 x6 A2 = some z → ∀ (H : Heap) (locs : List Loc) (ls : Array Slot), va_P D vwCl (wX2 C a2 a4 S2 A2 ++ wX4 C a4 A4) H → va_D A (wX2 C a2 a4 S2 A2 ++ wX4 C a4 A4) → va_S A s.heap H locs → lv_has ls 8 [(6, .int x6)] → W p l e (rrX2_leastBelow (dd + 1)) s m ([.ref (a2 0), .int p1, .int p2, .int p3, .int p4] : List Value).toArray below meth c H locs 0 0 Q (F0 m 97 ls []) := by
    intro x6 A2 hF H locs ls hP hD hS hl
    rw [eJ97] at hF
    refine lv_iload hx hb dX2_leastBelow_97 (lv_at hl 0 rfl) ?_
    cases hF
    exact hret _ _ _ _ dX2_leastBelow_99 rfl hP hD hS
  have bL29 : ∀ (n : Nat) (x2 : Int32) (x3 : Int32) (x4 : Int32) (x5 : Int32) (x6 : Int32) (x7 : Int32) (A2 : Nat → Nat → Int32), L_X2_leastBelow_29 A4 (F_X2_leastBelow_r dd) J97 n x2 x3 x4 x5 x6 x7 A2 = some z → ∀ (H : Heap) (locs : List Loc) (ls : Array Slot), va_P D vwCl (wX2 C a2 a4 S2 A2 ++ wX4 C a4 A4) H → va_D A (wX2 C a2 a4 S2 A2 ++ wX4 C a4 A4) → va_S A s.heap H locs → lv_has ls 8 [(0, .ref (a2 0)), (2, .int x2), (3, .int x3), (4, .int x4), (5, .int x5), (6, .int x6), (7, .int x7)] → W p l e (rrX2_leastBelow (dd + 1)) s m ([.ref (a2 0), .int p1, .int p2, .int p3, .int p4] : List Value).toArray below meth c H locs 0 0 Q (F0 m 29 ls []) := by
    intro n
    induction n with
    | zero => intro x2 x3 x4 x5 x6 x7 A2 hF; rw [L_X2_leastBelow_29.eq_1] at hF; cases hF
    | succ n ih29 =>
      intro x2 x3 x4 x5 x6 x7 A2 hF H locs ls hP hD hS hl
      rw [L_X2_leastBelow_29.eq_2] at hF
      obtain ⟨J79, eJ79, hF⟩ := nm_ex hF
      have bJ79 : ∀ (x2 : Int32) (x3 : Int32) (x4 : Int32) (x5 : Int32) (x6 : Int32) (x7 : Int32) (A2 : Nat → Nat → Int32), J79 x2 x3 x4 x5 x6 x7 A2 = some z → ∀ (H : Heap) (locs : List Loc) (ls : Array Slot), va_P D vwCl (wX2 C a2 a4 S2 A2 ++ wX4 C a4 A4) H → va_D A (wX2 C a2 a4 S2 A2 ++ wX4 C a4 A4) → va_S A s.heap H locs → lv_has ls 8 [(0, .ref (a2 0)), (2, .int x2), (3, .int x3), (4, .int x4), (5, .int x5), (6, .int x6), (7, .int x7)] → W p l e (rrX2_leastBelow (dd + 1)) s m ([.ref (a2 0), .int p1, .int p2, .int p3, .int p4] : List Value).toArray below meth c H locs 0 0 Q (F0 m 79 ls []) := by
        intro x2 x3 x4 x5 x6 x7 A2 hF H locs ls hP hD hS hl
        rw [eJ79] at hF
        refine lv_aload_n hx hb dX2_leastBelow_79 rfl (lv_at hl 0 rfl) ?_
        refine va_get (D := D) (ci := 2) (v := .ref (a2 10)) (C := RX2) (T := TX2) (N := 12) hx hb hts hiX2 hown hK hP 0 rfl rfl 9 (by decide) (hts (.fieldLink RX2 36 "PanoramaHouse$Paintwork" "workGiven" "[I") (by decide +kernel)) (fun _ h9 => h9) rfl dX2_leastBelow_80 ?_
        refine lv_iload hx hb dX2_leastBelow_83 (lv_at hl 6 rfl) ?_
        refine lv_dup2_11 hx hb dX2_leastBelow_85 rfl rfl ?_
        obtain ⟨h_1, hF⟩ := ix_at hF
        refine va_iald hx hb hK hP 9 0 rfl rfl h_1 dX2_leastBelow_86 ?_
        refine lv_iload hx hb dX2_leastBelow_87 (lv_at hl 4 rfl) ?_
        refine lv_isub hx hb dX2_leastBelow_89 ?_
        obtain ⟨h_2, hF⟩ := ix_at hF
        refine va_iast hx hb hK hP hD hS 9 0 rfl rfl h_2 dX2_leastBelow_90 (fun H locs hP hD hS => ?_)
        obtain ⟨A2_3, eA2_3, hF⟩ := nm_ex hF
        have hP : va_P D vwCl (wX2 C a2 a4 S2 A2_3 ++ wX4 C a4 A4) H := by rw [eA2_3]; exact hP
        have hD : va_D A (wX2 C a2 a4 S2 A2_3 ++ wX4 C a4 A4) := by rw [eA2_3]; exact hD
        obtain ⟨v_4, ev_4⟩ : ∃ y : Int32, y = x7 + 1 := ⟨_, rfl⟩
        have hF := nm_at hF ev_4
        refine lv_iinc (v := v_4) (lv' := [(7, .int v_4), (0, .ref (a2 0)), (2, .int x2), (3, .int x3), (4, .int x4), (5, .int x5), (6, .int x6)]) hx hb dX2_leastBelow_91 hl (k := 6) rfl (by rw [ev_4]; rfl) (by decide) rfl (fun ls hl => ?_)
        refine lv_goto (tgt := 29) hx hb dX2_leastBelow_94 (by decide) ?_
        exact ih29 x2 x3 x4 x5 x6 v_4 A2_3 hF _ _ _ hP hD hS (lv_sub hl [1, 2, 3, 4, 5, 6, 0] rfl)
      refine lv_iload hx hb dX2_leastBelow_29 (lv_at hl 6 rfl) ?_
      refine lv_iload hx hb dX2_leastBelow_31 (lv_at hl 3 rfl) ?_
      refine lv_icmp_ge (tgt := 97) hx hb dX2_leastBelow_33 (by decide) (fun c_5 => ?_) (fun c_5 => ?_)
      · have hF := ifp hF c_5
        exact bJ97 x6 A2 hF _ _ _ hP hD hS (lv_sub hl [5] rfl)
      · have hF := ifn hF c_5
        refine lv_iload hx hb dX2_leastBelow_36 (lv_at hl 6 rfl) ?_
        refine lv_iconst (v := 3) hx hb dX2_leastBelow_38 (by decide) ?_
        refine lv_icmp_ge (tgt := 97) hx hb dX2_leastBelow_39 (by decide) (fun c_6 => ?_) (fun c_6 => ?_)
        · have hF := ifp hF c_6
          exact bJ97 x6 A2 hF _ _ _ hP hD hS (lv_sub hl [5] rfl)
        · have hF := ifn hF c_6
          refine lv_aload_n hx hb dX2_leastBelow_42 rfl (lv_at hl 0 rfl) ?_
          refine va_get (D := D) (ci := 2) (v := .ref (a2 10)) (C := RX2) (T := TX2) (N := 12) hx hb hts hiX2 hown hK hP 0 rfl rfl 9 (by decide) (hts (.fieldLink RX2 36 "PanoramaHouse$Paintwork" "workGiven" "[I") (by decide +kernel)) (fun _ h9 => h9) rfl dX2_leastBelow_43 ?_
          refine lv_iload hx hb dX2_leastBelow_46 (lv_at hl 6 rfl) ?_
          refine lv_dup2_11 hx hb dX2_leastBelow_48 rfl rfl ?_
          obtain ⟨h_7, hF⟩ := ix_at hF
          refine va_iald hx hb hK hP 9 0 rfl rfl h_7 dX2_leastBelow_49 ?_
          refine lv_iload hx hb dX2_leastBelow_50 (lv_at hl 4 rfl) ?_
          refine lv_iadd hx hb dX2_leastBelow_52 ?_
          obtain ⟨h_8, hF⟩ := ix_at hF
          refine va_iast hx hb hK hP hD hS 9 0 rfl rfl h_8 dX2_leastBelow_53 (fun H locs hP hD hS => ?_)
          obtain ⟨A2_9, eA2_9, hF⟩ := nm_ex hF
          have hP : va_P D vwCl (wX2 C a2 a4 S2 A2_9 ++ wX4 C a4 A4) H := by rw [eA2_9]; exact hP
          have hD : va_D A (wX2 C a2 a4 S2 A2_9 ++ wX4 C a4 A4) := by rw [eA2_9]; exact hD
          refine lv_aload_n hx hb dX2_leastBelow_54 rfl (lv_at hl 0 rfl) ?_
          refine lv_iload hx hb dX2_leastBelow_55 (lv_at hl 6 rfl) ?_
          obtain ⟨z_10, fz_10, hF⟩ := bd_at hF
          refine callV_int ([]) (wX4 C a4 A4) (w' := wX2 C a2 a4 S2 A2_9 ++ wX4 C a4 A4) (As := [.int x7]) (rest := []) ⟨hx, hb, hml, hown, hts⟩ hK hA hZ (c_X2_daysOf l K D C a2 S2 A2_9 a4 x7 z_10 fz_10) (cwV 1 hts gX2_leastBelow_X2_daysOf rfl rfl rfl (by decide +kernel) ⟨by first | omega | (dsimp only; omega) | (simp; omega), by first | omega | (dsimp only; omega) | (simp; omega)⟩) 0 rfl rfl rfl rfl hl.1 rfl (Nat.le_of_ble_eq_true rfl) ⟨Nat.zero_le _, Nat.zero_le _⟩ (by simp only [List.append_assoc, List.append_nil, List.nil_append]) (by simp only [List.append_assoc, List.append_nil, List.nil_append]) hP hD hS dX2_leastBelow_57 (fun H locs hP hD hS => ?_)
          refine lv_iload hx hb dX2_leastBelow_60 (lv_at hl 5 rfl) ?_
          refine lv_icmp_ge (tgt := 79) hx hb dX2_leastBelow_62 (by decide) (fun c_11 => ?_) (fun c_11 => ?_)
          · have hF := ifp hF c_11
            exact bJ79 x2 x3 x4 x5 x6 x7 A2_9 hF _ _ _ hP hD hS (lv_sub hl [0, 1, 2, 3, 4, 5, 6] rfl)
          · have hF := ifn hF c_11
            refine lv_aload_n hx hb dX2_leastBelow_65 rfl (lv_at hl 0 rfl) ?_
            refine lv_iload hx hb dX2_leastBelow_66 (lv_at hl 5 rfl) ?_
            refine lv_iload_n hx hb dX2_leastBelow_68 rfl (lv_at hl 1 rfl) ?_
            refine lv_iconst (v := 1) hx hb dX2_leastBelow_69 (by decide) ?_
            refine lv_iadd hx hb dX2_leastBelow_70 ?_
            refine lv_iload_n hx hb dX2_leastBelow_71 rfl (lv_at hl 2 rfl) ?_
            refine lv_iload hx hb dX2_leastBelow_72 (lv_at hl 3 rfl) ?_
            obtain ⟨z_12, fz_12, hF⟩ := bd_at hF
            refine callV_int ([]) ([]) (w' := wX2 C a2 a4 S2 z_12.2 ++ wX4 C a4 A4) (As := [.int x6, .int (x2 + 1), .int x3, .int x4]) (rest := []) ⟨hx, hb, hml, hown, hts⟩ hK hA hZ (ihr a2 S2 A2_9 a4 A4 x6 (x2 + 1) x3 x4 z_12 fz_12) (cwV 4 hts gX2_leastBelow_X2_leastBelow rfl rfl rfl (by decide +kernel) ⟨by first | omega | (dsimp only; omega) | (simp; omega), by first | omega | (dsimp only; omega) | (simp; omega)⟩) 0 rfl rfl rfl rfl hl.1 rfl (Nat.le_of_ble_eq_true rfl) ⟨Nat.zero_le _, Nat.zero_le _⟩ (by simp only [List.append_assoc, List.append_nil, List.nil_append]) (by simp only [List.append_assoc, List.append_nil, List.nil_append]) hP hD hS dX2_leastBelow_74 (fun H locs hP hD hS => ?_)
            refine lv_istore (lv' := [(6, .int z_12.1), (0, .ref (a2 0)), (2, .int x2), (3, .int x3), (4, .int x4), (5, .int x5), (7, .int x7)]) hx hb dX2_leastBelow_77 hl (by decide) rfl (fun ls hl => ?_)
            exact bJ79 x2 x3 x4 x5 z_12.1 x7 z_12.2 hF _ _ _ hP hD hS (lv_sub hl [1, 2, 3, 4, 5, 0, 6] rfl)
  refine lv_iload_n hx hb dX2_leastBelow_0 rfl (lv_at hl 2 rfl) ?_
  refine lv_iload_n hx hb dX2_leastBelow_1 rfl (lv_at hl 3 rfl) ?_
  refine lv_icmp_lt (tgt := 16) hx hb dX2_leastBelow_2 (by decide) (fun c_13 => ?_) (fun c_13 => ?_)
  · have hF := ifp hF c_13
    refine lv_aload_n hx hb dX2_leastBelow_16 rfl (lv_at hl 0 rfl) ?_
    refine lv_iload_n hx hb dX2_leastBelow_17 rfl (lv_at hl 2 rfl) ?_
    obtain ⟨z_14, fz_14, hF⟩ := bd_at hF
    refine callV_int ([]) ([]) (w' := wX2 C a2 a4 S2 A2 ++ wX4 C a4 A4) (As := [.int p2]) (rest := []) ⟨hx, hb, hml, hown, hts⟩ hK hA hZ (c_X2_firstCoatWork l K D C a2 S2 A2 a4 A4 p2 z_14 fz_14) (cwV 1 hts gX2_leastBelow_X2_firstCoatWork rfl rfl rfl (by decide +kernel) ⟨by first | omega | (dsimp only; omega) | (simp; omega), by first | omega | (dsimp only; omega) | (simp; omega)⟩) 0 rfl rfl rfl rfl hl.1 rfl (Nat.le_of_ble_eq_true rfl) ⟨Nat.zero_le _, Nat.zero_le _⟩ (by simp only [List.append_assoc, List.append_nil, List.nil_append]) (by simp only [List.append_assoc, List.append_nil, List.nil_append]) hP hD hS dX2_leastBelow_18 (fun H locs hP hD hS => ?_)
    refine lv_istore (lv' := [(5, .int z_14), (0, .ref (a2 0)), (1, .int p1), (2, .int p2), (3, .int p3), (4, .int p4)]) hx hb dX2_leastBelow_21 hl (by decide) rfl (fun ls hl => ?_)
    refine lv_iload_n hx hb dX2_leastBelow_23 rfl (lv_at hl 2 rfl) ?_
    refine lv_istore (lv' := [(6, .int p1), (5, .int z_14), (0, .ref (a2 0)), (1, .int p1), (2, .int p2), (3, .int p3), (4, .int p4)]) hx hb dX2_leastBelow_24 hl (by decide) rfl (fun ls hl => ?_)
    refine lv_iconst (v := 0) hx hb dX2_leastBelow_26 (by decide) ?_
    refine lv_istore (lv' := [(7, .int 0), (6, .int p1), (5, .int z_14), (0, .ref (a2 0)), (1, .int p1), (2, .int p2), (3, .int p3), (4, .int p4)]) hx hb dX2_leastBelow_27 hl (by decide) rfl (fun ls hl => ?_)
    exact bL29 FU p2 p3 p4 z_14 p1 0 A2 hF _ _ _ hP hD hS (lv_sub hl [3, 5, 6, 7, 2, 1, 0] rfl)
  · have hF := ifn hF c_13
    refine lv_iload_n hx hb dX2_leastBelow_5 rfl (lv_at hl 1 rfl) ?_
    refine lv_aload_n hx hb dX2_leastBelow_6 rfl (lv_at hl 0 rfl) ?_
    refine lv_iload hx hb dX2_leastBelow_7 (lv_at hl 4 rfl) ?_
    obtain ⟨z_15, fz_15, hF⟩ := bd_at hF
    refine callV_int ([]) (wX4 C a4 A4) (w' := wX2 C a2 a4 S2 A2 ++ wX4 C a4 A4) (As := [.int p4]) (rest := [.int p1]) ⟨hx, hb, hml, hown, hts⟩ hK hA hZ (c_X2_mostDays l K D C a2 S2 A2 a4 p4 z_15 fz_15) (cwV 1 hts gX2_leastBelow_X2_mostDays rfl rfl rfl (by decide +kernel) ⟨by first | omega | (dsimp only; omega) | (simp; omega), by first | omega | (dsimp only; omega) | (simp; omega)⟩) 0 rfl rfl rfl rfl hl.1 rfl (Nat.le_of_ble_eq_true rfl) ⟨Nat.zero_le _, Nat.zero_le _⟩ (by simp only [List.append_assoc, List.append_nil, List.nil_append]) (by simp only [List.append_assoc, List.append_nil, List.nil_append]) hP hD hS dX2_leastBelow_9 (fun H locs hP hD hS => ?_)
    refine va_mmin hx hb (hml.trans hl.1.symm) hown (hts (.methodLink RX2 89 Lib.Math.min.name) (by decide +kernel)) (hts (.static Lib.Math.min.name) (by decide +kernel)) (hts (.initialized "java/lang/Math") (by decide +kernel)) (hts (.code Lib.Math.min.name Lib.Math.min.code 2 (some .int)) (by decide +kernel)) (by first | omega | (dsimp only; omega) | (simp; omega)) (by first | omega | (simp; omega) | (dsimp; omega)) (Nat.zero_le _) (Nat.zero_le _) dX2_leastBelow_12 ?_
    refine lv_topi (fun v_16 ev_16 => ?_)
    have hF := nm_at hF ev_16
    cases hF
    exact hret _ _ _ _ dX2_leastBelow_15 rfl hP hD hS
theorem c_X2_leastBelow (l : Launch) (K : Kx) (D : va_G) (C : Nat → ClassId) (a2 : Nat → Nat) (S2 : Nat → Int32) (A2 : Nat → Nat → Int32) (a4 : Nat → Nat) (A4 : Nat → Nat → Int32) (p1 : Int32) (p2 : Int32) (p3 : Int32) (p4 : Int32) (z : Int32 × (Nat → Nat → Int32)) (hF : F_X2_leastBelow A2 A4 p1 p2 p3 p4 = some z) : MetI l yX2_leastBelow wsX2_leastBelow rmX2_leastBelow K D (tyV C) (wX2 C a2 a4 S2 A2 ++ wX4 C a4 A4) [.ref (a2 0), .int p1, .int p2, .int p3, .int p4] (wX2 C a2 a4 S2 z.2 ++ wX4 C a4 A4) z.1 := c_X2_leastBelow_r l K D C 8 a2 S2 A2 a4 A4 p1 p2 p3 p4 z hF
abbrev rmX2_leastDays : Room := { frames := 13, cells := 0, slots := 0, locals := 337 }
set_option maxRecDepth 100000 in
set_option maxHeartbeats 4000000 in
theorem c_X2_leastDays (l : Launch) (K : Kx) (D : va_G) (C : Nat → ClassId) (a2 : Nat → Nat) (S2 : Nat → Int32) (A2 : Nat → Nat → Int32) (a4 : Nat → Nat) (A4 : Nat → Nat → Int32) (p1 : Int32) (p2 : Int32) (p3 : Int32) (z : Int32 × (Nat → Nat → Int32)) (hF : F_X2_leastDays S2 A2 A4 p1 p2 p3 = some z) : MetI l yX2_leastDays wsX2_leastDays rmX2_leastDays K D (tyV C) (wX2 C a2 a4 S2 A2 ++ wX4 C a4 A4) [.ref (a2 0), .int p1, .int p2, .int p3] (wX2 C a2 a4 S2 z.2 ++ wX4 C a4 A4) z.1 := by
  refine met_int (cc := cX2_leastDays) (maxL := 5) (ty := .int) (by decide +kernel) rfl (Nat.le_of_ble_eq_true rfl) ?_
  intro p e s m below meth c A Q ls ⟨hx, hb, hml, hown, hts, hK, hA, hZ⟩ hP hD hS hl hret
  have hown : s.vm.findClass RX2 = some m.cls := hown
  have hiX2 : ∀ w ∈ u_ws RX2 TX2 12, w ∈ wsX2_leastDays := by decide +kernel
  have hl : lv_has ls 5 [(0, .ref (a2 0)), (1, .int p1), (2, .int p2), (3, .int p3)] := hl
  unfold F_X2_leastDays at hF
  obtain ⟨J68, eJ68, hF⟩ := nm_ex hF
  have bJ68 : ∀ (x1 : Int32) (x2 : Int32) (x3 : Int32) (A2 : Nat → Nat → Int32), J68 x1 x2 x3 A2 = some z → ∀ (H : Heap) (locs : List Loc) (ls : Array Slot), va_P D vwCl (wX2 C a2 a4 S2 A2 ++ wX4 C a4 A4) H → va_D A (wX2 C a2 a4 S2 A2 ++ wX4 C a4 A4) → va_S A s.heap H locs → lv_has ls 5 [(0, .ref (a2 0)), (1, .int x1), (2, .int x2), (3, .int x3)] → W p l e rmX2_leastDays s m ([.ref (a2 0), .int p1, .int p2, .int p3] : List Value).toArray below meth c H locs 0 0 Q (F0 m 68 ls []) := by
    intro x1 x2 x3 A2 hF H locs ls hP hD hS hl
    rw [eJ68] at hF
    refine lv_aload_n hx hb dX2_leastDays_68 rfl (lv_at hl 0 rfl) ?_
    refine lv_ldc (v := 2147483647) hx hb hown (hts (.constant RX2 81 2147483647) (by decide +kernel)) dX2_leastDays_69 ?_
    refine lv_iload_n hx hb dX2_leastDays_71 rfl (lv_at hl 1 rfl) ?_
    refine lv_iload_n hx hb dX2_leastDays_72 rfl (lv_at hl 1 rfl) ?_
    refine lv_iload_n hx hb dX2_leastDays_73 rfl (lv_at hl 2 rfl) ?_
    refine lv_iadd hx hb dX2_leastDays_74 ?_
    refine lv_iload_n hx hb dX2_leastDays_75 rfl (lv_at hl 3 rfl) ?_
    obtain ⟨z_1, fz_1, hF⟩ := bd_at hF
    refine callV_int ([]) ([]) (w' := wX2 C a2 a4 S2 z_1.2 ++ wX4 C a4 A4) (As := [.int 2147483647, .int x1, .int (x1 + x2), .int x3]) (rest := []) ⟨hx, hb, hml, hown, hts⟩ hK hA hZ (c_X2_leastBelow l K D C a2 S2 A2 a4 A4 2147483647 x1 (x1 + x2) x3 z_1 fz_1) (cwV 4 hts gX2_leastDays_X2_leastBelow rfl rfl rfl (by decide +kernel) ⟨Nat.le_of_ble_eq_true rfl, Nat.le_of_ble_eq_true rfl⟩) 0 rfl rfl rfl rfl hl.1 rfl (Nat.le_of_ble_eq_true rfl) ⟨Nat.zero_le _, Nat.zero_le _⟩ (by simp only [List.append_assoc, List.append_nil, List.nil_append]) (by simp only [List.append_assoc, List.append_nil, List.nil_append]) hP hD hS dX2_leastDays_76 (fun H locs hP hD hS => ?_)
    cases hF
    exact hret _ _ _ _ dX2_leastDays_79 rfl hP hD hS
  have bL48 : ∀ (n : Nat) (x1 : Int32) (x2 : Int32) (x3 : Int32) (x4 : Int32) (A2 : Nat → Nat → Int32), L_X2_leastDays_48 S2 A4 J68 n x1 x2 x3 x4 A2 = some z → ∀ (H : Heap) (locs : List Loc) (ls : Array Slot), va_P D vwCl (wX2 C a2 a4 S2 A2 ++ wX4 C a4 A4) H → va_D A (wX2 C a2 a4 S2 A2 ++ wX4 C a4 A4) → va_S A s.heap H locs → lv_has ls 5 [(0, .ref (a2 0)), (1, .int x1), (2, .int x2), (3, .int x3), (4, .int x4)] → W p l e rmX2_leastDays s m ([.ref (a2 0), .int p1, .int p2, .int p3] : List Value).toArray below meth c H locs 0 0 Q (F0 m 48 ls []) := by
    intro n
    induction n with
    | zero => intro x1 x2 x3 x4 A2 hF; rw [L_X2_leastDays_48.eq_1] at hF; cases hF
    | succ n ih48 =>
      intro x1 x2 x3 x4 A2 hF H locs ls hP hD hS hl
      rw [L_X2_leastDays_48.eq_2] at hF
      refine lv_iload hx hb dX2_leastDays_48 (lv_at hl 4 rfl) ?_
      refine lv_iconst (v := 3) hx hb dX2_leastDays_50 (by decide) ?_
      refine lv_icmp_ge (tgt := 68) hx hb dX2_leastDays_51 (by decide) (fun c_2 => ?_) (fun c_2 => ?_)
      · have hF := ifp hF c_2
        exact bJ68 x1 x2 x3 A2 hF _ _ _ hP hD hS (lv_sub hl [0, 1, 2, 3] rfl)
      · have hF := ifn hF c_2
        refine lv_aload_n hx hb dX2_leastDays_54 rfl (lv_at hl 0 rfl) ?_
        refine va_get (D := D) (ci := 2) (v := .ref (a2 10)) (C := RX2) (T := TX2) (N := 12) hx hb hts hiX2 hown hK hP 0 rfl rfl 9 (by decide) (hts (.fieldLink RX2 36 "PanoramaHouse$Paintwork" "workGiven" "[I") (by decide +kernel)) (fun _ h9 => h9) rfl dX2_leastDays_55 ?_
        refine lv_iload hx hb dX2_leastDays_58 (lv_at hl 4 rfl) ?_
        refine lv_iconst (v := 0) hx hb dX2_leastDays_60 (by decide) ?_
        obtain ⟨h_3, hF⟩ := ix_at hF
        refine va_iast hx hb hK hP hD hS 9 0 rfl rfl h_3 dX2_leastDays_61 (fun H locs hP hD hS => ?_)
        obtain ⟨A2_4, eA2_4, hF⟩ := nm_ex hF
        have hP : va_P D vwCl (wX2 C a2 a4 S2 A2_4 ++ wX4 C a4 A4) H := by rw [eA2_4]; exact hP
        have hD : va_D A (wX2 C a2 a4 S2 A2_4 ++ wX4 C a4 A4) := by rw [eA2_4]; exact hD
        obtain ⟨v_5, ev_5⟩ : ∃ y : Int32, y = x4 + 1 := ⟨_, rfl⟩
        have hF := nm_at hF ev_5
        refine lv_iinc (v := v_5) (lv' := [(4, .int v_5), (0, .ref (a2 0)), (1, .int x1), (2, .int x2), (3, .int x3)]) hx hb dX2_leastDays_62 hl (k := 4) rfl (by rw [ev_5]; rfl) (by decide) rfl (fun ls hl => ?_)
        refine lv_goto (tgt := 48) hx hb dX2_leastDays_65 (by decide) ?_
        exact ih48 x1 x2 x3 v_5 A2_4 hF _ _ _ hP hD hS (lv_sub hl [1, 2, 3, 4, 0] rfl)
  refine lv_iload_n hx hb dX2_leastDays_0 rfl (lv_at hl 2 rfl) ?_
  refine lv_iconst (v := 1) hx hb dX2_leastDays_1 (by decide) ?_
  refine lv_icmp_lt (tgt := 23) hx hb dX2_leastDays_2 (by decide) (fun c_6 => ?_) (fun c_6 => ?_)
  · have hF := ifp hF c_6
    refine lv_iconst (v := -1) hx hb dX2_leastDays_23 (by decide) ?_
    cases hF
    exact hret _ _ _ _ dX2_leastDays_24 rfl hP hD hS
  · have hF := ifn hF c_6
    refine lv_iload_n hx hb dX2_leastDays_5 rfl (lv_at hl 2 rfl) ?_
    refine lv_bipush (v := 6) hx hb dX2_leastDays_6 (by decide) ?_
    refine lv_icmp_gt (tgt := 23) hx hb dX2_leastDays_8 (by decide) (fun c_7 => ?_) (fun c_7 => ?_)
    · have hF := ifp hF c_7
      refine lv_iconst (v := -1) hx hb dX2_leastDays_23 (by decide) ?_
      cases hF
      exact hret _ _ _ _ dX2_leastDays_24 rfl hP hD hS
    · have hF := ifn hF c_7
      refine lv_iload_n hx hb dX2_leastDays_11 rfl (lv_at hl 1 rfl) ?_
      refine lv_if_lt (tgt := 23) hx hb dX2_leastDays_12 (by decide) (fun c_8 => ?_) (fun c_8 => ?_)
      · have hF := ifp hF c_8
        refine lv_iconst (v := -1) hx hb dX2_leastDays_23 (by decide) ?_
        cases hF
        exact hret _ _ _ _ dX2_leastDays_24 rfl hP hD hS
      · have hF := ifn hF c_8
        refine lv_iload_n hx hb dX2_leastDays_15 rfl (lv_at hl 1 rfl) ?_
        refine lv_bipush (v := 72) hx hb dX2_leastDays_16 (by decide) ?_
        refine lv_iload_n hx hb dX2_leastDays_18 rfl (lv_at hl 2 rfl) ?_
        refine lv_isub hx hb dX2_leastDays_19 ?_
        refine lv_icmp_le (tgt := 25) hx hb dX2_leastDays_20 (by decide) (fun c_9 => ?_) (fun c_9 => ?_)
        · have hF := ifp hF c_9
          refine lv_iload_n hx hb dX2_leastDays_25 rfl (lv_at hl 3 rfl) ?_
          refine lv_iconst (v := 1) hx hb dX2_leastDays_26 (by decide) ?_
          refine lv_icmp_lt (tgt := 43) hx hb dX2_leastDays_27 (by decide) (fun c_10 => ?_) (fun c_10 => ?_)
          · have hF := ifp hF c_10
            refine lv_iconst (v := -1) hx hb dX2_leastDays_43 (by decide) ?_
            cases hF
            exact hret _ _ _ _ dX2_leastDays_44 rfl hP hD hS
          · have hF := ifn hF c_10
            refine lv_iload_n hx hb dX2_leastDays_30 rfl (lv_at hl 3 rfl) ?_
            refine lv_iconst (v := 3) hx hb dX2_leastDays_31 (by decide) ?_
            refine lv_icmp_gt (tgt := 43) hx hb dX2_leastDays_32 (by decide) (fun c_11 => ?_) (fun c_11 => ?_)
            · have hF := ifp hF c_11
              refine lv_iconst (v := -1) hx hb dX2_leastDays_43 (by decide) ?_
              cases hF
              exact hret _ _ _ _ dX2_leastDays_44 rfl hP hD hS
            · have hF := ifn hF c_11
              refine lv_iload_n hx hb dX2_leastDays_35 rfl (lv_at hl 3 rfl) ?_
              refine lv_aload_n hx hb dX2_leastDays_36 rfl (lv_at hl 0 rfl) ?_
              refine va_get (D := D) (ci := 2) (v := .int (S2 10)) (C := RX2) (T := TX2) (N := 12) hx hb hts hiX2 hown hK hP 0 rfl rfl 10 (by decide) (hts (.fieldLink RX2 47 "PanoramaHouse$Paintwork" "gangsHired" "I") (by decide +kernel)) (fun _ h9 => h9) rfl dX2_leastDays_37 ?_
              refine lv_icmp_le (tgt := 45) hx hb dX2_leastDays_40 (by decide) (fun c_12 => ?_) (fun c_12 => ?_)
              · have hF := ifp hF c_12
                refine lv_iconst (v := 0) hx hb dX2_leastDays_45 (by decide) ?_
                refine lv_istore (lv' := [(4, .int 0), (0, .ref (a2 0)), (1, .int p1), (2, .int p2), (3, .int p3)]) hx hb dX2_leastDays_46 hl (by decide) rfl (fun ls hl => ?_)
                exact bL48 FU p1 p2 p3 0 A2 hF _ _ _ hP hD hS (lv_sub hl [1, 2, 3, 4, 0] rfl)
              · have hF := ifn hF c_12
                refine lv_iconst (v := -1) hx hb dX2_leastDays_43 (by decide) ?_
                cases hF
                exact hret _ _ _ _ dX2_leastDays_44 rfl hP hD hS
        · have hF := ifn hF c_9
          refine lv_iconst (v := -1) hx hb dX2_leastDays_23 (by decide) ?_
          cases hF
          exact hret _ _ _ _ dX2_leastDays_24 rfl hP hD hS
