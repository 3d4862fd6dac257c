abbrev rmX5_isSquare : Room := { frames := 1, cells := 0, slots := 0, locals := 32 }
set_option maxRecDepth 100000 in
set_option maxHeartbeats 4000000 in
theorem c_X5_isSquare (l : Launch) (K : Kx) (D : va_G) (C : Nat → ClassId) (p1 : Int32) (z : Int32) (hF : F_X5_isSquare p1 = some z) : MetI l yX5_isSquare wsX5_isSquare rmX5_isSquare K D (tyV C) (([] : va_W)) [.int p1] (([] : va_W)) z := by
  refine met_int (cc := cX5_isSquare) (maxL := 1) (ty := .boolean) (by decide +kernel) rfl (Nat.le_of_ble_eq_true rfl) ?_
  intro p e s m below meth c A Q ls ⟨hx, hb, hml, hown, hts, hK, hA, hZ⟩ hP hD hS hl hret
  have hown : s.vm.findClass RX5 = some m.cls := hown
  have hl : lv_has ls 1 [(0, .int p1)] := hl
  unfold F_X5_isSquare at hF
  refine lv_iload_n hx hb dX5_isSquare_0 rfl (lv_at hl 0 rfl) ?_
  refine lv_if_lt (tgt := 14) hx hb dX5_isSquare_1 (by decide) (fun c_1 => ?_) (fun c_1 => ?_)
  · have hF := ifp hF c_1
    refine lv_iconst (v := 0) hx hb dX5_isSquare_14 (by decide) ?_
    cases hF
    exact hret _ _ _ _ dX5_isSquare_15 nb0 hP hD hS
  · have hF := ifn hF c_1
    refine lv_iload_n hx hb dX5_isSquare_4 rfl (lv_at hl 0 rfl) ?_
    refine lv_bipush (v := 72) hx hb dX5_isSquare_5 (by decide) ?_
    refine lv_icmp_ge (tgt := 14) hx hb dX5_isSquare_7 (by decide) (fun c_2 => ?_) (fun c_2 => ?_)
    · have hF := ifp hF c_2
      refine lv_iconst (v := 0) hx hb dX5_isSquare_14 (by decide) ?_
      cases hF
      exact hret _ _ _ _ dX5_isSquare_15 nb0 hP hD hS
    · have hF := ifn hF c_2
      refine lv_iconst (v := 1) hx hb dX5_isSquare_10 (by decide) ?_
      refine lv_goto (tgt := 15) hx hb dX5_isSquare_11 (by decide) ?_
      cases hF
      exact hret _ _ _ _ dX5_isSquare_15 nb1 hP hD hS
abbrev rmX5_isTold : Room := { frames := 1, cells := 0, slots := 0, locals := 32 }
set_option maxRecDepth 100000 in
set_option maxHeartbeats 4000000 in
theorem c_X5_isTold (l : Launch) (K : Kx) (D : va_G) (C : Nat → ClassId) (p1 : Int32) (z : Int32) (hF : F_X5_isTold p1 = some z) : MetI l yX5_isTold wsX5_isTold rmX5_isTold K D (tyV C) (([] : va_W)) [.int p1] (([] : va_W)) z := by
  refine met_int (cc := cX5_isTold) (maxL := 1) (ty := .boolean) (by decide +kernel) rfl (Nat.le_of_ble_eq_true rfl) ?_
  intro p e s m below meth c A Q ls ⟨hx, hb, hml, hown, hts, hK, hA, hZ⟩ hP hD hS hl hret
  have hown : s.vm.findClass RX5 = some m.cls := hown
  have hl : lv_has ls 1 [(0, .int p1)] := hl
  unfold F_X5_isTold at hF
  refine lv_iload_n hx hb dX5_isTold_0 rfl (lv_at hl 0 rfl) ?_
  refine lv_if_lt (tgt := 14) hx hb dX5_isTold_1 (by decide) (fun c_1 => ?_) (fun c_1 => ?_)
  · have hF := ifp hF c_1
    refine lv_iconst (v := 0) hx hb dX5_isTold_14 (by decide) ?_
    cases hF
    exact hret _ _ _ _ dX5_isTold_15 nb0 hP hD hS
  · have hF := ifn hF c_1
    refine lv_iload_n hx hb dX5_isTold_4 rfl (lv_at hl 0 rfl) ?_
    refine lv_ldc (v := 99999) hx hb hown (hts (.constant RX5 151 99999) (by decide +kernel)) dX5_isTold_5 ?_
    refine lv_icmp_gt (tgt := 14) hx hb dX5_isTold_7 (by decide) (fun c_2 => ?_) (fun c_2 => ?_)
    · have hF := ifp hF c_2
      refine lv_iconst (v := 0) hx hb dX5_isTold_14 (by decide) ?_
      cases hF
      exact hret _ _ _ _ dX5_isTold_15 nb0 hP hD hS
    · have hF := ifn hF c_2
      refine lv_iconst (v := 1) hx hb dX5_isTold_10 (by decide) ?_
      refine lv_goto (tgt := 15) hx hb dX5_isTold_11 (by decide) ?_
      cases hF
      exact hret _ _ _ _ dX5_isTold_15 nb1 hP hD hS
abbrev rmX4_isMark : Room := { frames := 1, cells := 0, slots := 0, locals := 32 }
set_option maxRecDepth 100000 in
set_option maxHeartbeats 4000000 in
theorem c_X4_isMark (l : Launch) (K : Kx) (D : va_G) (C : Nat → ClassId) (p1 : Int32) (p2 : Int32) (p3 : Int32) (z : Int32) (hF : F_X4_isMark p1 p2 p3 = some z) : MetI l yX4_isMark wsX4_isMark rmX4_isMark K D (tyV C) (([] : va_W)) [.int p1, .int p2, .int p3] (([] : va_W)) z := by
  refine met_int (cc := cX4_isMark) (maxL := 3) (ty := .boolean) (by decide +kernel) rfl (Nat.le_of_ble_eq_true rfl) ?_
  intro p e s m below meth c A Q ls ⟨hx, hb, hml, hown, hts, hK, hA, hZ⟩ hP hD hS hl hret
  have hown : s.vm.findClass RX4 = some m.cls := hown
  have hl : lv_has ls 3 [(0, .int p1), (1, .int p2), (2, .int p3)] := hl
  unfold F_X4_isMark at hF
  refine lv_iload_n hx hb dX4_isMark_0 rfl (lv_at hl 0 rfl) ?_
  refine lv_if_lt (tgt := 34) hx hb dX4_isMark_1 (by decide) (fun c_1 => ?_) (fun c_1 => ?_)
  · have hF := ifp hF c_1
    refine lv_iconst (v := 0) hx hb dX4_isMark_34 (by decide) ?_
    cases hF
    exact hret _ _ _ _ dX4_isMark_35 nb0 hP hD hS
  · have hF := ifn hF c_1
    refine lv_iload_n hx hb dX4_isMark_4 rfl (lv_at hl 0 rfl) ?_
    refine lv_bipush (v := 12) hx hb dX4_isMark_5 (by decide) ?_
    refine lv_icmp_ge (tgt := 34) hx hb dX4_isMark_7 (by decide) (fun c_2 => ?_) (fun c_2 => ?_)
    · have hF := ifp hF c_2
      refine lv_iconst (v := 0) hx hb dX4_isMark_34 (by decide) ?_
      cases hF
      exact hret _ _ _ _ dX4_isMark_35 nb0 hP hD hS
    · have hF := ifn hF c_2
      refine lv_iload_n hx hb dX4_isMark_10 rfl (lv_at hl 1 rfl) ?_
      refine lv_if_lt (tgt := 34) hx hb dX4_isMark_11 (by decide) (fun c_3 => ?_) (fun c_3 => ?_)
      · have hF := ifp hF c_3
        refine lv_iconst (v := 0) hx hb dX4_isMark_34 (by decide) ?_
        cases hF
        exact hret _ _ _ _ dX4_isMark_35 nb0 hP hD hS
      · have hF := ifn hF c_3
        refine lv_iload_n hx hb dX4_isMark_14 rfl (lv_at hl 1 rfl) ?_
        refine lv_bipush (v := 40) hx hb dX4_isMark_15 (by decide) ?_
        refine lv_icmp_ge (tgt := 34) hx hb dX4_isMark_17 (by decide) (fun c_4 => ?_) (fun c_4 => ?_)
        · have hF := ifp hF c_4
          refine lv_iconst (v := 0) hx hb dX4_isMark_34 (by decide) ?_
          cases hF
          exact hret _ _ _ _ dX4_isMark_35 nb0 hP hD hS
        · have hF := ifn hF c_4
          refine lv_iload_n hx hb dX4_isMark_20 rfl (lv_at hl 2 rfl) ?_
          refine lv_if_lt (tgt := 34) hx hb dX4_isMark_21 (by decide) (fun c_5 => ?_) (fun c_5 => ?_)
          · have hF := ifp hF c_5
            refine lv_iconst (v := 0) hx hb dX4_isMark_34 (by decide) ?_
            cases hF
            exact hret _ _ _ _ dX4_isMark_35 nb0 hP hD hS
          · have hF := ifn hF c_5
            refine lv_iload_n hx hb dX4_isMark_24 rfl (lv_at hl 2 rfl) ?_
            refine lv_bipush (v := 20) hx hb dX4_isMark_25 (by decide) ?_
            refine lv_icmp_ge (tgt := 34) hx hb dX4_isMark_27 (by decide) (fun c_6 => ?_) (fun c_6 => ?_)
            · have hF := ifp hF c_6
              refine lv_iconst (v := 0) hx hb dX4_isMark_34 (by decide) ?_
              cases hF
              exact hret _ _ _ _ dX4_isMark_35 nb0 hP hD hS
            · have hF := ifn hF c_6
              refine lv_iconst (v := 1) hx hb dX4_isMark_30 (by decide) ?_
              refine lv_goto (tgt := 35) hx hb dX4_isMark_31 (by decide) ?_
              cases hF
              exact hret _ _ _ _ dX4_isMark_35 nb1 hP hD hS
abbrev rmX4_isPlace : Room := { frames := 1, cells := 0, slots := 0, locals := 32 }
set_option maxRecDepth 100000 in
set_option maxHeartbeats 4000000 in
theorem c_X4_isPlace (l : Launch) (K : Kx) (D : va_G) (C : Nat → ClassId) (p1 : Int32) (p2 : Int32) (z : Int32) (hF : F_X4_isPlace p1 p2 = some z) : MetI l yX4_isPlace wsX4_isPlace rmX4_isPlace K D (tyV C) (([] : va_W)) [.int p1, .int p2] (([] : va_W)) z := by
  refine met_int (cc := cX4_isPlace) (maxL := 2) (ty := .boolean) (by decide +kernel) rfl (Nat.le_of_ble_eq_true rfl) ?_
  intro p e s m below meth c A Q ls ⟨hx, hb, hml, hown, hts, hK, hA, hZ⟩ hP hD hS hl hret
  have hown : s.vm.findClass RX4 = some m.cls := hown
  have hl : lv_has ls 2 [(0, .int p1), (1, .int p2)] := hl
  unfold F_X4_isPlace at hF
  refine lv_iload_n hx hb dX4_isPlace_0 rfl (lv_at hl 0 rfl) ?_
  refine lv_if_lt (tgt := 25) hx hb dX4_isPlace_1 (by decide) (fun c_1 => ?_) (fun c_1 => ?_)
  · have hF := ifp hF c_1
    refine lv_iconst (v := 0) hx hb dX4_isPlace_25 (by decide) ?_
    cases hF
    exact hret _ _ _ _ dX4_isPlace_26 nb0 hP hD hS
  · have hF := ifn hF c_1
    refine lv_iload_n hx hb dX4_isPlace_4 rfl (lv_at hl 0 rfl) ?_
    refine lv_sipush (v := 360) hx hb dX4_isPlace_5 (by decide) ?_
    refine lv_icmp_ge (tgt := 25) hx hb dX4_isPlace_8 (by decide) (fun c_2 => ?_) (fun c_2 => ?_)
    · have hF := ifp hF c_2
      refine lv_iconst (v := 0) hx hb dX4_isPlace_25 (by decide) ?_
      cases hF
      exact hret _ _ _ _ dX4_isPlace_26 nb0 hP hD hS
    · have hF := ifn hF c_2
      refine lv_iload_n hx hb dX4_isPlace_11 rfl (lv_at hl 1 rfl) ?_
      refine lv_if_lt (tgt := 25) hx hb dX4_isPlace_12 (by decide) (fun c_3 => ?_) (fun c_3 => ?_)
      · have hF := ifp hF c_3
        refine lv_iconst (v := 0) hx hb dX4_isPlace_25 (by decide) ?_
        cases hF
        exact hret _ _ _ _ dX4_isPlace_26 nb0 hP hD hS
      · have hF := ifn hF c_3
        refine lv_iload_n hx hb dX4_isPlace_15 rfl (lv_at hl 1 rfl) ?_
        refine lv_bipush (v := 20) hx hb dX4_isPlace_16 (by decide) ?_
        refine lv_icmp_ge (tgt := 25) hx hb dX4_isPlace_18 (by decide) (fun c_4 => ?_) (fun c_4 => ?_)
        · have hF := ifp hF c_4
          refine lv_iconst (v := 0) hx hb dX4_isPlace_25 (by decide) ?_
          cases hF
          exact hret _ _ _ _ dX4_isPlace_26 nb0 hP hD hS
        · have hF := ifn hF c_4
          refine lv_iconst (v := 1) hx hb dX4_isPlace_21 (by decide) ?_
          refine lv_goto (tgt := 26) hx hb dX4_isPlace_22 (by decide) ?_
          cases hF
          exact hret _ _ _ _ dX4_isPlace_26 nb1 hP hD hS
abbrev rmX4_isColour : Room := { frames := 1, cells := 0, slots := 0, locals := 32 }
set_option maxRecDepth 100000 in
set_option maxHeartbeats 4000000 in
theorem c_X4_isColour (l : Launch) (K : Kx) (D : va_G) (C : Nat → ClassId) (p1 : Int32) (z : Int32) (hF : F_X4_isColour p1 = some z) : MetI l yX4_isColour wsX4_isColour rmX4_isColour K D (tyV C) (([] : va_W)) [.int p1] (([] : va_W)) z := by
  refine met_int (cc := cX4_isColour) (maxL := 1) (ty := .boolean) (by decide +kernel) rfl (Nat.le_of_ble_eq_true rfl) ?_
  intro p e s m below meth c A Q ls ⟨hx, hb, hml, hown, hts, hK, hA, hZ⟩ hP hD hS hl hret
  have hown : s.vm.findClass RX4 = some m.cls := hown
  have hl : lv_has ls 1 [(0, .int p1)] := hl
  unfold F_X4_isColour at hF
  refine lv_iload_n hx hb dX4_isColour_0 rfl (lv_at hl 0 rfl) ?_
  refine lv_if_lt (tgt := 14) hx hb dX4_isColour_1 (by decide) (fun c_1 => ?_) (fun c_1 => ?_)
  · have hF := ifp hF c_1
    refine lv_iconst (v := 0) hx hb dX4_isColour_14 (by decide) ?_
    cases hF
    exact hret _ _ _ _ dX4_isColour_15 nb0 hP hD hS
  · have hF := ifn hF c_1
    refine lv_iload_n hx hb dX4_isColour_4 rfl (lv_at hl 0 rfl) ?_
    refine lv_bipush (v := 7) hx hb dX4_isColour_5 (by decide) ?_
    refine lv_icmp_gt (tgt := 14) hx hb dX4_isColour_7 (by decide) (fun c_2 => ?_) (fun c_2 => ?_)
    · have hF := ifp hF c_2
      refine lv_iconst (v := 0) hx hb dX4_isColour_14 (by decide) ?_
      cases hF
      exact hret _ _ _ _ dX4_isColour_15 nb0 hP hD hS
    · have hF := ifn hF c_2
      refine lv_iconst (v := 1) hx hb dX4_isColour_10 (by decide) ?_
      refine lv_goto (tgt := 15) hx hb dX4_isColour_11 (by decide) ?_
      cases hF
      exact hret _ _ _ _ dX4_isColour_15 nb1 hP hD hS
abbrev rmX4_offsetOf : Room := { frames := 1, cells := 0, slots := 0, locals := 32 }
set_option maxRecDepth 100000 in
set_option maxHeartbeats 4000000 in
theorem c_X4_offsetOf (l : Launch) (K : Kx) (D : va_G) (C : Nat → ClassId) (p1 : Int32) (z : Int32) (hF : F_X4_offsetOf p1 = some z) : MetI l yX4_offsetOf wsX4_offsetOf rmX4_offsetOf K D (tyV C) (([] : va_W)) [.int p1] (([] : va_W)) z := by
  refine met_int (cc := cX4_offsetOf) (maxL := 2) (ty := .int) (by decide +kernel) rfl (Nat.le_of_ble_eq_true rfl) ?_
  intro p e s m below meth c A Q ls ⟨hx, hb, hml, hown, hts, hK, hA, hZ⟩ hP hD hS hl hret
  have hown : s.vm.findClass RX4 = some m.cls := hown
  have hl : lv_has ls 2 [(0, .int p1)] := hl
  unfold F_X4_offsetOf at hF
  refine lv_iload_n hx hb dX4_offsetOf_0 rfl (lv_at hl 0 rfl) ?_
  refine lv_bipush (v := 20) hx hb dX4_offsetOf_1 (by decide) ?_
  refine lv_isub hx hb dX4_offsetOf_3 ?_
  refine lv_topi (fun v_1 ev_1 => ?_)
  have hF := nm_at hF ev_1
  refine lv_istore_n (lv' := [(1, .int v_1), (0, .int p1)]) hx hb dX4_offsetOf_4 rfl hl (by decide) rfl (fun ls hl => ?_)
  refine lv_iload_n hx hb dX4_offsetOf_5 rfl (lv_at hl 0 rfl) ?_
  refine lv_iload_n hx hb dX4_offsetOf_6 rfl (lv_at hl 0 rfl) ?_
  refine lv_iload_n hx hb dX4_offsetOf_7 rfl (lv_at hl 0 rfl) ?_
  refine lv_imul hx hb dX4_offsetOf_8 ?_
  refine lv_iload_n hx hb dX4_offsetOf_9 rfl (lv_at hl 0 rfl) ?_
  refine lv_imul hx hb dX4_offsetOf_10 ?_
  refine lv_sipush (v := 6000) hx hb dX4_offsetOf_11 (by decide) ?_
  refine lv_idiv hx hb dX4_offsetOf_14 (by decide) ?_
  refine lv_isub hx hb dX4_offsetOf_15 ?_
  cases hF
  exact hret _ _ _ _ dX4_offsetOf_16 rfl hP hD hS
abbrev rmX4_stretchOf : Room := { frames := 1, cells := 0, slots := 0, locals := 32 }
set_option maxRecDepth 100000 in
set_option maxHeartbeats 4000000 in
theorem c_X4_stretchOf (l : Launch) (K : Kx) (D : va_G) (C : Nat → ClassId) (p1 : Int32) (z : Int32) (hF : F_X4_stretchOf p1 = some z) : MetI l yX4_stretchOf wsX4_stretchOf rmX4_stretchOf K D (tyV C) (([] : va_W)) [.int p1] (([] : va_W)) z := by
  refine met_int (cc := cX4_stretchOf) (maxL := 2) (ty := .int) (by decide +kernel) rfl (Nat.le_of_ble_eq_true rfl) ?_
  intro p e s m below meth c A Q ls ⟨hx, hb, hml, hown, hts, hK, hA, hZ⟩ hP hD hS hl hret
  have hown : s.vm.findClass RX4 = some m.cls := hown
  have hl : lv_has ls 2 [(0, .int p1)] := hl
  unfold F_X4_stretchOf at hF
  refine lv_iload_n hx hb dX4_stretchOf_0 rfl (lv_at hl 0 rfl) ?_
  refine lv_bipush (v := 20) hx hb dX4_stretchOf_1 (by decide) ?_
  refine lv_isub hx hb dX4_stretchOf_3 ?_
  refine lv_topi (fun v_1 ev_1 => ?_)
  have hF := nm_at hF ev_1
  refine lv_istore_n (lv' := [(1, .int v_1), (0, .int p1)]) hx hb dX4_stretchOf_4 rfl hl (by decide) rfl (fun ls hl => ?_)
  refine lv_sipush (v := 1000) hx hb dX4_stretchOf_5 (by decide) ?_
  refine lv_iload_n hx hb dX4_stretchOf_8 rfl (lv_at hl 0 rfl) ?_
  refine lv_iload_n hx hb dX4_stretchOf_9 rfl (lv_at hl 0 rfl) ?_
  refine lv_imul hx hb dX4_stretchOf_10 ?_
  refine lv_iadd hx hb dX4_stretchOf_11 ?_
  cases hF
  exact hret _ _ _ _ dX4_stretchOf_12 rfl hP hD hS
abbrev rmX4_columnOf : Room := { frames := 2, cells := 0, slots := 0, locals := 54 }
set_option maxRecDepth 100000 in
set_option maxHeartbeats 4000000 in
theorem c_X4_columnOf (l : Launch) (K : Kx) (D : va_G) (C : Nat → ClassId) (p1 : Int32) (p2 : Int32) (z : Int32) (hF : F_X4_columnOf p1 p2 = some z) : MetI l yX4_columnOf wsX4_columnOf rmX4_columnOf K D (tyV C) (([] : va_W)) [.int p1, .int p2] (([] : va_W)) z := by
  refine met_int (cc := cX4_columnOf) (maxL := 2) (ty := .int) (by decide +kernel) rfl (Nat.le_of_ble_eq_true rfl) ?_
  intro p e s m below meth c A Q ls ⟨hx, hb, hml, hown, hts, hK, hA, hZ⟩ hP hD hS hl hret
  have hown : s.vm.findClass RX4 = some m.cls := hown
  have hl : lv_has ls 2 [(0, .int p1), (1, .int p2)] := hl
  unfold F_X4_columnOf at hF
  refine lv_bipush (v := 30) hx hb dX4_columnOf_0 (by decide) ?_
  refine lv_iload_n hx hb dX4_columnOf_2 rfl (lv_at hl 0 rfl) ?_
  refine lv_imul hx hb dX4_columnOf_3 ?_
  refine lv_iload_n hx hb dX4_columnOf_4 rfl (lv_at hl 1 rfl) ?_
  obtain ⟨z_1, fz_1, hF⟩ := bd_at hF
  refine callS_int (As := [.int p2]) (rest := [.int (30 * p1)]) ⟨hx, hb, hml, hown, hts⟩ hK hA hZ (c_X4_offsetOf l K D C p2 z_1 fz_1) (va_cwS 1 hts gX4_columnOf_X4_offsetOf rfl rfl rfl (by decide +kernel) ⟨Nat.le_of_ble_eq_true rfl, Nat.le_of_ble_eq_true rfl⟩) rfl hl.1 rfl (Nat.le_of_ble_eq_true rfl) ⟨Nat.zero_le _, Nat.zero_le _⟩ hP hS dX4_columnOf_5 (fun H locs hP hS => ?_)
  refine lv_iadd hx hb dX4_columnOf_8 ?_
  refine lv_sipush (v := 360) hx hb dX4_columnOf_9 (by decide) ?_
  obtain ⟨z_2, fz_2, hF⟩ := bd_at hF
  refine callS_int (As := [.int ((30 * p1) + z_1), .int 360]) (rest := []) ⟨hx, hb, hml, hown, hts⟩ hK hA hZ (c_J9_floorMod_7cf53 l K D C ((30 * p1) + z_1) 360 z_2 fz_2) (va_cwS 2 hts gX4_columnOf_J9_floorMod_7cf53 rfl rfl rfl (by decide +kernel) ⟨Nat.le_of_ble_eq_true rfl, Nat.le_of_ble_eq_true rfl⟩) rfl hl.1 rfl (Nat.le_of_ble_eq_true rfl) ⟨Nat.zero_le _, Nat.zero_le _⟩ hP hS dX4_columnOf_12 (fun H locs hP hS => ?_)
  cases hF
  exact hret _ _ _ _ dX4_columnOf_15 rfl hP hD hS
abbrev rmX4_rowOf : Room := { frames := 2, cells := 0, slots := 0, locals := 53 }
set_option maxRecDepth 100000 in
set_option maxHeartbeats 4000000 in
theorem c_X4_rowOf (l : Launch) (K : Kx) (D : va_G) (C : Nat → ClassId) (p1 : Int32) (p2 : Int32) (z : Int32) (hF : F_X4_rowOf p1 p2 = some z) : MetI l yX4_rowOf wsX4_rowOf rmX4_rowOf K D (tyV C) (([] : va_W)) [.int p1, .int p2] (([] : va_W)) z := by
  refine met_int (cc := cX4_rowOf) (maxL := 2) (ty := .int) (by decide +kernel) rfl (Nat.le_of_ble_eq_true rfl) ?_
  intro p e s m below meth c A Q ls ⟨hx, hb, hml, hown, hts, hK, hA, hZ⟩ hP hD hS hl hret
  have hown : s.vm.findClass RX4 = some m.cls := hown
  have hl : lv_has ls 2 [(0, .int p1), (1, .int p2)] := hl
  unfold F_X4_rowOf at hF
  refine lv_iload_n hx hb dX4_rowOf_0 rfl (lv_at hl 1 rfl) ?_
  refine lv_sipush (v := 1000) hx hb dX4_rowOf_1 (by decide) ?_
  refine lv_imul hx hb dX4_rowOf_4 ?_
  refine lv_iload_n hx hb dX4_rowOf_5 rfl (lv_at hl 0 rfl) ?_
  obtain ⟨z_1, fz_1, hF⟩ := bd_at hF
  refine callS_int (As := [.int p1]) (rest := [.int (p2 * 1000)]) ⟨hx, hb, hml, hown, hts⟩ hK hA hZ (c_X4_stretchOf l K D C p1 z_1 fz_1) (va_cwS 1 hts gX4_rowOf_X4_stretchOf rfl rfl rfl (by decide +kernel) ⟨Nat.le_of_ble_eq_true rfl, Nat.le_of_ble_eq_true rfl⟩) rfl hl.1 rfl (Nat.le_of_ble_eq_true rfl) ⟨Nat.zero_le _, Nat.zero_le _⟩ hP hS dX4_rowOf_6 (fun H locs hP hS => ?_)
  obtain ⟨n_2, hF⟩ := nz_at hF
  refine lv_idiv hx hb dX4_rowOf_9 n_2 ?_
  cases hF
  exact hret _ _ _ _ dX4_rowOf_10 rfl hP hD hS
abbrev rmX4_squareOf : Room := { frames := 1, cells := 0, slots := 0, locals := 32 }
set_option maxRecDepth 100000 in
set_option maxHeartbeats 4000000 in
theorem c_X4_squareOf (l : Launch) (K : Kx) (D : va_G) (C : Nat → ClassId) (p1 : Int32) (p2 : Int32) (z : Int32) (hF : F_X4_squareOf p1 p2 = some z) : MetI l yX4_squareOf wsX4_squareOf rmX4_squareOf K D (tyV C) (([] : va_W)) [.int p1, .int p2] (([] : va_W)) z := by
  refine met_int (cc := cX4_squareOf) (maxL := 2) (ty := .int) (by decide +kernel) rfl (Nat.le_of_ble_eq_true rfl) ?_
  intro p e s m below meth c A Q ls ⟨hx, hb, hml, hown, hts, hK, hA, hZ⟩ hP hD hS hl hret
  have hown : s.vm.findClass RX4 = some m.cls := hown
  have hl : lv_has ls 2 [(0, .int p1), (1, .int p2)] := hl
  unfold F_X4_squareOf at hF
  refine lv_iload_n hx hb dX4_squareOf_0 rfl (lv_at hl 0 rfl) ?_
  refine lv_bipush (v := 10) hx hb dX4_squareOf_1 (by decide) ?_
  refine lv_idiv hx hb dX4_squareOf_3 (by decide) ?_
  refine lv_iload_n hx hb dX4_squareOf_4 rfl (lv_at hl 1 rfl) ?_
  refine lv_bipush (v := 10) hx hb dX4_squareOf_5 (by decide) ?_
  refine lv_icmp_ge (tgt := 15) hx hb dX4_squareOf_7 (by decide) (fun c_1 => ?_) (fun c_1 => ?_)
  · have hF := ifp hF c_1
    refine lv_iconst (v := 0) hx hb dX4_squareOf_15 (by decide) ?_
    refine lv_iadd hx hb dX4_squareOf_16 ?_
    cases hF
    exact hret _ _ _ _ dX4_squareOf_17 rfl hP hD hS
  · have hF := ifn hF c_1
    refine lv_bipush (v := 36) hx hb dX4_squareOf_10 (by decide) ?_
    refine lv_goto (tgt := 16) hx hb dX4_squareOf_12 (by decide) ?_
    refine lv_iadd hx hb dX4_squareOf_16 ?_
    cases hF
    exact hret _ _ _ _ dX4_squareOf_17 rfl hP hD hS
abbrev rmX4_placeInMarks : Room := { frames := 1, cells := 0, slots := 0, locals := 32 }
set_option maxRecDepth 100000 in
set_option maxHeartbeats 4000000 in
theorem c_X4_placeInMarks (l : Launch) (K : Kx) (D : va_G) (C : Nat → ClassId) (p1 : Int32) (p2 : Int32) (p3 : Int32) (z : Int32) (hF : F_X4_placeInMarks p1 p2 p3 = some z) : MetI l yX4_placeInMarks wsX4_placeInMarks rmX4_placeInMarks K D (tyV C) (([] : va_W)) [.int p1, .int p2, .int p3] (([] : va_W)) z := by
  refine met_int (cc := cX4_placeInMarks) (maxL := 3) (ty := .int) (by decide +kernel) rfl (Nat.le_of_ble_eq_true rfl) ?_
  intro p e s m below meth c A Q ls ⟨hx, hb, hml, hown, hts, hK, hA, hZ⟩ hP hD hS hl hret
  have hown : s.vm.findClass RX4 = some m.cls := hown
  have hl : lv_has ls 3 [(0, .int p1), (1, .int p2), (2, .int p3)] := hl
  unfold F_X4_placeInMarks at hF
  refine lv_iload_n hx hb dX4_placeInMarks_0 rfl (lv_at hl 0 rfl) ?_
  refine lv_bipush (v := 40) hx hb dX4_placeInMarks_1 (by decide) ?_
  refine lv_imul hx hb dX4_placeInMarks_3 ?_
  refine lv_iload_n hx hb dX4_placeInMarks_4 rfl (lv_at hl 1 rfl) ?_
  refine lv_iadd hx hb dX4_placeInMarks_5 ?_
  refine lv_bipush (v := 20) hx hb dX4_placeInMarks_6 (by decide) ?_
  refine lv_imul hx hb dX4_placeInMarks_8 ?_
  refine lv_iload_n hx hb dX4_placeInMarks_9 rfl (lv_at hl 2 rfl) ?_
  refine lv_iadd hx hb dX4_placeInMarks_10 ?_
  cases hF
  exact hret _ _ _ _ dX4_placeInMarks_11 rfl hP hD hS
abbrev rmX4_partOfWay : Room := { frames := 2, cells := 0, slots := 0, locals := 54 }
set_option maxRecDepth 100000 in
set_option maxHeartbeats 4000000 in
theorem c_X4_partOfWay (l : Launch) (K : Kx) (D : va_G) (C : Nat → ClassId) (p1 : Int32) (p2 : Int32) (p3 : Int32) (z : Int32) (hF : F_X4_partOfWay p1 p2 p3 = some z) : MetI l yX4_partOfWay wsX4_partOfWay rmX4_partOfWay K D (tyV C) (([] : va_W)) [.int p1, .int p2, .int p3] (([] : va_W)) z := by
  refine met_int (cc := cX4_partOfWay) (maxL := 3) (ty := .int) (by decide +kernel) rfl (Nat.le_of_ble_eq_true rfl) ?_
  intro p e s m below meth c A Q ls ⟨hx, hb, hml, hown, hts, hK, hA, hZ⟩ hP hD hS hl hret
  have hown : s.vm.findClass RX4 = some m.cls := hown
  have hl : lv_has ls 3 [(0, .int p1), (1, .int p2), (2, .int p3)] := hl
  unfold F_X4_partOfWay at hF
  refine lv_iload_n hx hb dX4_partOfWay_0 rfl (lv_at hl 2 rfl) ?_
  refine lv_iconst (v := 1) hx hb dX4_partOfWay_1 (by decide) ?_
  refine lv_icmp_ge (tgt := 9) hx hb dX4_partOfWay_2 (by decide) (fun c_1 => ?_) (fun c_1 => ?_)
  · have hF := ifp hF c_1
    refine lv_iload_n hx hb dX4_partOfWay_9 rfl (lv_at hl 0 rfl) ?_
    refine lv_iload_n hx hb dX4_partOfWay_10 rfl (lv_at hl 1 rfl) ?_
    refine lv_imul hx hb dX4_partOfWay_11 ?_
    refine lv_iload_n hx hb dX4_partOfWay_12 rfl (lv_at hl 2 rfl) ?_
    obtain ⟨z_2, fz_2, hF⟩ := bd_at hF
    refine callS_int (As := [.int (p1 * p2), .int p3]) (rest := []) ⟨hx, hb, hml, hown, hts⟩ hK hA hZ (c_J9_floorDiv_7cf53 l K D C (p1 * p2) p3 z_2 fz_2) (va_cwS 2 hts gX4_partOfWay_J9_floorDiv_7cf53 rfl rfl rfl (by decide +kernel) ⟨Nat.le_of_ble_eq_true rfl, Nat.le_of_ble_eq_true rfl⟩) rfl hl.1 rfl (Nat.le_of_ble_eq_true rfl) ⟨Nat.zero_le _, Nat.zero_le _⟩ hP hS dX4_partOfWay_13 (fun H locs hP hS => ?_)
    cases hF
    exact hret _ _ _ _ dX4_partOfWay_16 rfl hP hD hS
  · have hF := ifn hF c_1
    refine lv_iconst (v := 0) hx hb dX4_partOfWay_5 (by decide) ?_
    refine lv_goto (tgt := 16) hx hb dX4_partOfWay_6 (by decide) ?_
    cases hF
    exact hret _ _ _ _ dX4_partOfWay_16 rfl hP hD hS
abbrev rmX4_colourInStrip : Room := { frames := 2, cells := 0, slots := 0, locals := 54 }
set_option maxRecDepth 100000 in
set_option maxHeartbeats 4000000 in
theorem c_X4_colourInStrip (l : Launch) (K : Kx) (D : va_G) (C : Nat → ClassId) (a4 : Nat → Nat) (A4 : Nat → Nat → Int32) (p1 : Int32) (p2 : Int32) (p3 : Int32) (z : Int32) (hF : F_X4_colourInStrip A4 p1 p2 p3 = some z) : MetI l yX4_colourInStrip wsX4_colourInStrip rmX4_colourInStrip K D (tyV C) (wX4 C a4 A4) [.ref (a4 0), .int p1, .int p2, .int p3] (wX4 C a4 A4) z := by
  refine met_int (cc := cX4_colourInStrip) (maxL := 7) (ty := .int) (by decide +kernel) rfl (Nat.le_of_ble_eq_true rfl) ?_
  intro p e s m below meth c A Q ls ⟨hx, hb, hml, hown, hts, hK, hA, hZ⟩ hP hD hS hl hret
  have hown : s.vm.findClass RX4 = some m.cls := hown
  have hiX4 : ∀ w ∈ u_ws RX4 TX4 2, w ∈ wsX4_colourInStrip := by decide +kernel
  have hl : lv_has ls 7 [(0, .ref (a4 0)), (1, .int p1), (2, .int p2), (3, .int p3)] := hl
  unfold F_X4_colourInStrip at hF
  obtain ⟨J91, eJ91, hF⟩ := nm_ex hF
  have bJ91 : J91 = some z → ∀ (H : Heap) (locs : List Loc) (ls : Array Slot), va_P D vwCl (wX4 C a4 A4) H → va_D A (wX4 C a4 A4) → va_S A s.heap H locs → lv_has ls 7 [] → W p l e rmX4_colourInStrip s m ([.ref (a4 0), .int p1, .int p2, .int p3] : List Value).toArray below meth c H locs 0 0 Q (F0 m 91 ls []) := by
    intro  hF H locs ls hP hD hS hl
    rw [eJ91] at hF
    refine lv_iconst (v := 0) hx hb dX4_colourInStrip_91 (by decide) ?_
    cases hF
    exact hret _ _ _ _ dX4_colourInStrip_92 rfl hP hD hS
  have bL29 : ∀ (n : Nat) (x1 : Int32) (x2 : Int32) (x3 : Int32) (x4 : Int32) (x6 : Int32), L_X4_colourInStrip_29 A4 J91 n x1 x2 x3 x4 x6 = some z → ∀ (H : Heap) (locs : List Loc) (ls : Array Slot), va_P D vwCl (wX4 C a4 A4) H → va_D A (wX4 C a4 A4) → va_S A s.heap H locs → lv_has ls 7 [(0, .ref (a4 0)), (1, .int x1), (2, .int x2), (3, .int x3), (4, .int x4), (6, .int x6)] → W p l e rmX4_colourInStrip s m ([.ref (a4 0), .int p1, .int p2, .int p3] : List Value).toArray below meth c H locs 0 0 Q (F0 m 29 ls []) := by
    intro n
    induction n with
    | zero => intro x1 x2 x3 x4 x6 hF; rw [L_X4_colourInStrip_29.eq_1] at hF; cases hF
    | succ n ih29 =>
      intro x1 x2 x3 x4 x6 hF H locs ls hP hD hS hl
      rw [L_X4_colourInStrip_29.eq_2] at hF
      obtain ⟨J85, eJ85, hF⟩ := nm_ex hF
      have bJ85 : ∀ (x1 : Int32) (x2 : Int32) (x3 : Int32) (x4 : Int32) (x6 : Int32), J85 x1 x2 x3 x4 x6 = some z → ∀ (H : Heap) (locs : List Loc) (ls : Array Slot), va_P D vwCl (wX4 C a4 A4) H → va_D A (wX4 C a4 A4) → va_S A s.heap H locs → lv_has ls 7 [(0, .ref (a4 0)), (1, .int x1), (2, .int x2), (3, .int x3), (4, .int x4), (6, .int x6)] → W p l e rmX4_colourInStrip s m ([.ref (a4 0), .int p1, .int p2, .int p3] : List Value).toArray below meth c H locs 0 0 Q (F0 m 85 ls []) := by
        intro x1 x2 x3 x4 x6 hF H locs ls hP hD hS hl
        rw [eJ85] at hF
        obtain ⟨v_1, ev_1⟩ : ∃ y : Int32, y = x6 + (-1) := ⟨_, rfl⟩
        have hF := nm_at hF ev_1
        refine lv_iinc (v := v_1) (lv' := [(6, .int v_1), (0, .ref (a4 0)), (1, .int x1), (2, .int x2), (3, .int x3), (4, .int x4)]) hx hb dX4_colourInStrip_85 hl (k := 5) rfl (by rw [ev_1]; rfl) (by decide) rfl (fun ls hl => ?_)
        refine lv_goto (tgt := 29) hx hb dX4_colourInStrip_88 (by decide) ?_
        exact ih29 x1 x2 x3 x4 v_1 hF _ _ _ hP hD hS (lv_sub hl [1, 2, 3, 4, 5, 0] rfl)
      refine lv_iload hx hb dX4_colourInStrip_29 (lv_at hl 5 rfl) ?_
      refine lv_if_lt (tgt := 91) hx hb dX4_colourInStrip_31 (by decide) (fun c_2 => ?_) (fun c_2 => ?_)
      · have hF := ifp hF c_2
        exact bJ91  hF _ _ _ hP hD hS (lv_sub hl [] rfl)
      · have hF := ifn hF c_2
        refine lv_iload hx hb dX4_colourInStrip_34 (lv_at hl 5 rfl) ?_
        refine lv_sipush (v := 1000) hx hb dX4_colourInStrip_36 (by decide) ?_
        refine lv_imul hx hb dX4_colourInStrip_39 ?_
        refine lv_iload_n hx hb dX4_colourInStrip_40 rfl (lv_at hl 3 rfl) ?_
        refine lv_iload hx hb dX4_colourInStrip_41 (lv_at hl 4 rfl) ?_
        refine lv_imul hx hb dX4_colourInStrip_43 ?_
        refine lv_icmp_lt (tgt := 91) hx hb dX4_colourInStrip_44 (by decide) (fun c_3 => ?_) (fun c_3 => ?_)
        · have hF := ifp hF c_3
          exact bJ91  hF _ _ _ hP hD hS (lv_sub hl [] rfl)
        · have hF := ifn hF c_3
          refine lv_iload_n hx hb dX4_colourInStrip_47 rfl (lv_at hl 1 rfl) ?_
          refine lv_iload_n hx hb dX4_colourInStrip_48 rfl (lv_at hl 2 rfl) ?_
          refine lv_iload hx hb dX4_colourInStrip_49 (lv_at hl 5 rfl) ?_
          obtain ⟨z_4, fz_4, hF⟩ := bd_at hF
          refine callS_int (As := [.int x1, .int x2, .int x6]) (rest := []) ⟨hx, hb, hml, hown, hts⟩ hK hA hZ (c_X4_isMark l K D C x1 x2 x6 z_4 fz_4) (va_cwS 3 hts gX4_colourInStrip_X4_isMark rfl rfl rfl (by decide +kernel) ⟨Nat.le_of_ble_eq_true rfl, Nat.le_of_ble_eq_true rfl⟩) rfl hl.1 rfl (Nat.le_of_ble_eq_true rfl) ⟨Nat.zero_le _, Nat.zero_le _⟩ hP hS dX4_colourInStrip_51 (fun H locs hP hS => ?_)
          refine lv_if_eq (tgt := 85) hx hb dX4_colourInStrip_54 (by decide) (fun c_5 => ?_) (fun c_5 => ?_)
          · have hF := ifp hF c_5
            exact bJ85 x1 x2 x3 x4 x6 hF _ _ _ hP hD hS (lv_sub hl [0, 1, 2, 3, 4, 5] rfl)
          · have hF := ifn hF c_5
            refine lv_aload_n hx hb dX4_colourInStrip_57 rfl (lv_at hl 0 rfl) ?_
            refine va_get (D := D) (ci := 4) (v := .ref (a4 1)) (C := RX4) (T := TX4) (N := 2) hx hb hts hiX4 hown hK hP 0 rfl rfl 0 (by decide) (hts (.fieldLink RX4 9 "PanoramaHouse$Round" "marks" "[B") (by decide +kernel)) (fun _ h9 => h9) rfl dX4_colourInStrip_58 ?_
            refine lv_iload_n hx hb dX4_colourInStrip_61 rfl (lv_at hl 1 rfl) ?_
            refine lv_iload_n hx hb dX4_colourInStrip_62 rfl (lv_at hl 2 rfl) ?_
            refine lv_iload hx hb dX4_colourInStrip_63 (lv_at hl 5 rfl) ?_
            obtain ⟨z_6, fz_6, hF⟩ := bd_at hF
            refine callS_int (As := [.int x1, .int x2, .int x6]) (rest := [.ref (a4 1)]) ⟨hx, hb, hml, hown, hts⟩ hK hA hZ (c_X4_placeInMarks l K D C x1 x2 x6 z_6 fz_6) (va_cwS 3 hts gX4_colourInStrip_X4_placeInMarks rfl rfl rfl (by decide +kernel) ⟨Nat.le_of_ble_eq_true rfl, Nat.le_of_ble_eq_true rfl⟩) rfl hl.1 rfl (Nat.le_of_ble_eq_true rfl) ⟨Nat.zero_le _, Nat.zero_le _⟩ hP hS dX4_colourInStrip_65 (fun H locs hP hS => ?_)
            obtain ⟨h_7, hF⟩ := ix_at hF
            refine va_bald hx hb hK hP 1 1 rfl rfl h_7 dX4_colourInStrip_68 ?_
            refine lv_if_eq (tgt := 85) hx hb dX4_colourInStrip_69 (by decide) (fun c_8 => ?_) (fun c_8 => ?_)
            · have hF := ifp hF c_8
              exact bJ85 x1 x2 x3 x4 x6 hF _ _ _ hP hD hS (lv_sub hl [0, 1, 2, 3, 4, 5] rfl)
            · have hF := ifn hF c_8
              refine lv_aload_n hx hb dX4_colourInStrip_72 rfl (lv_at hl 0 rfl) ?_
              refine va_get (D := D) (ci := 4) (v := .ref (a4 1)) (C := RX4) (T := TX4) (N := 2) hx hb hts hiX4 hown hK hP 0 rfl rfl 0 (by decide) (hts (.fieldLink RX4 9 "PanoramaHouse$Round" "marks" "[B") (by decide +kernel)) (fun _ h9 => h9) rfl dX4_colourInStrip_73 ?_
              refine lv_iload_n hx hb dX4_colourInStrip_76 rfl (lv_at hl 1 rfl) ?_
              refine lv_iload_n hx hb dX4_colourInStrip_77 rfl (lv_at hl 2 rfl) ?_
              refine lv_iload hx hb dX4_colourInStrip_78 (lv_at hl 5 rfl) ?_
              obtain ⟨z_9, fz_9, hF⟩ := bd_at hF
              refine callS_int (As := [.int x1, .int x2, .int x6]) (rest := [.ref (a4 1)]) ⟨hx, hb, hml, hown, hts⟩ hK hA hZ (c_X4_placeInMarks l K D C x1 x2 x6 z_9 fz_9) (va_cwS 3 hts gX4_colourInStrip_X4_placeInMarks rfl rfl rfl (by decide +kernel) ⟨Nat.le_of_ble_eq_true rfl, Nat.le_of_ble_eq_true rfl⟩) rfl hl.1 rfl (Nat.le_of_ble_eq_true rfl) ⟨Nat.zero_le _, Nat.zero_le _⟩ hP hS dX4_colourInStrip_80 (fun H locs hP hS => ?_)
              obtain ⟨h_10, hF⟩ := ix_at hF
              refine va_bald hx hb hK hP 1 1 rfl rfl h_10 dX4_colourInStrip_83 ?_
              cases hF
              exact hret _ _ _ _ dX4_colourInStrip_84 rfl hP hD hS
  refine lv_iload_n hx hb dX4_colourInStrip_0 rfl (lv_at hl 2 rfl) ?_
  obtain ⟨z_11, fz_11, hF⟩ := bd_at hF
  refine callS_int (As := [.int p2]) (rest := []) ⟨hx, hb, hml, hown, hts⟩ hK hA hZ (c_X4_stretchOf l K D C p2 z_11 fz_11) (va_cwS 1 hts gX4_colourInStrip_X4_stretchOf rfl rfl rfl (by decide +kernel) ⟨Nat.le_of_ble_eq_true rfl, Nat.le_of_ble_eq_true rfl⟩) rfl hl.1 rfl (Nat.le_of_ble_eq_true rfl) ⟨Nat.zero_le _, Nat.zero_le _⟩ hP hS dX4_colourInStrip_1 (fun H locs hP hS => ?_)
  refine lv_istore (lv' := [(4, .int z_11), (0, .ref (a4 0)), (1, .int p1), (2, .int p2), (3, .int p3)]) hx hb dX4_colourInStrip_4 hl (by decide) rfl (fun ls hl => ?_)
  refine lv_iload_n hx hb dX4_colourInStrip_6 rfl (lv_at hl 4 rfl) ?_
  refine lv_iconst (v := 1) hx hb dX4_colourInStrip_7 (by decide) ?_
  refine lv_iadd hx hb dX4_colourInStrip_8 ?_
  refine lv_iload hx hb dX4_colourInStrip_9 (lv_at hl 0 rfl) ?_
  refine lv_imul hx hb dX4_colourInStrip_11 ?_
  refine lv_iconst (v := 1) hx hb dX4_colourInStrip_12 (by decide) ?_
  refine lv_isub hx hb dX4_colourInStrip_13 ?_
  refine lv_sipush (v := 1000) hx hb dX4_colourInStrip_14 (by decide) ?_
  refine lv_idiv hx hb dX4_colourInStrip_17 (by decide) ?_
  refine lv_bipush (v := 19) hx hb dX4_colourInStrip_18 (by decide) ?_
  refine va_mmin hx hb (hml.trans hl.1.symm) hown (hts (.methodLink RX4 81 Lib.Math.min.name) (by decide +kernel)) (hts (.static Lib.Math.min.name) (by decide +kernel)) (hts (.initialized "java/lang/Math") (by decide +kernel)) (hts (.code Lib.Math.min.name Lib.Math.min.code 2 (some .int)) (by decide +kernel)) (Nat.le_of_ble_eq_true rfl) (Nat.le_of_ble_eq_true rfl) (Nat.zero_le _) (Nat.zero_le _) dX4_colourInStrip_20 ?_
  refine lv_topi (fun v_12 ev_12 => ?_)
  have hF := nm_at hF ev_12
  refine lv_istore (lv' := [(5, .int v_12), (4, .int z_11), (0, .ref (a4 0)), (1, .int p1), (2, .int p2), (3, .int p3)]) hx hb dX4_colourInStrip_23 hl (by decide) rfl (fun ls hl => ?_)
  refine lv_iload hx hb dX4_colourInStrip_25 (lv_at hl 0 rfl) ?_
  refine lv_istore (lv' := [(6, .int v_12), (5, .int v_12), (4, .int z_11), (0, .ref (a4 0)), (1, .int p1), (2, .int p2), (3, .int p3)]) hx hb dX4_colourInStrip_27 hl (by decide) rfl (fun ls hl => ?_)
  exact bL29 FU p1 p2 p3 z_11 v_12 hF _ _ _ hP hD hS (lv_sub hl [3, 4, 5, 6, 2, 0] rfl)
abbrev rmX4_colourShown : Room := { frames := 3, cells := 0, slots := 0, locals := 80 }
set_option maxRecDepth 100000 in
set_option maxHeartbeats 4000000 in
theorem c_X4_colourShown (l : Launch) (K : Kx) (D : va_G) (C : Nat → ClassId) (a4 : Nat → Nat) (A4 : Nat → Nat → Int32) (p1 : Int32) (p2 : Int32) (p3 : Int32) (z : Int32) (hF : F_X4_colourShown A4 p1 p2 p3 = some z) : MetI l yX4_colourShown wsX4_colourShown rmX4_colourShown K D (tyV C) (wX4 C a4 A4) [.ref (a4 0), .int p1, .int p2, .int p3] (wX4 C a4 A4) z := by
  refine met_int (cc := cX4_colourShown) (maxL := 9) (ty := .int) (by decide +kernel) rfl (Nat.le_of_ble_eq_true rfl) ?_
  intro p e s m below meth c A Q ls ⟨hx, hb, hml, hown, hts, hK, hA, hZ⟩ hP hD hS hl hret
  have hown : s.vm.findClass RX4 = some m.cls := hown
  have hl : lv_has ls 9 [(0, .ref (a4 0)), (1, .int p1), (2, .int p2), (3, .int p3)] := hl
  unfold F_X4_colourShown at hF
  obtain ⟨J102, eJ102, hF⟩ := nm_ex hF
  have bJ102 : J102 = some z → ∀ (H : Heap) (locs : List Loc) (ls : Array Slot), va_P D vwCl (wX4 C a4 A4) H → va_D A (wX4 C a4 A4) → va_S A s.heap H locs → lv_has ls 9 [] → W p l e rmX4_colourShown s m ([.ref (a4 0), .int p1, .int p2, .int p3] : List Value).toArray below meth c H locs 0 0 Q (F0 m 102 ls []) := by
    intro  hF H locs ls hP hD hS hl
    rw [eJ102] at hF
    refine lv_iconst (v := 0) hx hb dX4_colourShown_102 (by decide) ?_
    cases hF
    exact hret _ _ _ _ dX4_colourShown_103 rfl hP hD hS
  have bL55 : ∀ (n : Nat) (x1 : Int32) (x3 : Int32) (x5 : Int32) (x6 : Int32) (x7 : Int32), L_X4_colourShown_55 A4 J102 n x1 x3 x5 x6 x7 = some z → ∀ (H : Heap) (locs : List Loc) (ls : Array Slot), va_P D vwCl (wX4 C a4 A4) H → va_D A (wX4 C a4 A4) → va_S A s.heap H locs → lv_has ls 9 [(0, .ref (a4 0)), (1, .int x1), (3, .int x3), (5, .int x5), (6, .int x6), (7, .int x7)] → W p l e rmX4_colourShown s m ([.ref (a4 0), .int p1, .int p2, .int p3] : List Value).toArray below meth c H locs 0 0 Q (F0 m 55 ls []) := by
    intro n
    induction n with
    | zero => intro x1 x3 x5 x6 x7 hF; rw [L_X4_colourShown_55.eq_1] at hF; cases hF
    | succ n ih55 =>
      intro x1 x3 x5 x6 x7 hF H locs ls hP hD hS hl
      rw [L_X4_colourShown_55.eq_2] at hF
      obtain ⟨J86, eJ86, hF⟩ := nm_ex hF
      have bJ86 : ∀ (x1 : Int32) (x3 : Int32) (x5 : Int32) (x6 : Int32) (x7 : Int32) (y0 : Int32), J86 x1 x3 x5 x6 x7 y0 = some z → ∀ (H : Heap) (locs : List Loc) (ls : Array Slot), va_P D vwCl (wX4 C a4 A4) H → va_D A (wX4 C a4 A4) → va_S A s.heap H locs → lv_has ls 9 [(0, .ref (a4 0)), (1, .int x1), (3, .int x3), (5, .int x5), (6, .int x6), (7, .int x7)] → W p l e rmX4_colourShown s m ([.ref (a4 0), .int p1, .int p2, .int p3] : List Value).toArray below meth c H locs 0 0 Q (F0 m 86 ls [.int y0]) := by
        intro x1 x3 x5 x6 x7 y0 hF H locs ls hP hD hS hl
        rw [eJ86] at hF
        refine lv_istore (lv' := [(8, .int y0), (0, .ref (a4 0)), (1, .int x1), (3, .int x3), (5, .int x5), (6, .int x6), (7, .int x7)]) hx hb dX4_colourShown_86 hl (by decide) rfl (fun ls hl => ?_)
        refine lv_iload hx hb dX4_colourShown_88 (lv_at hl 0 rfl) ?_
        refine lv_if_eq (tgt := 96) hx hb dX4_colourShown_90 (by decide) (fun c_1 => ?_) (fun c_1 => ?_)
        · have hF := ifp hF c_1
          obtain ⟨v_2, ev_2⟩ : ∃ y : Int32, y = x7 + (-1) := ⟨_, rfl⟩
          have hF := nm_at hF ev_2
          refine lv_iinc (v := v_2) (lv' := [(7, .int v_2), (8, .int y0), (0, .ref (a4 0)), (1, .int x1), (3, .int x3), (5, .int x5), (6, .int x6)]) hx hb dX4_colourShown_96 hl (k := 6) rfl (by rw [ev_2]; rfl) (by decide) rfl (fun ls hl => ?_)
          refine lv_goto (tgt := 55) hx hb dX4_colourShown_99 (by decide) ?_
          exact ih55 x1 x3 x5 x6 v_2 hF _ _ _ hP hD hS (lv_sub hl [2, 3, 4, 5, 6, 0] rfl)
        · have hF := ifn hF c_1
          refine lv_iload hx hb dX4_colourShown_93 (lv_at hl 0 rfl) ?_
          cases hF
          exact hret _ _ _ _ dX4_colourShown_95 rfl hP hD hS
      refine lv_iload hx hb dX4_colourShown_55 (lv_at hl 5 rfl) ?_
      refine lv_iload hx hb dX4_colourShown_57 (lv_at hl 4 rfl) ?_
      refine lv_iconst (v := 1) hx hb dX4_colourShown_59 (by decide) ?_
      refine lv_isub hx hb dX4_colourShown_60 ?_
      refine lv_icmp_lt (tgt := 102) hx hb dX4_colourShown_61 (by decide) (fun c_3 => ?_) (fun c_3 => ?_)
      · have hF := ifp hF c_3
        exact bJ102  hF _ _ _ hP hD hS (lv_sub hl [] rfl)
      · have hF := ifn hF c_3
        refine lv_iload hx hb dX4_colourShown_64 (lv_at hl 5 rfl) ?_
        obtain ⟨z_4, fz_4, hF⟩ := bd_at hF
        refine callS_int (As := [.int x7]) (rest := []) ⟨hx, hb, hml, hown, hts⟩ hK hA hZ (c_X4_offsetOf l K D C x7 z_4 fz_4) (va_cwS 1 hts gX4_colourShown_X4_offsetOf rfl rfl rfl (by decide +kernel) ⟨Nat.le_of_ble_eq_true rfl, Nat.le_of_ble_eq_true rfl⟩) rfl hl.1 rfl (Nat.le_of_ble_eq_true rfl) ⟨Nat.zero_le _, Nat.zero_le _⟩ hP hS dX4_colourShown_66 (fun H locs hP hS => ?_)
        refine lv_iload hx hb dX4_colourShown_69 (lv_at hl 3 rfl) ?_
        refine lv_icmp_ne (tgt := 85) hx hb dX4_colourShown_71 (by decide) (fun c_5 => ?_) (fun c_5 => ?_)
        · have hF := ifn hF c_5
          refine lv_iconst (v := 0) hx hb dX4_colourShown_85 (by decide) ?_
          exact bJ86 x1 x3 x5 x6 x7 0 hF _ _ _ hP hD hS (lv_sub hl [0, 1, 2, 3, 4, 5] rfl)
        · have hF := ifp hF c_5
          refine lv_aload_n hx hb dX4_colourShown_74 rfl (lv_at hl 0 rfl) ?_
          refine lv_iload_n hx hb dX4_colourShown_75 rfl (lv_at hl 1 rfl) ?_
          refine lv_iload hx hb dX4_colourShown_76 (lv_at hl 5 rfl) ?_
          refine lv_iload_n hx hb dX4_colourShown_78 rfl (lv_at hl 2 rfl) ?_
          obtain ⟨z_6, fz_6, hF⟩ := bd_at hF
          refine callV_int ([]) ([]) (w' := wX4 C a4 A4) (As := [.int x1, .int x7, .int x3]) (rest := []) ⟨hx, hb, hml, hown, hts⟩ hK hA hZ (c_X4_colourInStrip l K D C a4 A4 x1 x7 x3 z_6 fz_6) (cwV 3 hts gX4_colourShown_X4_colourInStrip rfl rfl rfl (by decide +kernel) ⟨Nat.le_of_ble_eq_true rfl, Nat.le_of_ble_eq_true rfl⟩) 0 rfl rfl rfl rfl hl.1 rfl (Nat.le_of_ble_eq_true rfl) ⟨Nat.zero_le _, Nat.zero_le _⟩ (by simp only [List.append_assoc, List.append_nil, List.nil_append]) (by simp only [List.append_assoc, List.append_nil, List.nil_append]) hP hD hS dX4_colourShown_79 (fun H locs hP hD hS => ?_)
          refine lv_goto (tgt := 86) hx hb dX4_colourShown_82 (by decide) ?_
          exact bJ86 x1 x3 x5 x6 x7 z_6 hF _ _ _ hP hD hS (lv_sub hl [0, 1, 2, 3, 4, 5] rfl)
  refine lv_iload_n hx hb dX4_colourShown_0 rfl (lv_at hl 2 rfl) ?_
  refine lv_bipush (v := 30) hx hb dX4_colourShown_1 (by decide) ?_
  refine lv_iload_n hx hb dX4_colourShown_3 rfl (lv_at hl 1 rfl) ?_
  refine lv_imul hx hb dX4_colourShown_4 ?_
  refine lv_isub hx hb dX4_colourShown_5 ?_
  refine lv_sipush (v := 180) hx hb dX4_colourShown_6 (by decide) ?_
  refine lv_iadd hx hb dX4_colourShown_9 ?_
  refine lv_topi (fun v_7 ev_7 => ?_)
  have hF := nm_at hF ev_7
  refine lv_istore (lv' := [(4, .int v_7), (0, .ref (a4 0)), (1, .int p1), (2, .int p2), (3, .int p3)]) hx hb dX4_colourShown_10 hl (by decide) rfl (fun ls hl => ?_)
  refine lv_iload hx hb dX4_colourShown_12 (lv_at hl 0 rfl) ?_
  refine lv_sipush (v := 360) hx hb dX4_colourShown_14 (by decide) ?_
  obtain ⟨z_8, fz_8, hF⟩ := bd_at hF
  refine callS_int (As := [.int v_7, .int 360]) (rest := []) ⟨hx, hb, hml, hown, hts⟩ hK hA hZ (c_J9_floorMod_7cf53 l K D C v_7 360 z_8 fz_8) (va_cwS 2 hts gX4_colourShown_J9_floorMod_7cf53 rfl rfl rfl (by decide +kernel) ⟨Nat.le_of_ble_eq_true rfl, Nat.le_of_ble_eq_true rfl⟩) rfl hl.1 rfl (Nat.le_of_ble_eq_true rfl) ⟨Nat.zero_le _, Nat.zero_le _⟩ hP hS dX4_colourShown_17 (fun H locs hP hS => ?_)
  refine lv_sipush (v := 180) hx hb dX4_colourShown_20 (by decide) ?_
  refine lv_isub hx hb dX4_colourShown_23 ?_
  refine lv_topi (fun v_9 ev_9 => ?_)
  have hF := nm_at hF ev_9
  refine lv_istore (lv' := [(5, .int v_9), (4, .int v_7), (0, .ref (a4 0)), (1, .int p1), (2, .int p2), (3, .int p3)]) hx hb dX4_colourShown_24 hl (by decide) rfl (fun ls hl => ?_)
  refine lv_iload hx hb dX4_colourShown_26 (lv_at hl 0 rfl) ?_
  refine lv_bipush (v := -19) hx hb dX4_colourShown_28 (by decide) ?_
  refine lv_icmp_lt (tgt := 40) hx hb dX4_colourShown_30 (by decide) (fun c_10 => ?_) (fun c_10 => ?_)
  · have hF := ifp hF c_10
    refine lv_iconst (v := 0) hx hb dX4_colourShown_40 (by decide) ?_
    cases hF
    exact hret _ _ _ _ dX4_colourShown_41 rfl hP hD hS
  · have hF := ifn hF c_10
    refine lv_iload hx hb dX4_colourShown_33 (lv_at hl 0 rfl) ?_
    refine lv_bipush (v := 18) hx hb dX4_colourShown_35 (by decide) ?_
    refine lv_icmp_le (tgt := 42) hx hb dX4_colourShown_37 (by decide) (fun c_11 => ?_) (fun c_11 => ?_)
    · have hF := ifp hF c_11
      refine lv_iload hx hb dX4_colourShown_42 (lv_at hl 0 rfl) ?_
      refine lv_bipush (v := 20) hx hb dX4_colourShown_44 (by decide) ?_
      refine lv_iadd hx hb dX4_colourShown_46 ?_
      refine lv_topi (fun v_12 ev_12 => ?_)
      have hF := nm_at hF ev_12
      refine lv_istore (lv' := [(6, .int v_12), (5, .int v_9), (4, .int v_7), (0, .ref (a4 0)), (1, .int p1), (2, .int p2), (3, .int p3)]) hx hb dX4_colourShown_47 hl (by decide) rfl (fun ls hl => ?_)
      refine lv_iload hx hb dX4_colourShown_49 (lv_at hl 0 rfl) ?_
      refine lv_iconst (v := 1) hx hb dX4_colourShown_51 (by decide) ?_
      refine lv_iadd hx hb dX4_colourShown_52 ?_
      refine lv_topi (fun v_13 ev_13 => ?_)
      have hF := nm_at hF ev_13
      refine lv_istore (lv' := [(7, .int v_13), (6, .int v_12), (5, .int v_9), (4, .int v_7), (0, .ref (a4 0)), (1, .int p1), (2, .int p2), (3, .int p3)]) hx hb dX4_colourShown_53 hl (by decide) rfl (fun ls hl => ?_)
      exact bL55 FU p1 p3 v_9 v_12 v_13 hF _ _ _ hP hD hS (lv_sub hl [4, 5, 7, 2, 1, 0] rfl)
    · have hF := ifn hF c_11
      refine lv_iconst (v := 0) hx hb dX4_colourShown_40 (by decide) ?_
      cases hF
      exact hret _ _ _ _ dX4_colourShown_41 rfl hP hD hS
abbrev rmX4_viewAt : Room := { frames := 4, cells := 0, slots := 0, locals := 108 }
set_option maxRecDepth 100000 in
set_option maxHeartbeats 4000000 in
theorem c_X4_viewAt (l : Launch) (K : Kx) (D : va_G) (C : Nat → ClassId) (a4 : Nat → Nat) (A4 : Nat → Nat → Int32) (p1 : Int32) (p2 : Int32) (z : Int32) (hF : F_X4_viewAt A4 p1 p2 = some z) : MetI l yX4_viewAt wsX4_viewAt rmX4_viewAt K D (tyV C) (wX4 C a4 A4) [.ref (a4 0), .int p1, .int p2] (wX4 C a4 A4) z := by
  refine met_int (cc := cX4_viewAt) (maxL := 10) (ty := .int) (by decide +kernel) rfl (Nat.le_of_ble_eq_true rfl) ?_
  intro p e s m below meth c A Q ls ⟨hx, hb, hml, hown, hts, hK, hA, hZ⟩ hP hD hS hl hret
  have hown : s.vm.findClass RX4 = some m.cls := hown
  have hl : lv_has ls 10 [(0, .ref (a4 0)), (1, .int p1), (2, .int p2)] := hl
  unfold F_X4_viewAt at hF
  obtain ⟨J77, eJ77, hF⟩ := nm_ex hF
  have bJ77 : ∀ (x1 : Int32) (x2 : Int32) (x8 : Int32) (y0 : Int32), J77 x1 x2 x8 y0 = some z → ∀ (H : Heap) (locs : List Loc) (ls : Array Slot), va_P D vwCl (wX4 C a4 A4) H → va_D A (wX4 C a4 A4) → va_S A s.heap H locs → lv_has ls 10 [(0, .ref (a4 0)), (1, .int x1), (2, .int x2), (8, .int x8)] → W p l e rmX4_viewAt s m ([.ref (a4 0), .int p1, .int p2] : List Value).toArray below meth c H locs 0 0 Q (F0 m 77 ls [.int y0]) := by
    intro x1 x2 x8 y0 hF H locs ls hP hD hS hl
    rw [eJ77] at hF
    refine lv_istore (lv' := [(9, .int y0), (0, .ref (a4 0)), (1, .int x1), (2, .int x2), (8, .int x8)]) hx hb dX4_viewAt_77 hl (by decide) rfl (fun ls hl => ?_)
    refine lv_aload_n hx hb dX4_viewAt_79 rfl (lv_at hl 1 rfl) ?_
    refine lv_iload hx hb dX4_viewAt_80 (lv_at hl 4 rfl) ?_
    refine lv_iload_n hx hb dX4_viewAt_82 rfl (lv_at hl 2 rfl) ?_
    refine lv_iload_n hx hb dX4_viewAt_83 rfl (lv_at hl 3 rfl) ?_
    obtain ⟨z_1, fz_1, hF⟩ := bd_at hF
    refine callV_int ([]) ([]) (w' := wX4 C a4 A4) (As := [.int x8, .int x1, .int x2]) (rest := []) ⟨hx, hb, hml, hown, hts⟩ hK hA hZ (c_X4_colourShown l K D C a4 A4 x8 x1 x2 z_1 fz_1) (cwV 3 hts gX4_viewAt_X4_colourShown rfl rfl rfl (by decide +kernel) ⟨Nat.le_of_ble_eq_true rfl, Nat.le_of_ble_eq_true rfl⟩) 0 rfl rfl rfl rfl hl.1 rfl (Nat.le_of_ble_eq_true rfl) ⟨Nat.zero_le _, Nat.zero_le _⟩ (by simp only [List.append_assoc, List.append_nil, List.nil_append]) (by simp only [List.append_assoc, List.append_nil, List.nil_append]) hP hD hS dX4_viewAt_84 (fun H locs hP hD hS => ?_)
    refine lv_if_eq (tgt := 93) hx hb dX4_viewAt_87 (by decide) (fun c_2 => ?_) (fun c_2 => ?_)
    · have hF := ifp hF c_2
      refine lv_aload_n hx hb dX4_viewAt_93 rfl (lv_at hl 1 rfl) ?_
      refine lv_iload hx hb dX4_viewAt_94 (lv_at hl 0 rfl) ?_
      refine lv_iload_n hx hb dX4_viewAt_96 rfl (lv_at hl 2 rfl) ?_
      refine lv_iload_n hx hb dX4_viewAt_97 rfl (lv_at hl 3 rfl) ?_
      obtain ⟨z_3, fz_3, hF⟩ := bd_at hF
      refine callV_int ([]) ([]) (w' := wX4 C a4 A4) (As := [.int y0, .int x1, .int x2]) (rest := []) ⟨hx, hb, hml, hown, hts⟩ hK hA hZ (c_X4_colourShown l K D C a4 A4 y0 x1 x2 z_3 fz_3) (cwV 3 hts gX4_viewAt_X4_colourShown rfl rfl rfl (by decide +kernel) ⟨Nat.le_of_ble_eq_true rfl, Nat.le_of_ble_eq_true rfl⟩) 0 rfl rfl rfl rfl hl.1 rfl (Nat.le_of_ble_eq_true rfl) ⟨Nat.zero_le _, Nat.zero_le _⟩ (by simp only [List.append_assoc, List.append_nil, List.nil_append]) (by simp only [List.append_assoc, List.append_nil, List.nil_append]) hP hD hS dX4_viewAt_98 (fun H locs hP hD hS => ?_)
      refine lv_if_eq (tgt := 109) hx hb dX4_viewAt_101 (by decide) (fun c_4 => ?_) (fun c_4 => ?_)
      · have hF := ifp hF c_4
        refine lv_iconst (v := -1) hx hb dX4_viewAt_109 (by decide) ?_
        cases hF
        exact hret _ _ _ _ dX4_viewAt_110 rfl hP hD hS
      · have hF := ifn hF c_4
        refine lv_iload hx hb dX4_viewAt_104 (lv_at hl 0 rfl) ?_
        refine lv_goto (tgt := 110) hx hb dX4_viewAt_106 (by decide) ?_
        cases hF
        exact hret _ _ _ _ dX4_viewAt_110 rfl hP hD hS
    · have hF := ifn hF c_2
      refine lv_iload hx hb dX4_viewAt_90 (lv_at hl 4 rfl) ?_
      cases hF
      exact hret _ _ _ _ dX4_viewAt_92 rfl hP hD hS
  obtain ⟨J64, eJ64, hF⟩ := nm_ex hF
  have bJ64 : ∀ (x1 : Int32) (x2 : Int32) (x3 : Int32) (x4 : Int32) (x7 : Int32) (y0 : Int32), J64 x1 x2 x3 x4 x7 y0 = some z → ∀ (H : Heap) (locs : List Loc) (ls : Array Slot), va_P D vwCl (wX4 C a4 A4) H → va_D A (wX4 C a4 A4) → va_S A s.heap H locs → lv_has ls 10 [(0, .ref (a4 0)), (1, .int x1), (2, .int x2), (3, .int x3), (4, .int x4), (7, .int x7)] → W p l e rmX4_viewAt s m ([.ref (a4 0), .int p1, .int p2] : List Value).toArray below meth c H locs 0 0 Q (F0 m 64 ls [.int y0]) := by
    intro x1 x2 x3 x4 x7 y0 hF H locs ls hP hD hS hl
    rw [eJ64] at hF
    refine lv_istore (lv' := [(8, .int y0), (0, .ref (a4 0)), (1, .int x1), (2, .int x2), (3, .int x3), (4, .int x4), (7, .int x7)]) hx hb dX4_viewAt_64 hl (by decide) rfl (fun ls hl => ?_)
    refine lv_iload hx hb dX4_viewAt_66 (lv_at hl 6 rfl) ?_
    refine lv_if_eq (tgt := 76) hx hb dX4_viewAt_68 (by decide) (fun c_5 => ?_) (fun c_5 => ?_)
    · have hF := ifp hF c_5
      refine lv_iload_n hx hb dX4_viewAt_76 rfl (lv_at hl 4 rfl) ?_
      exact bJ77 x1 x2 y0 x3 hF _ _ _ hP hD hS (lv_sub hl [1, 2, 3, 0] rfl)
    · have hF := ifn hF c_5
      refine lv_iload hx hb dX4_viewAt_71 (lv_at hl 5 rfl) ?_
      refine lv_goto (tgt := 77) hx hb dX4_viewAt_73 (by decide) ?_
      exact bJ77 x1 x2 y0 x4 hF _ _ _ hP hD hS (lv_sub hl [1, 2, 3, 0] rfl)
  obtain ⟨J51, eJ51, hF⟩ := nm_ex hF
  have bJ51 : ∀ (x1 : Int32) (x2 : Int32) (x3 : Int32) (x4 : Int32) (y0 : Int32), J51 x1 x2 x3 x4 y0 = some z → ∀ (H : Heap) (locs : List Loc) (ls : Array Slot), va_P D vwCl (wX4 C a4 A4) H → va_D A (wX4 C a4 A4) → va_S A s.heap H locs → lv_has ls 10 [(0, .ref (a4 0)), (1, .int x1), (2, .int x2), (3, .int x3), (4, .int x4)] → W p l e rmX4_viewAt s m ([.ref (a4 0), .int p1, .int p2] : List Value).toArray below meth c H locs 0 0 Q (F0 m 51 ls [.int y0]) := by
    intro x1 x2 x3 x4 y0 hF H locs ls hP hD hS hl
    rw [eJ51] at hF
    refine lv_istore (lv' := [(7, .int y0), (0, .ref (a4 0)), (1, .int x1), (2, .int x2), (3, .int x3), (4, .int x4)]) hx hb dX4_viewAt_51 hl (by decide) rfl (fun ls hl => ?_)
    refine lv_iload hx hb dX4_viewAt_53 (lv_at hl 0 rfl) ?_
    refine lv_if_eq (tgt := 62) hx hb dX4_viewAt_55 (by decide) (fun c_6 => ?_) (fun c_6 => ?_)
    · have hF := ifp hF c_6
      refine lv_iload hx hb dX4_viewAt_62 (lv_at hl 5 rfl) ?_
      exact bJ64 x1 x2 x3 x4 y0 x4 hF _ _ _ hP hD hS (lv_sub hl [1, 2, 3, 4, 5, 0] rfl)
    · have hF := ifn hF c_6
      refine lv_iload_n hx hb dX4_viewAt_58 rfl (lv_at hl 4 rfl) ?_
      refine lv_goto (tgt := 64) hx hb dX4_viewAt_59 (by decide) ?_
      exact bJ64 x1 x2 x3 x4 y0 x3 hF _ _ _ hP hD hS (lv_sub hl [1, 2, 3, 4, 5, 0] rfl)
  obtain ⟨J50, eJ50, hF⟩ := nm_ex hF
  have bJ50 : ∀ (x1 : Int32) (x2 : Int32) (x3 : Int32) (x4 : Int32), J50 x1 x2 x3 x4 = some z → ∀ (H : Heap) (locs : List Loc) (ls : Array Slot), va_P D vwCl (wX4 C a4 A4) H → va_D A (wX4 C a4 A4) → va_S A s.heap H locs → lv_has ls 10 [(0, .ref (a4 0)), (1, .int x1), (2, .int x2), (3, .int x3), (4, .int x4)] → W p l e rmX4_viewAt s m ([.ref (a4 0), .int p1, .int p2] : List Value).toArray below meth c H locs 0 0 Q (F0 m 50 ls []) := by
    intro x1 x2 x3 x4 hF H locs ls hP hD hS hl
    rw [eJ50] at hF
    refine lv_iconst (v := 0) hx hb dX4_viewAt_50 (by decide) ?_
    exact bJ51 x1 x2 x3 x4 0 hF _ _ _ hP hD hS (lv_sub hl [0, 1, 2, 3, 4] rfl)
  obtain ⟨J46, eJ46, hF⟩ := nm_ex hF
  have bJ46 : ∀ (x1 : Int32) (x2 : Int32) (x3 : Int32) (x4 : Int32), J46 x1 x2 x3 x4 = some z → ∀ (H : Heap) (locs : List Loc) (ls : Array Slot), va_P D vwCl (wX4 C a4 A4) H → va_D A (wX4 C a4 A4) → va_S A s.heap H locs → lv_has ls 10 [(0, .ref (a4 0)), (1, .int x1), (2, .int x2), (3, .int x3), (4, .int x4)] → W p l e rmX4_viewAt s m ([.ref (a4 0), .int p1, .int p2] : List Value).toArray below meth c H locs 0 0 Q (F0 m 46 ls []) := by
    intro x1 x2 x3 x4 hF H locs ls hP hD hS hl
    rw [eJ46] at hF
    refine lv_iconst (v := 1) hx hb dX4_viewAt_46 (by decide) ?_
    refine lv_goto (tgt := 51) hx hb dX4_viewAt_47 (by decide) ?_
    exact bJ51 x1 x2 x3 x4 1 hF _ _ _ hP hD hS (lv_sub hl [0, 1, 2, 3, 4] rfl)
  refine lv_iload_n hx hb dX4_viewAt_0 rfl (lv_at hl 1 rfl) ?_
  refine lv_bipush (v := 30) hx hb dX4_viewAt_1 (by decide) ?_
  refine lv_idiv hx hb dX4_viewAt_3 (by decide) ?_
  refine lv_topi (fun v_7 ev_7 => ?_)
  have hF := nm_at hF ev_7
  refine lv_istore_n (lv' := [(3, .int v_7), (0, .ref (a4 0)), (1, .int p1), (2, .int p2)]) hx hb dX4_viewAt_4 rfl hl (by decide) rfl (fun ls hl => ?_)
  refine lv_iload_n hx hb dX4_viewAt_5 rfl (lv_at hl 0 rfl) ?_
  refine lv_iconst (v := 1) hx hb dX4_viewAt_6 (by decide) ?_
  refine lv_iadd hx hb dX4_viewAt_7 ?_
  refine lv_bipush (v := 12) hx hb dX4_viewAt_8 (by decide) ?_
  refine lv_irem hx hb dX4_viewAt_10 (by decide) ?_
  refine lv_topi (fun v_8 ev_8 => ?_)
  have hF := nm_at hF ev_8
  refine lv_istore (lv' := [(4, .int v_8), (3, .int v_7), (0, .ref (a4 0)), (1, .int p1), (2, .int p2)]) hx hb dX4_viewAt_11 hl (by decide) rfl (fun ls hl => ?_)
  refine lv_iload_n hx hb dX4_viewAt_13 rfl (lv_at hl 3 rfl) ?_
  refine lv_bipush (v := 30) hx hb dX4_viewAt_14 (by decide) ?_
  refine lv_irem hx hb dX4_viewAt_16 (by decide) ?_
  refine lv_topi (fun v_9 ev_9 => ?_)
  have hF := nm_at hF ev_9
  refine lv_istore (lv' := [(5, .int v_9), (4, .int v_8), (3, .int v_7), (0, .ref (a4 0)), (1, .int p1), (2, .int p2)]) hx hb dX4_viewAt_17 hl (by decide) rfl (fun ls hl => ?_)
  refine lv_bipush (v := 30) hx hb dX4_viewAt_19 (by decide) ?_
  refine lv_iload hx hb dX4_viewAt_21 (lv_at hl 0 rfl) ?_
  refine lv_isub hx hb dX4_viewAt_23 ?_
  refine lv_topi (fun v_10 ev_10 => ?_)
  have hF := nm_at hF ev_10
  refine lv_istore (lv' := [(6, .int v_10), (5, .int v_9), (4, .int v_8), (3, .int v_7), (0, .ref (a4 0)), (1, .int p1), (2, .int p2)]) hx hb dX4_viewAt_24 hl (by decide) rfl (fun ls hl => ?_)
  refine lv_iload hx hb dX4_viewAt_26 (lv_at hl 1 rfl) ?_
  refine lv_iload hx hb dX4_viewAt_28 (lv_at hl 0 rfl) ?_
  refine lv_icmp_lt (tgt := 46) hx hb dX4_viewAt_30 (by decide) (fun c_11 => ?_) (fun c_11 => ?_)
  · have hF := ifp hF c_11
    exact bJ46 p1 p2 v_7 v_8 hF _ _ _ hP hD hS (lv_sub hl [4, 5, 6, 3, 2] rfl)
  · have hF := ifn hF c_11
    refine lv_iload hx hb dX4_viewAt_33 (lv_at hl 1 rfl) ?_
    refine lv_iload hx hb dX4_viewAt_35 (lv_at hl 0 rfl) ?_
    refine lv_icmp_ne (tgt := 50) hx hb dX4_viewAt_37 (by decide) (fun c_12 => ?_) (fun c_12 => ?_)
    · have hF := ifn hF c_12
      exact bJ50 p1 p2 v_7 v_8 hF _ _ _ hP hD hS (lv_sub hl [4, 5, 6, 3, 2] rfl)
    · have hF := ifp hF c_12
      refine lv_iload_n hx hb dX4_viewAt_40 rfl (lv_at hl 3 rfl) ?_
      refine lv_iload hx hb dX4_viewAt_41 (lv_at hl 2 rfl) ?_
      refine lv_icmp_ge (tgt := 50) hx hb dX4_viewAt_43 (by decide) (fun c_13 => ?_) (fun c_13 => ?_)
      · have hF := ifp hF c_13
        exact bJ50 p1 p2 v_7 v_8 hF _ _ _ hP hD hS (lv_sub hl [4, 5, 6, 3, 2] rfl)
      · have hF := ifn hF c_13
        exact bJ46 p1 p2 v_7 v_8 hF _ _ _ hP hD hS (lv_sub hl [4, 5, 6, 3, 2] rfl)
abbrev rmX4_colourAt : Room := { frames := 5, cells := 0, slots := 0, locals := 137 }
set_option maxRecDepth 100000 in
set_option maxHeartbeats 4000000 in
theorem c_X4_colourAt (l : Launch) (K : Kx) (D : va_G) (C : Nat → ClassId) (a4 : Nat → Nat) (A4 : Nat → Nat → Int32) (p1 : Int32) (p2 : Int32) (z : Int32) (hF : F_X4_colourAt A4 p1 p2 = some z) : MetI l yX4_colourAt wsX4_colourAt rmX4_colourAt K D (tyV C) (wX4 C a4 A4) [.ref (a4 0), .int p1, .int p2] (wX4 C a4 A4) z := by
  refine met_int (cc := cX4_colourAt) (maxL := 4) (ty := .int) (by decide +kernel) rfl (Nat.le_of_ble_eq_true rfl) ?_
  intro p e s m below meth c A Q ls ⟨hx, hb, hml, hown, hts, hK, hA, hZ⟩ hP hD hS hl hret
  have hown : s.vm.findClass RX4 = some m.cls := hown
  have hl : lv_has ls 4 [(0, .ref (a4 0)), (1, .int p1), (2, .int p2)] := hl
  unfold F_X4_colourAt at hF
  refine lv_aload_n hx hb dX4_colourAt_0 rfl (lv_at hl 0 rfl) ?_
  refine lv_iload_n hx hb dX4_colourAt_1 rfl (lv_at hl 1 rfl) ?_
  refine lv_iload_n hx hb dX4_colourAt_2 rfl (lv_at hl 2 rfl) ?_
  obtain ⟨z_1, fz_1, hF⟩ := bd_at hF
  refine callV_int ([]) ([]) (w' := wX4 C a4 A4) (As := [.int p1, .int p2]) (rest := []) ⟨hx, hb, hml, hown, hts⟩ hK hA hZ (c_X4_viewAt l K D C a4 A4 p1 p2 z_1 fz_1) (cwV 2 hts gX4_colourAt_X4_viewAt rfl rfl rfl (by decide +kernel) ⟨Nat.le_of_ble_eq_true rfl, Nat.le_of_ble_eq_true rfl⟩) 0 rfl rfl rfl rfl hl.1 rfl (Nat.le_of_ble_eq_true rfl) ⟨Nat.zero_le _, Nat.zero_le _⟩ (by simp only [List.append_assoc, List.append_nil, List.nil_append]) (by simp only [List.append_assoc, List.append_nil, List.nil_append]) hP hD hS dX4_colourAt_3 (fun H locs hP hD hS => ?_)
  refine lv_istore_n (lv' := [(3, .int z_1), (0, .ref (a4 0)), (1, .int p1), (2, .int p2)]) hx hb dX4_colourAt_6 rfl hl (by decide) rfl (fun ls hl => ?_)
  refine lv_iload_n hx hb dX4_colourAt_7 rfl (lv_at hl 0 rfl) ?_
  refine lv_iconst (v := -1) hx hb dX4_colourAt_8 (by decide) ?_
  refine lv_icmp_ne (tgt := 16) hx hb dX4_colourAt_9 (by decide) (fun c_2 => ?_) (fun c_2 => ?_)
  · have hF := ifn hF c_2
    refine lv_aload_n hx hb dX4_colourAt_16 rfl (lv_at hl 1 rfl) ?_
    refine lv_iload_n hx hb dX4_colourAt_17 rfl (lv_at hl 0 rfl) ?_
    refine lv_iload_n hx hb dX4_colourAt_18 rfl (lv_at hl 2 rfl) ?_
    refine lv_iload_n hx hb dX4_colourAt_19 rfl (lv_at hl 3 rfl) ?_
    obtain ⟨z_3, fz_3, hF⟩ := bd_at hF
    refine callV_int ([]) ([]) (w' := wX4 C a4 A4) (As := [.int z_1, .int p1, .int p2]) (rest := []) ⟨hx, hb, hml, hown, hts⟩ hK hA hZ (c_X4_colourShown l K D C a4 A4 z_1 p1 p2 z_3 fz_3) (cwV 3 hts gX4_colourAt_X4_colourShown rfl rfl rfl (by decide +kernel) ⟨Nat.le_of_ble_eq_true rfl, Nat.le_of_ble_eq_true rfl⟩) 0 rfl rfl rfl rfl hl.1 rfl (Nat.le_of_ble_eq_true rfl) ⟨Nat.zero_le _, Nat.zero_le _⟩ (by simp only [List.append_assoc, List.append_nil, List.nil_append]) (by simp only [List.append_assoc, List.append_nil, List.nil_append]) hP hD hS dX4_colourAt_20 (fun H locs hP hD hS => ?_)
    cases hF
    exact hret _ _ _ _ dX4_colourAt_23 rfl hP hD hS
  · have hF := ifp hF c_2
    refine lv_iconst (v := 0) hx hb dX4_colourAt_12 (by decide) ?_
    refine lv_goto (tgt := 23) hx hb dX4_colourAt_13 (by decide) ?_
    cases hF
    exact hret _ _ _ _ dX4_colourAt_23 rfl hP hD hS
abbrev rmX4_quarrelsBehind : Room := { frames := 4, cells := 0, slots := 0, locals := 108 }
set_option maxRecDepth 100000 in
set_option maxHeartbeats 4000000 in
theorem c_X4_quarrelsBehind (l : Launch) (K : Kx) (D : va_G) (C : Nat → ClassId) (a4 : Nat → Nat) (A4 : Nat → Nat → Int32) (p1 : Int32) (z : Int32) (hF : F_X4_quarrelsBehind A4 p1 = some z) : MetI l yX4_quarrelsBehind wsX4_quarrelsBehind rmX4_quarrelsBehind K D (tyV C) (wX4 C a4 A4) [.ref (a4 0), .int p1] (wX4 C a4 A4) z := by
  refine met_int (cc := cX4_quarrelsBehind) (maxL := 9) (ty := .int) (by decide +kernel) rfl (Nat.le_of_ble_eq_true rfl) ?_
  intro p e s m below meth c A Q ls ⟨hx, hb, hml, hown, hts, hK, hA, hZ⟩ hP hD hS hl hret
  have hown : s.vm.findClass RX4 = some m.cls := hown
  have hl : lv_has ls 9 [(0, .ref (a4 0)), (1, .int p1)] := hl
  unfold F_X4_quarrelsBehind at hF
  obtain ⟨J113, eJ113, hF⟩ := nm_ex hF
  have bJ113 : ∀ (x3 : Int32), J113 x3 = some z → ∀ (H : Heap) (locs : List Loc) (ls : Array Slot), va_P D vwCl (wX4 C a4 A4) H → va_D A (wX4 C a4 A4) → va_S A s.heap H locs → lv_has ls 9 [(3, .int x3)] → W p l e rmX4_quarrelsBehind s m ([.ref (a4 0), .int p1] : List Value).toArray below meth c H locs 0 0 Q (F0 m 113 ls []) := by
    intro x3 hF H locs ls hP hD hS hl
    rw [eJ113] at hF
    refine lv_iload_n hx hb dX4_quarrelsBehind_113 rfl (lv_at hl 0 rfl) ?_
    cases hF
    exact hret _ _ _ _ dX4_quarrelsBehind_114 rfl hP hD hS
  have bL25 : ∀ (n : Nat) (x1 : Int32) (x2 : Int32) (x3 : Int32) (x4 : Int32), L_X4_quarrelsBehind_25 A4 J113 n x1 x2 x3 x4 = some z → ∀ (H : Heap) (locs : List Loc) (ls : Array Slot), va_P D vwCl (wX4 C a4 A4) H → va_D A (wX4 C a4 A4) → va_S A s.heap H locs → lv_has ls 9 [(0, .ref (a4 0)), (1, .int x1), (2, .int x2), (3, .int x3), (4, .int x4)] → W p l e rmX4_quarrelsBehind s m ([.ref (a4 0), .int p1] : List Value).toArray below meth c H locs 0 0 Q (F0 m 25 ls []) := by
    intro n
    induction n with
    | zero => intro x1 x2 x3 x4 hF; rw [L_X4_quarrelsBehind_25.eq_1] at hF; cases hF
    | succ n ih25 =>
      intro x1 x2 x3 x4 hF H locs ls hP hD hS hl
      rw [L_X4_quarrelsBehind_25.eq_2] at hF
      obtain ⟨J107, eJ107, hF⟩ := nm_ex hF
      have bJ107 : ∀ (x1 : Int32) (x2 : Int32) (x3 : Int32) (x4 : Int32), J107 x1 x2 x3 x4 = some z → ∀ (H : Heap) (locs : List Loc) (ls : Array Slot), va_P D vwCl (wX4 C a4 A4) H → va_D A (wX4 C a4 A4) → va_S A s.heap H locs → lv_has ls 9 [(0, .ref (a4 0)), (1, .int x1), (2, .int x2), (3, .int x3), (4, .int x4)] → W p l e rmX4_quarrelsBehind s m ([.ref (a4 0), .int p1] : List Value).toArray below meth c H locs 0 0 Q (F0 m 107 ls []) := by
        intro x1 x2 x3 x4 hF H locs ls hP hD hS hl
        rw [eJ107] at hF
        obtain ⟨v_1, ev_1⟩ : ∃ y : Int32, y = x4 + 1 := ⟨_, rfl⟩
        have hF := nm_at hF ev_1
        refine lv_iinc (v := v_1) (lv' := [(4, .int v_1), (0, .ref (a4 0)), (1, .int x1), (2, .int x2), (3, .int x3)]) hx hb dX4_quarrelsBehind_107 hl (k := 4) rfl (by rw [ev_1]; rfl) (by decide) rfl (fun ls hl => ?_)
        refine lv_goto (tgt := 25) hx hb dX4_quarrelsBehind_110 (by decide) ?_
        exact ih25 x1 x2 x3 v_1 hF _ _ _ hP hD hS (lv_sub hl [1, 2, 3, 4, 0] rfl)
      have bL48 : ∀ (n : Nat) (x1 : Int32) (x2 : Int32) (x3 : Int32) (x4 : Int32) (x5 : Int32) (x6 : Int32), L_X4_quarrelsBehind_48 A4 J107 n x1 x2 x3 x4 x5 x6 = some z → ∀ (H : Heap) (locs : List Loc) (ls : Array Slot), va_P D vwCl (wX4 C a4 A4) H → va_D A (wX4 C a4 A4) → va_S A s.heap H locs → lv_has ls 9 [(0, .ref (a4 0)), (1, .int x1), (2, .int x2), (3, .int x3), (4, .int x4), (5, .int x5), (6, .int x6)] → W p l e rmX4_quarrelsBehind s m ([.ref (a4 0), .int p1] : List Value).toArray below meth c H locs 0 0 Q (F0 m 48 ls []) := by
        intro n
        induction n with
        | zero => intro x1 x2 x3 x4 x5 x6 hF; rw [L_X4_quarrelsBehind_48.eq_1] at hF; cases hF
        | succ n ih48 =>
          intro x1 x2 x3 x4 x5 x6 hF H locs ls hP hD hS hl
          rw [L_X4_quarrelsBehind_48.eq_2] at hF
          obtain ⟨J101, eJ101, hF⟩ := nm_ex hF
          have bJ101 : ∀ (x1 : Int32) (x2 : Int32) (x3 : Int32) (x4 : Int32) (x5 : Int32) (x6 : Int32), J101 x1 x2 x3 x4 x5 x6 = some z → ∀ (H : Heap) (locs : List Loc) (ls : Array Slot), va_P D vwCl (wX4 C a4 A4) H → va_D A (wX4 C a4 A4) → va_S A s.heap H locs → lv_has ls 9 [(0, .ref (a4 0)), (1, .int x1), (2, .int x2), (3, .int x3), (4, .int x4), (5, .int x5), (6, .int x6)] → W p l e rmX4_quarrelsBehind s m ([.ref (a4 0), .int p1] : List Value).toArray below meth c H locs 0 0 Q (F0 m 101 ls []) := by
            intro x1 x2 x3 x4 x5 x6 hF H locs ls hP hD hS hl
            rw [eJ101] at hF
            obtain ⟨v_2, ev_2⟩ : ∃ y : Int32, y = x6 + 1 := ⟨_, rfl⟩
            have hF := nm_at hF ev_2
            refine lv_iinc (v := v_2) (lv' := [(6, .int v_2), (0, .ref (a4 0)), (1, .int x1), (2, .int x2), (3, .int x3), (4, .int x4), (5, .int x5)]) hx hb dX4_quarrelsBehind_101 hl (k := 6) rfl (by rw [ev_2]; rfl) (by decide) rfl (fun ls hl => ?_)
            refine lv_goto (tgt := 48) hx hb dX4_quarrelsBehind_104 (by decide) ?_
            exact ih48 x1 x2 x3 x4 x5 v_2 hF _ _ _ hP hD hS (lv_sub hl [1, 2, 3, 4, 5, 6, 0] rfl)
          obtain ⟨J84, eJ84, hF⟩ := nm_ex hF
          have bJ84 : ∀ (x1 : Int32) (x2 : Int32) (x3 : Int32) (x4 : Int32) (x5 : Int32) (x6 : Int32) (x7 : Int32) (y0 : Int32), J84 x1 x2 x3 x4 x5 x6 x7 y0 = some z → ∀ (H : Heap) (locs : List Loc) (ls : Array Slot), va_P D vwCl (wX4 C a4 A4) H → va_D A (wX4 C a4 A4) → va_S A s.heap H locs → lv_has ls 9 [(0, .ref (a4 0)), (1, .int x1), (2, .int x2), (3, .int x3), (4, .int x4), (5, .int x5), (6, .int x6), (7, .int x7)] → W p l e rmX4_quarrelsBehind s m ([.ref (a4 0), .int p1] : List Value).toArray below meth c H locs 0 0 Q (F0 m 84 ls [.int y0]) := by
            intro x1 x2 x3 x4 x5 x6 x7 y0 hF H locs ls hP hD hS hl
            rw [eJ84] at hF
            refine lv_istore (lv' := [(8, .int y0), (0, .ref (a4 0)), (1, .int x1), (2, .int x2), (3, .int x3), (4, .int x4), (5, .int x5), (6, .int x6), (7, .int x7)]) hx hb dX4_quarrelsBehind_84 hl (by decide) rfl (fun ls hl => ?_)
            refine lv_iload hx hb dX4_quarrelsBehind_86 (lv_at hl 0 rfl) ?_
            refine lv_if_eq (tgt := 101) hx hb dX4_quarrelsBehind_88 (by decide) (fun c_3 => ?_) (fun c_3 => ?_)
            · have hF := ifp hF c_3
              exact bJ101 x1 x2 x3 x4 x5 x6 hF _ _ _ hP hD hS (lv_sub hl [1, 2, 3, 4, 5, 6, 7] rfl)
            · have hF := ifn hF c_3
              refine lv_iload hx hb dX4_quarrelsBehind_91 (lv_at hl 0 rfl) ?_
              refine lv_iload hx hb dX4_quarrelsBehind_93 (lv_at hl 8 rfl) ?_
              refine lv_icmp_eq (tgt := 101) hx hb dX4_quarrelsBehind_95 (by decide) (fun c_4 => ?_) (fun c_4 => ?_)
              · have hF := ifp hF c_4
                exact bJ101 x1 x2 x3 x4 x5 x6 hF _ _ _ hP hD hS (lv_sub hl [1, 2, 3, 4, 5, 6, 7] rfl)
              · have hF := ifn hF c_4
                obtain ⟨v_5, ev_5⟩ : ∃ y : Int32, y = x3 + 1 := ⟨_, rfl⟩
                have hF := nm_at hF ev_5
                refine lv_iinc (v := v_5) (lv' := [(3, .int v_5), (8, .int y0), (0, .ref (a4 0)), (1, .int x1), (2, .int x2), (4, .int x4), (5, .int x5), (6, .int x6), (7, .int x7)]) hx hb dX4_quarrelsBehind_98 hl (k := 4) rfl (by rw [ev_5]; rfl) (by decide) rfl (fun ls hl => ?_)
                exact bJ101 x1 x2 v_5 x4 x5 x6 hF _ _ _ hP hD hS (lv_sub hl [2, 3, 4, 0, 5, 6, 7] rfl)
          refine lv_iload hx hb dX4_quarrelsBehind_48 (lv_at hl 6 rfl) ?_
          refine lv_bipush (v := 20) hx hb dX4_quarrelsBehind_50 (by decide) ?_
          refine lv_icmp_ge (tgt := 107) hx hb dX4_quarrelsBehind_52 (by decide) (fun c_6 => ?_) (fun c_6 => ?_)
          · have hF := ifp hF c_6
            exact bJ107 x1 x2 x3 x4 hF _ _ _ hP hD hS (lv_sub hl [0, 1, 2, 3, 4] rfl)
          · have hF := ifn hF c_6
            refine lv_aload_n hx hb dX4_quarrelsBehind_55 rfl (lv_at hl 0 rfl) ?_
            refine lv_iload_n hx hb dX4_quarrelsBehind_56 rfl (lv_at hl 1 rfl) ?_
            refine lv_iload hx hb dX4_quarrelsBehind_57 (lv_at hl 5 rfl) ?_
            refine lv_iload hx hb dX4_quarrelsBehind_59 (lv_at hl 6 rfl) ?_
            obtain ⟨z_7, fz_7, hF⟩ := bd_at hF
            refine callV_int ([]) ([]) (w' := wX4 C a4 A4) (As := [.int x1, .int x5, .int x6]) (rest := []) ⟨hx, hb, hml, hown, hts⟩ hK hA hZ (c_X4_colourShown l K D C a4 A4 x1 x5 x6 z_7 fz_7) (cwV 3 hts gX4_quarrelsBehind_X4_colourShown rfl rfl rfl (by decide +kernel) ⟨Nat.le_of_ble_eq_true rfl, Nat.le_of_ble_eq_true rfl⟩) 0 rfl rfl rfl rfl hl.1 rfl (Nat.le_of_ble_eq_true rfl) ⟨Nat.zero_le _, Nat.zero_le _⟩ (by simp only [List.append_assoc, List.append_nil, List.nil_append]) (by simp only [List.append_assoc, List.append_nil, List.nil_append]) hP hD hS dX4_quarrelsBehind_61 (fun H locs hP hD hS => ?_)
            refine lv_istore (lv' := [(7, .int z_7), (0, .ref (a4 0)), (1, .int x1), (2, .int x2), (3, .int x3), (4, .int x4), (5, .int x5), (6, .int x6)]) hx hb dX4_quarrelsBehind_64 hl (by decide) rfl (fun ls hl => ?_)
            refine lv_iload hx hb dX4_quarrelsBehind_66 (lv_at hl 0 rfl) ?_
            refine lv_if_ne (tgt := 75) hx hb dX4_quarrelsBehind_68 (by decide) (fun c_8 => ?_) (fun c_8 => ?_)
            · have hF := ifn hF c_8
              refine lv_aload_n hx hb dX4_quarrelsBehind_75 rfl (lv_at hl 1 rfl) ?_
              refine lv_iload_n hx hb dX4_quarrelsBehind_76 rfl (lv_at hl 3 rfl) ?_
              refine lv_iload hx hb dX4_quarrelsBehind_77 (lv_at hl 6 rfl) ?_
              refine lv_iload hx hb dX4_quarrelsBehind_79 (lv_at hl 7 rfl) ?_
              obtain ⟨z_9, fz_9, hF⟩ := bd_at hF
              refine callV_int ([]) ([]) (w' := wX4 C a4 A4) (As := [.int x2, .int x5, .int x6]) (rest := []) ⟨hx, hb, hml, hown, hts⟩ hK hA hZ (c_X4_colourShown l K D C a4 A4 x2 x5 x6 z_9 fz_9) (cwV 3 hts gX4_quarrelsBehind_X4_colourShown rfl rfl rfl (by decide +kernel) ⟨Nat.le_of_ble_eq_true rfl, Nat.le_of_ble_eq_true rfl⟩) 0 rfl rfl rfl rfl hl.1 rfl (Nat.le_of_ble_eq_true rfl) ⟨Nat.zero_le _, Nat.zero_le _⟩ (by simp only [List.append_assoc, List.append_nil, List.nil_append]) (by simp only [List.append_assoc, List.append_nil, List.nil_append]) hP hD hS dX4_quarrelsBehind_81 (fun H locs hP hD hS => ?_)
              exact bJ84 x1 x2 x3 x4 x5 x6 z_7 z_9 hF _ _ _ hP hD hS (lv_sub hl [1, 2, 3, 4, 5, 6, 7, 0] rfl)
            · have hF := ifp hF c_8
              refine lv_iconst (v := 0) hx hb dX4_quarrelsBehind_71 (by decide) ?_
              refine lv_goto (tgt := 84) hx hb dX4_quarrelsBehind_72 (by decide) ?_
              exact bJ84 x1 x2 x3 x4 x5 x6 z_7 0 hF _ _ _ hP hD hS (lv_sub hl [1, 2, 3, 4, 5, 6, 7, 0] rfl)
      refine lv_iload hx hb dX4_quarrelsBehind_25 (lv_at hl 4 rfl) ?_
      refine lv_bipush (v := 18) hx hb dX4_quarrelsBehind_27 (by decide) ?_
      refine lv_icmp_gt (tgt := 113) hx hb dX4_quarrelsBehind_29 (by decide) (fun c_10 => ?_) (fun c_10 => ?_)
      · have hF := ifp hF c_10
        exact bJ113 x3 hF _ _ _ hP hD hS (lv_sub hl [3] rfl)
      · have hF := ifn hF c_10
        refine lv_bipush (v := 30) hx hb dX4_quarrelsBehind_32 (by decide) ?_
        refine lv_iload_n hx hb dX4_quarrelsBehind_34 rfl (lv_at hl 1 rfl) ?_
        refine lv_imul hx hb dX4_quarrelsBehind_35 ?_
        refine lv_iload hx hb dX4_quarrelsBehind_36 (lv_at hl 4 rfl) ?_
        refine lv_iadd hx hb dX4_quarrelsBehind_38 ?_
        refine lv_sipush (v := 360) hx hb dX4_quarrelsBehind_39 (by decide) ?_
        refine lv_irem hx hb dX4_quarrelsBehind_42 (by decide) ?_
        refine lv_topi (fun v_11 ev_11 => ?_)
        have hF := nm_at hF ev_11
        refine lv_istore (lv' := [(5, .int v_11), (0, .ref (a4 0)), (1, .int x1), (2, .int x2), (3, .int x3), (4, .int x4)]) hx hb dX4_quarrelsBehind_43 hl (by decide) rfl (fun ls hl => ?_)
        refine lv_iconst (v := 0) hx hb dX4_quarrelsBehind_45 (by decide) ?_
        refine lv_istore (lv' := [(6, .int 0), (5, .int v_11), (0, .ref (a4 0)), (1, .int x1), (2, .int x2), (3, .int x3), (4, .int x4)]) hx hb dX4_quarrelsBehind_46 hl (by decide) rfl (fun ls hl => ?_)
        exact bL48 FU x1 x2 x3 x4 v_11 0 hF _ _ _ hP hD hS (lv_sub hl [2, 3, 4, 5, 6, 1, 0] rfl)
  refine lv_iload_n hx hb dX4_quarrelsBehind_0 rfl (lv_at hl 1 rfl) ?_
  refine lv_if_lt (tgt := 10) hx hb dX4_quarrelsBehind_1 (by decide) (fun c_12 => ?_) (fun c_12 => ?_)
  · have hF := ifp hF c_12
    refine lv_iconst (v := -1) hx hb dX4_quarrelsBehind_10 (by decide) ?_
    cases hF
    exact hret _ _ _ _ dX4_quarrelsBehind_11 rfl hP hD hS
  · have hF := ifn hF c_12
    refine lv_iload_n hx hb dX4_quarrelsBehind_4 rfl (lv_at hl 1 rfl) ?_
    refine lv_bipush (v := 12) hx hb dX4_quarrelsBehind_5 (by decide) ?_
    refine lv_icmp_lt (tgt := 12) hx hb dX4_quarrelsBehind_7 (by decide) (fun c_13 => ?_) (fun c_13 => ?_)
    · have hF := ifp hF c_13
      refine lv_iload_n hx hb dX4_quarrelsBehind_12 rfl (lv_at hl 1 rfl) ?_
      refine lv_iconst (v := 1) hx hb dX4_quarrelsBehind_13 (by decide) ?_
      refine lv_iadd hx hb dX4_quarrelsBehind_14 ?_
      refine lv_bipush (v := 12) hx hb dX4_quarrelsBehind_15 (by decide) ?_
      refine lv_irem hx hb dX4_quarrelsBehind_17 (by decide) ?_
      refine lv_topi (fun v_14 ev_14 => ?_)
      have hF := nm_at hF ev_14
      refine lv_istore_n (lv' := [(2, .int v_14), (0, .ref (a4 0)), (1, .int p1)]) hx hb dX4_quarrelsBehind_18 rfl hl (by decide) rfl (fun ls hl => ?_)
      refine lv_iconst (v := 0) hx hb dX4_quarrelsBehind_19 (by decide) ?_
      refine lv_istore_n (lv' := [(3, .int 0), (2, .int v_14), (0, .ref (a4 0)), (1, .int p1)]) hx hb dX4_quarrelsBehind_20 rfl hl (by decide) rfl (fun ls hl => ?_)
      refine lv_bipush (v := 11) hx hb dX4_quarrelsBehind_21 (by decide) ?_
      refine lv_istore (lv' := [(4, .int 11), (3, .int 0), (2, .int v_14), (0, .ref (a4 0)), (1, .int p1)]) hx hb dX4_quarrelsBehind_23 hl (by decide) rfl (fun ls hl => ?_)
      exact bL25 FU p1 v_14 0 11 hF _ _ _ hP hD hS (lv_sub hl [3, 4, 2, 1, 0] rfl)
    · have hF := ifn hF c_13
      refine lv_iconst (v := -1) hx hb dX4_quarrelsBehind_10 (by decide) ?_
      cases hF
      exact hret _ _ _ _ dX4_quarrelsBehind_11 rfl hP hD hS
abbrev rmX4_setMark : Room := { frames := 5, cells := 0, slots := 0, locals := 137 }
set_option maxRecDepth 100000 in
set_option maxHeartbeats 4000000 in
theorem c_X4_setMark (l : Launch) (K : Kx) (D : va_G) (C : Nat → ClassId) (a4 : Nat → Nat) (A4 : Nat → Nat → Int32) (p1 : Int32) (p2 : Int32) (p3 : Int32) (p4 : Int32) (z : Int32 × (Nat → Nat → Int32)) (hF : F_X4_setMark A4 p1 p2 p3 p4 = some z) : MetI l yX4_setMark wsX4_setMark rmX4_setMark K D (tyV C) (wX4 C a4 A4) [.ref (a4 0), .int p1, .int p2, .int p3, .int p4] (wX4 C a4 z.2) z.1 := by
  refine met_int (cc := cX4_setMark) (maxL := 10) (ty := .boolean) (by decide +kernel) rfl (Nat.le_of_ble_eq_true rfl) ?_
  intro p e s m below meth c A Q ls ⟨hx, hb, hml, hown, hts, hK, hA, hZ⟩ hP hD hS hl hret
  have hown : s.vm.findClass RX4 = some m.cls := hown
  have hiX4 : ∀ w ∈ u_ws RX4 TX4 2, w ∈ wsX4_setMark := by decide +kernel
  have hl : lv_has ls 10 [(0, .ref (a4 0)), (1, .int p1), (2, .int p2), (3, .int p3), (4, .int p4)] := hl
  unfold F_X4_setMark at hF
  obtain ⟨J83, eJ83, hF⟩ := nm_ex hF
  have bJ83 : ∀ (x5 : Int32) (x6 : Int32) (x7 : Int32) (y0 : Int32) (A4 : Nat → Nat → Int32), J83 x5 x6 x7 y0 A4 = some z → ∀ (H : Heap) (locs : List Loc) (ls : Array Slot), va_P D vwCl (wX4 C a4 A4) H → va_D A (wX4 C a4 A4) → va_S A s.heap H locs → lv_has ls 10 [(0, .ref (a4 0)), (5, .int x5), (6, .int x6), (7, .int x7)] → W p l e rmX4_setMark s m ([.ref (a4 0), .int p1, .int p2, .int p3, .int p4] : List Value).toArray below meth c H locs 0 0 Q (F0 m 83 ls [.int y0]) := by
    intro x5 x6 x7 y0 A4 hF H locs ls hP hD hS hl
    rw [eJ83] at hF
    refine lv_istore (lv' := [(8, .int y0), (0, .ref (a4 0)), (5, .int x5), (6, .int x6), (7, .int x7)]) hx hb dX4_setMark_83 hl (by decide) rfl (fun ls hl => ?_)
    refine lv_iload hx hb dX4_setMark_85 (lv_at hl 2 rfl) ?_
    refine lv_iload hx hb dX4_setMark_87 (lv_at hl 3 rfl) ?_
    obtain ⟨z_1, fz_1, hF⟩ := bd_at hF
    refine callS_int (As := [.int x5, .int x6]) (rest := []) ⟨hx, hb, hml, hown, hts⟩ hK hA hZ (c_X4_squareOf l K D C x5 x6 z_1 fz_1) (va_cwS 2 hts gX4_setMark_X4_squareOf rfl rfl rfl (by decide +kernel) ⟨Nat.le_of_ble_eq_true rfl, Nat.le_of_ble_eq_true rfl⟩) rfl hl.1 rfl (Nat.le_of_ble_eq_true rfl) ⟨Nat.zero_le _, Nat.zero_le _⟩ hP hS dX4_setMark_89 (fun H locs hP hS => ?_)
    refine lv_istore (lv' := [(9, .int z_1), (8, .int y0), (0, .ref (a4 0)), (5, .int x5), (6, .int x6), (7, .int x7)]) hx hb dX4_setMark_92 hl (by decide) rfl (fun ls hl => ?_)
    refine lv_iload hx hb dX4_setMark_94 (lv_at hl 0 rfl) ?_
    obtain ⟨z_2, fz_2, hF⟩ := bd_at hF
    refine callSN_int (As := [.int z_1]) (rest := []) ⟨hx, hb, hml, hown, hts⟩ hK hA hZ (c_X5_isSquare l K D C z_1 z_2 fz_2) ⟨va_cnB 1 hts gX4_setMark_X5_isSquare_n56 rfl rfl rfl hZ.nw2 (hts (.initialized RX5) (by decide +kernel)) (by decide +kernel) ⟨Nat.le_of_ble_eq_true rfl, Nat.le_of_ble_eq_true rfl⟩, hts (.static yX5_isSquare) (by decide +kernel), trivial⟩ rfl hl.1 rfl (Nat.le_of_ble_eq_true rfl) ⟨Nat.zero_le _, Nat.zero_le _⟩ hP hS dX4_setMark_96 (fun H locs hP hS => ?_)
    refine lv_if_eq (tgt := 117) hx hb dX4_setMark_99 (by decide) (fun c_3 => ?_) (fun c_3 => ?_)
    · have hF := ifp hF c_3
      refine lv_iconst (v := 1) hx hb dX4_setMark_117 (by decide) ?_
      cases hF
      exact hret _ _ _ _ dX4_setMark_118 nb1 hP hD hS
    · have hF := ifn hF c_3
      refine lv_aload_n hx hb dX4_setMark_102 rfl (lv_at hl 2 rfl) ?_
      refine va_get (D := D) (ci := 4) (v := .ref (a4 2)) (C := RX4) (T := TX4) (N := 2) hx hb hts hiX4 hown hK hP 0 rfl rfl 1 (by decide) (hts (.fieldLink RX4 15 "PanoramaHouse$Round" "colouredOfSquare" "[I") (by decide +kernel)) (fun _ h9 => h9) rfl dX4_setMark_103 ?_
      refine lv_iload hx hb dX4_setMark_106 (lv_at hl 0 rfl) ?_
      refine lv_dup2_11 hx hb dX4_setMark_108 rfl rfl ?_
      obtain ⟨h_4, hF⟩ := ix_at hF
      refine va_iald hx hb hK hP 2 0 rfl rfl h_4 dX4_setMark_109 ?_
      refine lv_iload hx hb dX4_setMark_110 (lv_at hl 1 rfl) ?_
      refine lv_iload hx hb dX4_setMark_112 (lv_at hl 5 rfl) ?_
      refine lv_isub hx hb dX4_setMark_114 ?_
      refine lv_iadd hx hb dX4_setMark_115 ?_
      obtain ⟨h_5, hF⟩ := ix_at hF
      refine va_iast hx hb hK hP hD hS 2 0 rfl rfl h_5 dX4_setMark_116 (fun H locs hP hD hS => ?_)
      obtain ⟨A4_6, eA4_6, hF⟩ := nm_ex hF
      have hP : va_P D vwCl (wX4 C a4 A4_6) H := by rw [eA4_6]; exact hP
      have hD : va_D A (wX4 C a4 A4_6) := by rw [eA4_6]; exact hD
      refine lv_iconst (v := 1) hx hb dX4_setMark_117 (by decide) ?_
      cases hF
      exact hret _ _ _ _ dX4_setMark_118 nb1 hP hD hS
  obtain ⟨J50, eJ50, hF⟩ := nm_ex hF
  have bJ50 : ∀ (x1 : Int32) (x2 : Int32) (x3 : Int32) (x4 : Int32) (x5 : Int32) (x6 : Int32) (y0 : Int32) (A4 : Nat → Nat → Int32), J50 x1 x2 x3 x4 x5 x6 y0 A4 = some z → ∀ (H : Heap) (locs : List Loc) (ls : Array Slot), va_P D vwCl (wX4 C a4 A4) H → va_D A (wX4 C a4 A4) → va_S A s.heap H locs → lv_has ls 10 [(0, .ref (a4 0)), (1, .int x1), (2, .int x2), (3, .int x3), (4, .int x4), (5, .int x5), (6, .int x6)] → W p l e rmX4_setMark s m ([.ref (a4 0), .int p1, .int p2, .int p3, .int p4] : List Value).toArray below meth c H locs 0 0 Q (F0 m 50 ls [.int y0]) := by
    intro x1 x2 x3 x4 x5 x6 y0 A4 hF H locs ls hP hD hS hl
    rw [eJ50] at hF
    refine lv_istore (lv' := [(7, .int y0), (0, .ref (a4 0)), (1, .int x1), (2, .int x2), (3, .int x3), (4, .int x4), (5, .int x5), (6, .int x6)]) hx hb dX4_setMark_50 hl (by decide) rfl (fun ls hl => ?_)
    refine lv_aload_n hx hb dX4_setMark_52 rfl (lv_at hl 1 rfl) ?_
    refine va_get (D := D) (ci := 4) (v := .ref (a4 1)) (C := RX4) (T := TX4) (N := 2) hx hb hts hiX4 hown hK hP 0 rfl rfl 0 (by decide) (hts (.fieldLink RX4 9 "PanoramaHouse$Round" "marks" "[B") (by decide +kernel)) (fun _ h9 => h9) rfl dX4_setMark_53 ?_
    refine lv_iload_n hx hb dX4_setMark_56 rfl (lv_at hl 2 rfl) ?_
    refine lv_iload_n hx hb dX4_setMark_57 rfl (lv_at hl 3 rfl) ?_
    refine lv_iload_n hx hb dX4_setMark_58 rfl (lv_at hl 4 rfl) ?_
    obtain ⟨z_7, fz_7, hF⟩ := bd_at hF
    refine callS_int (As := [.int x1, .int x2, .int x3]) (rest := [.ref (a4 1)]) ⟨hx, hb, hml, hown, hts⟩ hK hA hZ (c_X4_placeInMarks l K D C x1 x2 x3 z_7 fz_7) (va_cwS 3 hts gX4_setMark_X4_placeInMarks rfl rfl rfl (by decide +kernel) ⟨Nat.le_of_ble_eq_true rfl, Nat.le_of_ble_eq_true rfl⟩) rfl hl.1 rfl (Nat.le_of_ble_eq_true rfl) ⟨Nat.zero_le _, Nat.zero_le _⟩ hP hS dX4_setMark_59 (fun H locs hP hS => ?_)
    refine lv_iload hx hb dX4_setMark_62 (lv_at hl 5 rfl) ?_
    refine lv_i2b (v := (x4).toInt8.toInt32) hx hb dX4_setMark_64 rfl ?_
    obtain ⟨h_8, hF⟩ := ix_at hF
    refine va_bast hx hb hK hP hD hS 1 1 rfl rfl h_8 dX4_setMark_65 (fun H locs hP hD hS => ?_)
    obtain ⟨A4_9, eA4_9, hF⟩ := nm_ex hF
    have hP : va_P D vwCl (wX4 C a4 A4_9) H := by rw [eA4_9]; exact hP
    have hD : va_D A (wX4 C a4 A4_9) := by rw [eA4_9]; exact hD
    refine lv_aload_n hx hb dX4_setMark_66 rfl (lv_at hl 1 rfl) ?_
    refine lv_iload hx hb dX4_setMark_67 (lv_at hl 6 rfl) ?_
    refine lv_iload hx hb dX4_setMark_69 (lv_at hl 7 rfl) ?_
    obtain ⟨z_10, fz_10, hF⟩ := bd_at hF
    refine callV_int ([]) ([]) (w' := wX4 C a4 A4_9) (As := [.int x5, .int x6]) (rest := []) ⟨hx, hb, hml, hown, hts⟩ hK hA hZ (c_X4_viewAt l K D C a4 A4_9 x5 x6 z_10 fz_10) (cwV 2 hts gX4_setMark_X4_viewAt rfl rfl rfl (by decide +kernel) ⟨Nat.le_of_ble_eq_true rfl, Nat.le_of_ble_eq_true rfl⟩) 0 rfl rfl rfl rfl hl.1 rfl (Nat.le_of_ble_eq_true rfl) ⟨Nat.zero_le _, Nat.zero_le _⟩ (by simp only [List.append_assoc, List.append_nil, List.nil_append]) (by simp only [List.append_assoc, List.append_nil, List.nil_append]) hP hD hS dX4_setMark_71 (fun H locs hP hD hS => ?_)
    refine lv_iconst (v := -1) hx hb dX4_setMark_74 (by decide) ?_
    refine lv_icmp_ne (tgt := 82) hx hb dX4_setMark_75 (by decide) (fun c_11 => ?_) (fun c_11 => ?_)
    · have hF := ifn hF c_11
      refine lv_iconst (v := 1) hx hb dX4_setMark_82 (by decide) ?_
      exact bJ83 x5 x6 y0 1 A4_9 hF _ _ _ hP hD hS (lv_sub hl [1, 6, 7, 0] rfl)
    · have hF := ifp hF c_11
      refine lv_iconst (v := 0) hx hb dX4_setMark_78 (by decide) ?_
      refine lv_goto (tgt := 83) hx hb dX4_setMark_79 (by decide) ?_
      exact bJ83 x5 x6 y0 0 A4_9 hF _ _ _ hP hD hS (lv_sub hl [1, 6, 7, 0] rfl)
  refine lv_iload_n hx hb dX4_setMark_0 rfl (lv_at hl 1 rfl) ?_
  refine lv_iload_n hx hb dX4_setMark_1 rfl (lv_at hl 2 rfl) ?_
  refine lv_iload_n hx hb dX4_setMark_2 rfl (lv_at hl 3 rfl) ?_
  obtain ⟨z_12, fz_12, hF⟩ := bd_at hF
  refine callS_int (As := [.int p1, .int p2, .int p3]) (rest := []) ⟨hx, hb, hml, hown, hts⟩ hK hA hZ (c_X4_isMark l K D C p1 p2 p3 z_12 fz_12) (va_cwS 3 hts gX4_setMark_X4_isMark rfl rfl rfl (by decide +kernel) ⟨Nat.le_of_ble_eq_true rfl, Nat.le_of_ble_eq_true rfl⟩) rfl hl.1 rfl (Nat.le_of_ble_eq_true rfl) ⟨Nat.zero_le _, Nat.zero_le _⟩ hP hS dX4_setMark_3 (fun H locs hP hS => ?_)
  refine lv_if_eq (tgt := 17) hx hb dX4_setMark_6 (by decide) (fun c_13 => ?_) (fun c_13 => ?_)
  · have hF := ifp hF c_13
    refine lv_iconst (v := 0) hx hb dX4_setMark_17 (by decide) ?_
    cases hF
    exact hret _ _ _ _ dX4_setMark_18 nb0 hP hD hS
  · have hF := ifn hF c_13
    refine lv_iload hx hb dX4_setMark_9 (lv_at hl 4 rfl) ?_
    obtain ⟨z_14, fz_14, hF⟩ := bd_at hF
    refine callS_int (As := [.int p4]) (rest := []) ⟨hx, hb, hml, hown, hts⟩ hK hA hZ (c_X4_isColour l K D C p4 z_14 fz_14) (va_cwS 1 hts gX4_setMark_X4_isColour rfl rfl rfl (by decide +kernel) ⟨Nat.le_of_ble_eq_true rfl, Nat.le_of_ble_eq_true rfl⟩) rfl hl.1 rfl (Nat.le_of_ble_eq_true rfl) ⟨Nat.zero_le _, Nat.zero_le _⟩ hP hS dX4_setMark_11 (fun H locs hP hS => ?_)
    refine lv_if_ne (tgt := 19) hx hb dX4_setMark_14 (by decide) (fun c_15 => ?_) (fun c_15 => ?_)
    · have hF := ifn hF c_15
      refine lv_iload_n hx hb dX4_setMark_19 rfl (lv_at hl 1 rfl) ?_
      refine lv_iload_n hx hb dX4_setMark_20 rfl (lv_at hl 2 rfl) ?_
      obtain ⟨z_16, fz_16, hF⟩ := bd_at hF
      refine callS_int (As := [.int p1, .int p2]) (rest := []) ⟨hx, hb, hml, hown, hts⟩ hK hA hZ (c_X4_columnOf l K D C p1 p2 z_16 fz_16) (va_cwS 2 hts gX4_setMark_X4_columnOf rfl rfl rfl (by decide +kernel) ⟨Nat.le_of_ble_eq_true rfl, Nat.le_of_ble_eq_true rfl⟩) rfl hl.1 rfl (Nat.le_of_ble_eq_true rfl) ⟨Nat.zero_le _, Nat.zero_le _⟩ hP hS dX4_setMark_21 (fun H locs hP hS => ?_)
      refine lv_istore (lv' := [(5, .int z_16), (0, .ref (a4 0)), (1, .int p1), (2, .int p2), (3, .int p3), (4, .int p4)]) hx hb dX4_setMark_24 hl (by decide) rfl (fun ls hl => ?_)
      refine lv_iload_n hx hb dX4_setMark_26 rfl (lv_at hl 3 rfl) ?_
      refine lv_iload_n hx hb dX4_setMark_27 rfl (lv_at hl 4 rfl) ?_
      obtain ⟨z_17, fz_17, hF⟩ := bd_at hF
      refine callS_int (As := [.int p2, .int p3]) (rest := []) ⟨hx, hb, hml, hown, hts⟩ hK hA hZ (c_X4_rowOf l K D C p2 p3 z_17 fz_17) (va_cwS 2 hts gX4_setMark_X4_rowOf rfl rfl rfl (by decide +kernel) ⟨Nat.le_of_ble_eq_true rfl, Nat.le_of_ble_eq_true rfl⟩) rfl hl.1 rfl (Nat.le_of_ble_eq_true rfl) ⟨Nat.zero_le _, Nat.zero_le _⟩ hP hS dX4_setMark_28 (fun H locs hP hS => ?_)
      refine lv_istore (lv' := [(6, .int z_17), (5, .int z_16), (0, .ref (a4 0)), (1, .int p1), (2, .int p2), (3, .int p3), (4, .int p4)]) hx hb dX4_setMark_31 hl (by decide) rfl (fun ls hl => ?_)
      refine lv_aload_n hx hb dX4_setMark_33 rfl (lv_at hl 2 rfl) ?_
      refine lv_iload hx hb dX4_setMark_34 (lv_at hl 1 rfl) ?_
      refine lv_iload hx hb dX4_setMark_36 (lv_at hl 0 rfl) ?_
      obtain ⟨z_18, fz_18, hF⟩ := bd_at hF
      refine callV_int ([]) ([]) (w' := wX4 C a4 A4) (As := [.int z_16, .int z_17]) (rest := []) ⟨hx, hb, hml, hown, hts⟩ hK hA hZ (c_X4_viewAt l K D C a4 A4 z_16 z_17 z_18 fz_18) (cwV 2 hts gX4_setMark_X4_viewAt rfl rfl rfl (by decide +kernel) ⟨Nat.le_of_ble_eq_true rfl, Nat.le_of_ble_eq_true rfl⟩) 0 rfl rfl rfl rfl hl.1 rfl (Nat.le_of_ble_eq_true rfl) ⟨Nat.zero_le _, Nat.zero_le _⟩ (by simp only [List.append_assoc, List.append_nil, List.nil_append]) (by simp only [List.append_assoc, List.append_nil, List.nil_append]) hP hD hS dX4_setMark_38 (fun H locs hP hD hS => ?_)
      refine lv_iconst (v := -1) hx hb dX4_setMark_41 (by decide) ?_
      refine lv_icmp_ne (tgt := 49) hx hb dX4_setMark_42 (by decide) (fun c_19 => ?_) (fun c_19 => ?_)
      · have hF := ifn hF c_19
        refine lv_iconst (v := 1) hx hb dX4_setMark_49 (by decide) ?_
        exact bJ50 p1 p2 p3 p4 z_16 z_17 1 A4 hF _ _ _ hP hD hS (lv_sub hl [2, 3, 4, 5, 6, 1, 0] rfl)
      · have hF := ifp hF c_19
        refine lv_iconst (v := 0) hx hb dX4_setMark_45 (by decide) ?_
        refine lv_goto (tgt := 50) hx hb dX4_setMark_46 (by decide) ?_
        exact bJ50 p1 p2 p3 p4 z_16 z_17 0 A4 hF _ _ _ hP hD hS (lv_sub hl [2, 3, 4, 5, 6, 1, 0] rfl)
    · have hF := ifp hF c_15
      refine lv_iconst (v := 0) hx hb dX4_setMark_17 (by decide) ?_
      cases hF
      exact hret _ _ _ _ dX4_setMark_18 nb0 hP hD hS
abbrev rmX4_drawLine : Room := { frames := 6, cells := 0, slots := 0, locals := 166 }
set_option maxRecDepth 100000 in
set_option maxHeartbeats 4000000 in
theorem c_X4_drawLine (l : Launch) (K : Kx) (D : va_G) (C : Nat → ClassId) (a4 : Nat → Nat) (A4 : Nat → Nat → Int32) (p1 : Int32) (p2 : Int32) (p3 : Int32) (p4 : Int32) (p5 : Int32) (p6 : Int32) (z : Int32 × (Nat → Nat → Int32)) (hF : F_X4_drawLine A4 p1 p2 p3 p4 p5 p6 = some z) : MetI l yX4_drawLine wsX4_drawLine rmX4_drawLine K D (tyV C) (wX4 C a4 A4) [.ref (a4 0), .int p1, .int p2, .int p3, .int p4, .int p5, .int p6] (wX4 C a4 z.2) z.1 := by
  refine met_int (cc := cX4_drawLine) (maxL := 9) (ty := .int) (by decide +kernel) rfl (Nat.le_of_ble_eq_true rfl) ?_
  intro p e s m below meth c A Q ls ⟨hx, hb, hml, hown, hts, hK, hA, hZ⟩ hP hD hS hl hret
  have hown : s.vm.findClass RX4 = some m.cls := hown
  have hl : lv_has ls 9 [(0, .ref (a4 0)), (1, .int p1), (2, .int p2), (3, .int p3), (4, .int p4), (5, .int p5), (6, .int p6)] := hl
  unfold F_X4_drawLine at hF
  obtain ⟨J99, eJ99, hF⟩ := nm_ex hF
  have bJ99 : ∀ (x7 : Int32) (A4 : Nat → Nat → Int32), J99 x7 A4 = some z → ∀ (H : Heap) (locs : List Loc) (ls : Array Slot), va_P D vwCl (wX4 C a4 A4) H → va_D A (wX4 C a4 A4) → va_S A s.heap H locs → lv_has ls 9 [(7, .int x7)] → W p l e rmX4_drawLine s m ([.ref (a4 0), .int p1, .int p2, .int p3, .int p4, .int p5, .int p6] : List Value).toArray below meth c H locs 0 0 Q (F0 m 99 ls []) := by
    intro x7 A4 hF H locs ls hP hD hS hl
    rw [eJ99] at hF
    refine lv_iload hx hb dX4_drawLine_99 (lv_at hl 0 rfl) ?_
    refine lv_iconst (v := 1) hx hb dX4_drawLine_101 (by decide) ?_
    refine lv_iadd hx hb dX4_drawLine_102 ?_
    cases hF
    exact hret _ _ _ _ dX4_drawLine_103 rfl hP hD hS
  have bL52 : ∀ (n : Nat) (x1 : Int32) (x2 : Int32) (x3 : Int32) (x4 : Int32) (x5 : Int32) (x6 : Int32) (x7 : Int32) (x8 : Int32) (A4 : Nat → Nat → Int32), L_X4_drawLine_52 J99 n x1 x2 x3 x4 x5 x6 x7 x8 A4 = some z → ∀ (H : Heap) (locs : List Loc) (ls : Array Slot), va_P D vwCl (wX4 C a4 A4) H → va_D A (wX4 C a4 A4) → va_S A s.heap H locs → lv_has ls 9 [(0, .ref (a4 0)), (1, .int x1), (2, .int x2), (3, .int x3), (4, .int x4), (5, .int x5), (6, .int x6), (7, .int x7), (8, .int x8)] → W p l e rmX4_drawLine s m ([.ref (a4 0), .int p1, .int p2, .int p3, .int p4, .int p5, .int p6] : List Value).toArray below meth c H locs 0 0 Q (F0 m 52 ls []) := by
    intro n
    induction n with
    | zero => intro x1 x2 x3 x4 x5 x6 x7 x8 A4 hF; rw [L_X4_drawLine_52.eq_1] at hF; cases hF
    | succ n ih52 =>
      intro x1 x2 x3 x4 x5 x6 x7 x8 A4 hF H locs ls hP hD hS hl
      rw [L_X4_drawLine_52.eq_2] at hF
      refine lv_iload hx hb dX4_drawLine_52 (lv_at hl 8 rfl) ?_
      refine lv_iload hx hb dX4_drawLine_54 (lv_at hl 7 rfl) ?_
      refine lv_icmp_gt (tgt := 99) hx hb dX4_drawLine_56 (by decide) (fun c_1 => ?_) (fun c_1 => ?_)
      · have hF := ifp hF c_1
        exact bJ99 x7 A4 hF _ _ _ hP hD hS (lv_sub hl [7] rfl)
      · have hF := ifn hF c_1
        refine lv_aload_n hx hb dX4_drawLine_59 rfl (lv_at hl 0 rfl) ?_
        refine lv_iload_n hx hb dX4_drawLine_60 rfl (lv_at hl 1 rfl) ?_
        refine lv_iload_n hx hb dX4_drawLine_61 rfl (lv_at hl 2 rfl) ?_
        refine lv_iload hx hb dX4_drawLine_62 (lv_at hl 8 rfl) ?_
        refine lv_iload hx hb dX4_drawLine_64 (lv_at hl 4 rfl) ?_
        refine lv_iload_n hx hb dX4_drawLine_66 rfl (lv_at hl 2 rfl) ?_
        refine lv_isub hx hb dX4_drawLine_67 ?_
        refine lv_iload hx hb dX4_drawLine_68 (lv_at hl 7 rfl) ?_
        obtain ⟨z_2, fz_2, hF⟩ := bd_at hF
        refine callS_int (As := [.int x8, .int (x4 - x2), .int x7]) (rest := [.int x2, .int x1, .ref (a4 0)]) ⟨hx, hb, hml, hown, hts⟩ hK hA hZ (c_X4_partOfWay l K D C x8 (x4 - x2) x7 z_2 fz_2) (va_cwS 3 hts gX4_drawLine_X4_partOfWay rfl rfl rfl (by decide +kernel) ⟨Nat.le_of_ble_eq_true rfl, Nat.le_of_ble_eq_true rfl⟩) rfl hl.1 rfl (Nat.le_of_ble_eq_true rfl) ⟨Nat.zero_le _, Nat.zero_le _⟩ hP hS dX4_drawLine_70 (fun H locs hP hS => ?_)
        refine lv_iadd hx hb dX4_drawLine_73 ?_
        refine lv_iload_n hx hb dX4_drawLine_74 rfl (lv_at hl 3 rfl) ?_
        refine lv_iload hx hb dX4_drawLine_75 (lv_at hl 8 rfl) ?_
        refine lv_iload hx hb dX4_drawLine_77 (lv_at hl 5 rfl) ?_
        refine lv_iload_n hx hb dX4_drawLine_79 rfl (lv_at hl 3 rfl) ?_
        refine lv_isub hx hb dX4_drawLine_80 ?_
        refine lv_iload hx hb dX4_drawLine_81 (lv_at hl 7 rfl) ?_
        obtain ⟨z_3, fz_3, hF⟩ := bd_at hF
        refine callS_int (As := [.int x8, .int (x5 - x3), .int x7]) (rest := [.int x3, .int (x2 + z_2), .int x1, .ref (a4 0)]) ⟨hx, hb, hml, hown, hts⟩ hK hA hZ (c_X4_partOfWay l K D C x8 (x5 - x3) x7 z_3 fz_3) (va_cwS 3 hts gX4_drawLine_X4_partOfWay rfl rfl rfl (by decide +kernel) ⟨Nat.le_of_ble_eq_true rfl, Nat.le_of_ble_eq_true rfl⟩) rfl hl.1 rfl (Nat.le_of_ble_eq_true rfl) ⟨Nat.zero_le _, Nat.zero_le _⟩ hP hS dX4_drawLine_83 (fun H locs hP hS => ?_)
        refine lv_iadd hx hb dX4_drawLine_86 ?_
        refine lv_iload hx hb dX4_drawLine_87 (lv_at hl 6 rfl) ?_
        obtain ⟨z_4, fz_4, hF⟩ := bd_at hF
        refine callV_int ([]) ([]) (w' := wX4 C a4 z_4.2) (As := [.int x1, .int (x2 + z_2), .int (x3 + z_3), .int x6]) (rest := []) ⟨hx, hb, hml, hown, hts⟩ hK hA hZ (c_X4_setMark l K D C a4 A4 x1 (x2 + z_2) (x3 + z_3) x6 z_4 fz_4) (cwV 4 hts gX4_drawLine_X4_setMark rfl rfl rfl (by decide +kernel) ⟨Nat.le_of_ble_eq_true rfl, Nat.le_of_ble_eq_true rfl⟩) 0 rfl rfl rfl rfl hl.1 rfl (Nat.le_of_ble_eq_true rfl) ⟨Nat.zero_le _, Nat.zero_le _⟩ (by simp only [List.append_assoc, List.append_nil, List.nil_append]) (by simp only [List.append_assoc, List.append_nil, List.nil_append]) hP hD hS dX4_drawLine_89 (fun H locs hP hD hS => ?_)
        refine lv_pop hx hb dX4_drawLine_92 rfl ?_
        obtain ⟨v_5, ev_5⟩ : ∃ y : Int32, y = x8 + 1 := ⟨_, rfl⟩
        have hF := nm_at hF ev_5
        refine lv_iinc (v := v_5) (lv' := [(8, .int v_5), (0, .ref (a4 0)), (1, .int x1), (2, .int x2), (3, .int x3), (4, .int x4), (5, .int x5), (6, .int x6), (7, .int x7)]) hx hb dX4_drawLine_93 hl (k := 8) rfl (by rw [ev_5]; rfl) (by decide) rfl (fun ls hl => ?_)
        refine lv_goto (tgt := 52) hx hb dX4_drawLine_96 (by decide) ?_
        exact ih52 x1 x2 x3 x4 x5 x6 x7 v_5 z_4.2 hF _ _ _ hP hD hS (lv_sub hl [1, 2, 3, 4, 5, 6, 7, 8, 0] rfl)
  refine lv_iload_n hx hb dX4_drawLine_0 rfl (lv_at hl 1 rfl) ?_
  refine lv_iload_n hx hb dX4_drawLine_1 rfl (lv_at hl 2 rfl) ?_
  refine lv_iload_n hx hb dX4_drawLine_2 rfl (lv_at hl 3 rfl) ?_
  obtain ⟨z_6, fz_6, hF⟩ := bd_at hF
  refine callS_int (As := [.int p1, .int p2, .int p3]) (rest := []) ⟨hx, hb, hml, hown, hts⟩ hK hA hZ (c_X4_isMark l K D C p1 p2 p3 z_6 fz_6) (va_cwS 3 hts gX4_drawLine_X4_isMark rfl rfl rfl (by decide +kernel) ⟨Nat.le_of_ble_eq_true rfl, Nat.le_of_ble_eq_true rfl⟩) rfl hl.1 rfl (Nat.le_of_ble_eq_true rfl) ⟨Nat.zero_le _, Nat.zero_le _⟩ hP hS dX4_drawLine_3 (fun H locs hP hS => ?_)
  refine lv_if_eq (tgt := 28) hx hb dX4_drawLine_6 (by decide) (fun c_7 => ?_) (fun c_7 => ?_)
  · have hF := ifp hF c_7
    refine lv_iconst (v := -1) hx hb dX4_drawLine_28 (by decide) ?_
    cases hF
    exact hret _ _ _ _ dX4_drawLine_29 rfl hP hD hS
  · have hF := ifn hF c_7
    refine lv_iload_n hx hb dX4_drawLine_9 rfl (lv_at hl 1 rfl) ?_
    refine lv_iload hx hb dX4_drawLine_10 (lv_at hl 4 rfl) ?_
    refine lv_iload hx hb dX4_drawLine_12 (lv_at hl 5 rfl) ?_
    obtain ⟨z_8, fz_8, hF⟩ := bd_at hF
    refine callS_int (As := [.int p1, .int p4, .int p5]) (rest := []) ⟨hx, hb, hml, hown, hts⟩ hK hA hZ (c_X4_isMark l K D C p1 p4 p5 z_8 fz_8) (va_cwS 3 hts gX4_drawLine_X4_isMark rfl rfl rfl (by decide +kernel) ⟨Nat.le_of_ble_eq_true rfl, Nat.le_of_ble_eq_true rfl⟩) rfl hl.1 rfl (Nat.le_of_ble_eq_true rfl) ⟨Nat.zero_le _, Nat.zero_le _⟩ hP hS dX4_drawLine_14 (fun H locs hP hS => ?_)
    refine lv_if_eq (tgt := 28) hx hb dX4_drawLine_17 (by decide) (fun c_9 => ?_) (fun c_9 => ?_)
    · have hF := ifp hF c_9
      refine lv_iconst (v := -1) hx hb dX4_drawLine_28 (by decide) ?_
      cases hF
      exact hret _ _ _ _ dX4_drawLine_29 rfl hP hD hS
    · have hF := ifn hF c_9
      refine lv_iload hx hb dX4_drawLine_20 (lv_at hl 6 rfl) ?_
      obtain ⟨z_10, fz_10, hF⟩ := bd_at hF
      refine callS_int (As := [.int p6]) (rest := []) ⟨hx, hb, hml, hown, hts⟩ hK hA hZ (c_X4_isColour l K D C p6 z_10 fz_10) (va_cwS 1 hts gX4_drawLine_X4_isColour rfl rfl rfl (by decide +kernel) ⟨Nat.le_of_ble_eq_true rfl, Nat.le_of_ble_eq_true rfl⟩) rfl hl.1 rfl (Nat.le_of_ble_eq_true rfl) ⟨Nat.zero_le _, Nat.zero_le _⟩ hP hS dX4_drawLine_22 (fun H locs hP hS => ?_)
      refine lv_if_ne (tgt := 30) hx hb dX4_drawLine_25 (by decide) (fun c_11 => ?_) (fun c_11 => ?_)
      · have hF := ifn hF c_11
        refine lv_iload hx hb dX4_drawLine_30 (lv_at hl 4 rfl) ?_
        refine lv_iload_n hx hb dX4_drawLine_32 rfl (lv_at hl 2 rfl) ?_
        refine lv_isub hx hb dX4_drawLine_33 ?_
        refine va_mabs hx hb (hml.trans hl.1.symm) hown (hts (.methodLink RX4 59 Lib.Math.abs.name) (by decide +kernel)) (hts (.static Lib.Math.abs.name) (by decide +kernel)) (hts (.initialized "java/lang/Math") (by decide +kernel)) (hts (.code Lib.Math.abs.name Lib.Math.abs.code 1 (some .int)) (by decide +kernel)) (Nat.le_of_ble_eq_true rfl) (Nat.le_of_ble_eq_true rfl) (Nat.zero_le _) (Nat.zero_le _) dX4_drawLine_34 ?_
        refine lv_topi (fun v_12 ev_12 => ?_)
        have hF := nm_at hF ev_12
        refine lv_iload hx hb dX4_drawLine_37 (lv_at hl 5 rfl) ?_
        refine lv_iload_n hx hb dX4_drawLine_39 rfl (lv_at hl 3 rfl) ?_
        refine lv_isub hx hb dX4_drawLine_40 ?_
        refine va_mabs hx hb (hml.trans hl.1.symm) hown (hts (.methodLink RX4 59 Lib.Math.abs.name) (by decide +kernel)) (hts (.static Lib.Math.abs.name) (by decide +kernel)) (hts (.initialized "java/lang/Math") (by decide +kernel)) (hts (.code Lib.Math.abs.name Lib.Math.abs.code 1 (some .int)) (by decide +kernel)) (Nat.le_of_ble_eq_true rfl) (Nat.le_of_ble_eq_true rfl) (Nat.zero_le _) (Nat.zero_le _) dX4_drawLine_41 ?_
        refine lv_topi (fun v_13 ev_13 => ?_)
        have hF := nm_at hF ev_13
        refine va_mmax hx hb (hml.trans hl.1.symm) hown (hts (.methodLink RX4 62 Lib.Math.max.name) (by decide +kernel)) (hts (.static Lib.Math.max.name) (by decide +kernel)) (hts (.initialized "java/lang/Math") (by decide +kernel)) (hts (.code Lib.Math.max.name Lib.Math.max.code 2 (some .int)) (by decide +kernel)) (Nat.le_of_ble_eq_true rfl) (Nat.le_of_ble_eq_true rfl) (Nat.zero_le _) (Nat.zero_le _) dX4_drawLine_44 ?_
        refine lv_topi (fun v_14 ev_14 => ?_)
        have hF := nm_at hF ev_14
        refine lv_istore (lv' := [(7, .int v_14), (0, .ref (a4 0)), (1, .int p1), (2, .int p2), (3, .int p3), (4, .int p4), (5, .int p5), (6, .int p6)]) hx hb dX4_drawLine_47 hl (by decide) rfl (fun ls hl => ?_)
        refine lv_iconst (v := 0) hx hb dX4_drawLine_49 (by decide) ?_
        refine lv_istore (lv' := [(8, .int 0), (7, .int v_14), (0, .ref (a4 0)), (1, .int p1), (2, .int p2), (3, .int p3), (4, .int p4), (5, .int p5), (6, .int p6)]) hx hb dX4_drawLine_50 hl (by decide) rfl (fun ls hl => ?_)
        exact bL52 FU p1 p2 p3 p4 p5 p6 v_14 0 A4 hF _ _ _ hP hD hS (lv_sub hl [2, 3, 4, 5, 6, 7, 8, 1, 0] rfl)
      · have hF := ifp hF c_11
        refine lv_iconst (v := -1) hx hb dX4_drawLine_28 (by decide) ?_
        cases hF
        exact hret _ _ _ _ dX4_drawLine_29 rfl hP hD hS
abbrev rmX4_colouredIn : Room := { frames := 2, cells := 0, slots := 0, locals := 52 }
set_option maxRecDepth 100000 in
set_option maxHeartbeats 4000000 in
theorem c_X4_colouredIn (l : Launch) (K : Kx) (D : va_G) (C : Nat → ClassId) (a4 : Nat → Nat) (A4 : Nat → Nat → Int32) (p1 : Int32) (z : Int32) (hF : F_X4_colouredIn A4 p1 = some z) : MetI l yX4_colouredIn wsX4_colouredIn rmX4_colouredIn K D (tyV C) (wX4 C a4 A4) [.ref (a4 0), .int p1] (wX4 C a4 A4) z := by
  refine met_int (cc := cX4_colouredIn) (maxL := 2) (ty := .int) (by decide +kernel) rfl (Nat.le_of_ble_eq_true rfl) ?_
  intro p e s m below meth c A Q ls ⟨hx, hb, hml, hown, hts, hK, hA, hZ⟩ hP hD hS hl hret
  have hown : s.vm.findClass RX4 = some m.cls := hown
  have hiX4 : ∀ w ∈ u_ws RX4 TX4 2, w ∈ wsX4_colouredIn := by decide +kernel
  have hl : lv_has ls 2 [(0, .ref (a4 0)), (1, .int p1)] := hl
  unfold F_X4_colouredIn at hF
  refine lv_iload_n hx hb dX4_colouredIn_0 rfl (lv_at hl 1 rfl) ?_
  obtain ⟨z_1, fz_1, hF⟩ := bd_at hF
  refine callSN_int (As := [.int p1]) (rest := []) ⟨hx, hb, hml, hown, hts⟩ hK hA hZ (c_X5_isSquare l K D C p1 z_1 fz_1) ⟨va_cnB 1 hts gX4_colouredIn_X5_isSquare_n56 rfl rfl rfl hZ.nw2 (hts (.initialized RX5) (by decide +kernel)) (by decide +kernel) ⟨Nat.le_of_ble_eq_true rfl, Nat.le_of_ble_eq_true rfl⟩, hts (.static yX5_isSquare) (by decide +kernel), trivial⟩ rfl hl.1 rfl (Nat.le_of_ble_eq_true rfl) ⟨Nat.zero_le _, Nat.zero_le _⟩ hP hS dX4_colouredIn_1 (fun H locs hP hS => ?_)
  refine lv_if_eq (tgt := 16) hx hb dX4_colouredIn_4 (by decide) (fun c_2 => ?_) (fun c_2 => ?_)
  · have hF := ifp hF c_2
    refine lv_iconst (v := 0) hx hb dX4_colouredIn_16 (by decide) ?_
    cases hF
    exact hret _ _ _ _ dX4_colouredIn_17 rfl hP hD hS
  · have hF := ifn hF c_2
    refine lv_aload_n hx hb dX4_colouredIn_7 rfl (lv_at hl 0 rfl) ?_
    refine va_get (D := D) (ci := 4) (v := .ref (a4 2)) (C := RX4) (T := TX4) (N := 2) hx hb hts hiX4 hown hK hP 0 rfl rfl 1 (by decide) (hts (.fieldLink RX4 15 "PanoramaHouse$Round" "colouredOfSquare" "[I") (by decide +kernel)) (fun _ h9 => h9) rfl dX4_colouredIn_8 ?_
    refine lv_iload_n hx hb dX4_colouredIn_11 rfl (lv_at hl 1 rfl) ?_
    obtain ⟨h_3, hF⟩ := ix_at hF
    refine va_iald hx hb hK hP 2 0 rfl rfl h_3 dX4_colouredIn_12 ?_
    refine lv_goto (tgt := 17) hx hb dX4_colouredIn_13 (by decide) ?_
    cases hF
    exact hret _ _ _ _ dX4_colouredIn_17 rfl hP hD hS
abbrev rmX4_colouredPlaces : Room := { frames := 1, cells := 0, slots := 0, locals := 32 }
set_option maxRecDepth 100000 in
set_option maxHeartbeats 4000000 in
theorem c_X4_colouredPlaces (l : Launch) (K : Kx) (D : va_G) (C : Nat → ClassId) (a4 : Nat → Nat) (A4 : Nat → Nat → Int32) (z : Int32) (hF : F_X4_colouredPlaces A4 = some z) : MetI l yX4_colouredPlaces wsX4_colouredPlaces rmX4_colouredPlaces K D (tyV C) (wX4 C a4 A4) [.ref (a4 0)] (wX4 C a4 A4) z := by
  refine met_int (cc := cX4_colouredPlaces) (maxL := 3) (ty := .int) (by decide +kernel) rfl (Nat.le_of_ble_eq_true rfl) ?_
  intro p e s m below meth c A Q ls ⟨hx, hb, hml, hown, hts, hK, hA, hZ⟩ hP hD hS hl hret
  have hown : s.vm.findClass RX4 = some m.cls := hown
  have hiX4 : ∀ w ∈ u_ws RX4 TX4 2, w ∈ wsX4_colouredPlaces := by decide +kernel
  have hl : lv_has ls 3 [(0, .ref (a4 0))] := hl
  unfold F_X4_colouredPlaces at hF
  obtain ⟨J25, eJ25, hF⟩ := nm_ex hF
  have bJ25 : ∀ (x1 : Int32), J25 x1 = some z → ∀ (H : Heap) (locs : List Loc) (ls : Array Slot), va_P D vwCl (wX4 C a4 A4) H → va_D A (wX4 C a4 A4) → va_S A s.heap H locs → lv_has ls 3 [(1, .int x1)] → W p l e rmX4_colouredPlaces s m ([.ref (a4 0)] : List Value).toArray below meth c H locs 0 0 Q (F0 m 25 ls []) := by
    intro x1 hF H locs ls hP hD hS hl
    rw [eJ25] at hF
    refine lv_iload_n hx hb dX4_colouredPlaces_25 rfl (lv_at hl 0 rfl) ?_
    cases hF
    exact hret _ _ _ _ dX4_colouredPlaces_26 rfl hP hD hS
  have bL4 : ∀ (n : Nat) (x1 : Int32) (x2 : Int32), L_X4_colouredPlaces_4 A4 J25 n x1 x2 = some z → ∀ (H : Heap) (locs : List Loc) (ls : Array Slot), va_P D vwCl (wX4 C a4 A4) H → va_D A (wX4 C a4 A4) → va_S A s.heap H locs → lv_has ls 3 [(0, .ref (a4 0)), (1, .int x1), (2, .int x2)] → W p l e rmX4_colouredPlaces s m ([.ref (a4 0)] : List Value).toArray below meth c H locs 0 0 Q (F0 m 4 ls []) := by
    intro n
    induction n with
    | zero => intro x1 x2 hF; rw [L_X4_colouredPlaces_4.eq_1] at hF; cases hF
    | succ n ih4 =>
      intro x1 x2 hF H locs ls hP hD hS hl
      rw [L_X4_colouredPlaces_4.eq_2] at hF
      refine lv_iload_n hx hb dX4_colouredPlaces_4 rfl (lv_at hl 2 rfl) ?_
      refine lv_bipush (v := 72) hx hb dX4_colouredPlaces_5 (by decide) ?_
      refine lv_icmp_ge (tgt := 25) hx hb dX4_colouredPlaces_7 (by decide) (fun c_1 => ?_) (fun c_1 => ?_)
      · have hF := ifp hF c_1
        exact bJ25 x1 hF _ _ _ hP hD hS (lv_sub hl [1] rfl)
      · have hF := ifn hF c_1
        refine lv_iload_n hx hb dX4_colouredPlaces_10 rfl (lv_at hl 1 rfl) ?_
        refine lv_aload_n hx hb dX4_colouredPlaces_11 rfl (lv_at hl 0 rfl) ?_
        refine va_get (D := D) (ci := 4) (v := .ref (a4 2)) (C := RX4) (T := TX4) (N := 2) hx hb hts hiX4 hown hK hP 0 rfl rfl 1 (by decide) (hts (.fieldLink RX4 15 "PanoramaHouse$Round" "colouredOfSquare" "[I") (by decide +kernel)) (fun _ h9 => h9) rfl dX4_colouredPlaces_12 ?_
        refine lv_iload_n hx hb dX4_colouredPlaces_15 rfl (lv_at hl 2 rfl) ?_
        obtain ⟨h_2, hF⟩ := ix_at hF
        refine va_iald hx hb hK hP 2 0 rfl rfl h_2 dX4_colouredPlaces_16 ?_
        refine lv_iadd hx hb dX4_colouredPlaces_17 ?_
        refine lv_topi (fun v_3 ev_3 => ?_)
        have hF := nm_at hF ev_3
        refine lv_istore_n (lv' := [(1, .int v_3), (0, .ref (a4 0)), (2, .int x2)]) hx hb dX4_colouredPlaces_18 rfl hl (by decide) rfl (fun ls hl => ?_)
        obtain ⟨v_4, ev_4⟩ : ∃ y : Int32, y = x2 + 1 := ⟨_, rfl⟩
        have hF := nm_at hF ev_4
        refine lv_iinc (v := v_4) (lv' := [(2, .int v_4), (1, .int v_3), (0, .ref (a4 0))]) hx hb dX4_colouredPlaces_19 hl (k := 2) rfl (by rw [ev_4]; rfl) (by decide) rfl (fun ls hl => ?_)
        refine lv_goto (tgt := 4) hx hb dX4_colouredPlaces_22 (by decide) ?_
        exact ih4 v_3 v_4 hF _ _ _ hP hD hS (lv_sub hl [2, 1, 0] rfl)
  refine lv_iconst (v := 0) hx hb dX4_colouredPlaces_0 (by decide) ?_
  refine lv_istore_n (lv' := [(1, .int 0), (0, .ref (a4 0))]) hx hb dX4_colouredPlaces_1 rfl hl (by decide) rfl (fun ls hl => ?_)
  refine lv_iconst (v := 0) hx hb dX4_colouredPlaces_2 (by decide) ?_
  refine lv_istore_n (lv' := [(2, .int 0), (1, .int 0), (0, .ref (a4 0))]) hx hb dX4_colouredPlaces_3 rfl hl (by decide) rfl (fun ls hl => ?_)
  exact bL4 FU 0 0 hF _ _ _ hP hD hS (lv_sub hl [2, 1, 0] rfl)
