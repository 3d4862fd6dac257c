abbrev rmX3_tell : Room := { frames := 1, cells := 0, slots := 0, locals := 32 }
set_option maxRecDepth 100000 in
set_option maxHeartbeats 4000000 in
theorem c_X3_tell (l : Launch) (K : Kx) (D : va_G) (C : Nat → ClassId) (a3 : Nat → Nat) (S3 : Nat → Int32) (A3 : Nat → Nat → Int32) (p1 : Int32) (z : Int32) (hF : F_X3_tell S3 p1 = some z) : MetI l yX3_tell wsX3_tell rmX3_tell K D (tyV C) (wX3 C a3 S3 A3) [.ref (a3 0), .int p1] (wX3 C a3 S3 A3) z := by
  refine met_int (cc := cX3_tell) (maxL := 2) (ty := .int) (by decide +kernel) rfl (Nat.le_of_ble_eq_true rfl) ?_
  intro p e s m below meth c A Q ls ⟨hx, hb, hml, hown, hts, hK, hA, hZ⟩ hP hD hS hl hret
  have hown : s.vm.findClass RX3 = some m.cls := hown
  have hiX3 : ∀ w ∈ u_ws RX3 TX3 7, w ∈ wsX3_tell := by decide +kernel
  have hl : lv_has ls 2 [(0, .ref (a3 0)), (1, .int p1)] := hl
  unfold F_X3_tell at hF
  refine lv_iload_n hx hb dX3_tell_0 rfl (lv_at hl 1 rfl) ?_
  rcases Decidable.em (p1 = 0) with c_1 | c_1
  · have hF := ifp hF c_1
    refine lv_tableIn (tgt := 40) hx hb dX3_tell_1 (by rw [c_1]; decide) (by rw [c_1]; decide) (by rw [c_1]; rfl) (by decide) ?_
    refine lv_aload_n hx hb dX3_tell_40 rfl (lv_at hl 0 rfl) ?_
    refine va_get (D := D) (ci := 3) (v := .int (S3 2)) (C := RX3) (T := TX3) (N := 7) hx hb hts hiX3 hown hK hP 0 rfl rfl 2 (by decide) (hts (.fieldLink RX3 31 "PanoramaHouse$Platform" "there" "I") (by decide +kernel)) (fun _ h9 => h9) rfl dX3_tell_41 ?_
    cases hF
    exact hret _ _ _ _ dX3_tell_44 rfl hP hD hS
  · have hF := ifn hF c_1
    rcases Decidable.em (p1 = 1) with c_2 | c_2
    · have hF := ifp hF c_2
      refine lv_tableIn (tgt := 45) hx hb dX3_tell_1 (by rw [c_2]; decide) (by rw [c_2]; decide) (by rw [c_2]; rfl) (by decide) ?_
      refine lv_aload_n hx hb dX3_tell_45 rfl (lv_at hl 0 rfl) ?_
      refine va_get (D := D) (ci := 3) (v := .int (S3 3)) (C := RX3) (T := TX3) (N := 7) hx hb hts hiX3 hown hK hP 0 rfl rfl 3 (by decide) (hts (.fieldLink RX3 19 "PanoramaHouse$Platform" "waiting" "I") (by decide +kernel)) (fun _ h9 => h9) rfl dX3_tell_46 ?_
      cases hF
      exact hret _ _ _ _ dX3_tell_49 rfl hP hD hS
    · have hF := ifn hF c_2
      rcases Decidable.em (p1 = 2) with c_3 | c_3
      · have hF := ifp hF c_3
        refine lv_tableIn (tgt := 50) hx hb dX3_tell_1 (by rw [c_3]; decide) (by rw [c_3]; decide) (by rw [c_3]; rfl) (by decide) ?_
        refine lv_aload_n hx hb dX3_tell_50 rfl (lv_at hl 0 rfl) ?_
        refine va_get (D := D) (ci := 3) (v := .int (S3 4)) (C := RX3) (T := TX3) (N := 7) hx hb hts hiX3 hown hK hP 0 rfl rfl 4 (by decide) (hts (.fieldLink RX3 34 "PanoramaHouse$Platform" "left" "I") (by decide +kernel)) (fun _ h9 => h9) rfl dX3_tell_51 ?_
        cases hF
        exact hret _ _ _ _ dX3_tell_54 rfl hP hD hS
      · have hF := ifn hF c_3
        rcases Decidable.em (p1 = 3) with c_4 | c_4
        · have hF := ifp hF c_4
          refine lv_tableIn (tgt := 55) hx hb dX3_tell_1 (by rw [c_4]; decide) (by rw [c_4]; decide) (by rw [c_4]; rfl) (by decide) ?_
          refine lv_aload_n hx hb dX3_tell_55 rfl (lv_at hl 0 rfl) ?_
          refine va_get (D := D) (ci := 3) (v := .int (S3 5)) (C := RX3) (T := TX3) (N := 7) hx hb hts hiX3 hown hK hP 0 rfl rfl 5 (by decide) (hts (.fieldLink RX3 22 "PanoramaHouse$Platform" "minutes" "I") (by decide +kernel)) (fun _ h9 => h9) rfl dX3_tell_56 ?_
          cases hF
          exact hret _ _ _ _ dX3_tell_59 rfl hP hD hS
        · have hF := ifn hF c_4
          rcases Decidable.em (p1 = 4) with c_5 | c_5
          · have hF := ifp hF c_5
            refine lv_tableIn (tgt := 60) hx hb dX3_tell_1 (by rw [c_5]; decide) (by rw [c_5]; decide) (by rw [c_5]; rfl) (by decide) ?_
            refine lv_aload_n hx hb dX3_tell_60 rfl (lv_at hl 0 rfl) ?_
            refine va_get (D := D) (ci := 3) (v := .int (S3 6)) (C := RX3) (T := TX3) (N := 7) hx hb hts hiX3 hown hK hP 0 rfl rfl 6 (by decide) (hts (.fieldLink RX3 43 "PanoramaHouse$Platform" "mostEver" "I") (by decide +kernel)) (fun _ h9 => h9) rfl dX3_tell_61 ?_
            cases hF
            exact hret _ _ _ _ dX3_tell_64 rfl hP hD hS
          · have hF := ifn hF c_5
            rcases Decidable.em (p1 = 5) with c_6 | c_6
            · have hF := ifp hF c_6
              refine lv_tableIn (tgt := 65) hx hb dX3_tell_1 (by rw [c_6]; decide) (by rw [c_6]; decide) (by rw [c_6]; rfl) (by decide) ?_
              refine lv_aload_n hx hb dX3_tell_65 rfl (lv_at hl 0 rfl) ?_
              refine va_get (D := D) (ci := 3) (v := .int (S3 1)) (C := RX3) (T := TX3) (N := 7) hx hb hts hiX3 hown hK hP 0 rfl rfl 1 (by decide) (hts (.fieldLink RX3 15 "PanoramaHouse$Platform" "most" "I") (by decide +kernel)) (fun _ h9 => h9) rfl dX3_tell_66 ?_
              cases hF
              exact hret _ _ _ _ dX3_tell_69 rfl hP hD hS
            · have hF := ifn hF c_6
              have ic_1 : (p1).toInt ≠ 0 := fun h => c_1 (Int32.toInt_inj.mp (h.trans (by decide)))
              have ic_2 : (p1).toInt ≠ 1 := fun h => c_2 (Int32.toInt_inj.mp (h.trans (by decide)))
              have ic_3 : (p1).toInt ≠ 2 := fun h => c_3 (Int32.toInt_inj.mp (h.trans (by decide)))
              have ic_4 : (p1).toInt ≠ 3 := fun h => c_4 (Int32.toInt_inj.mp (h.trans (by decide)))
              have ic_5 : (p1).toInt ≠ 4 := fun h => c_5 (Int32.toInt_inj.mp (h.trans (by decide)))
              have ic_6 : (p1).toInt ≠ 5 := fun h => c_6 (Int32.toInt_inj.mp (h.trans (by decide)))
              refine lv_tableOut (tgt := 70) hx hb dX3_tell_1 (by omega) (by decide) ?_
              refine lv_iconst (v := -1) hx hb dX3_tell_70 (by decide) ?_
              cases hF
              exact hret _ _ _ _ dX3_tell_71 rfl hP hD hS
abbrev rmX3_setRoom : Room := { frames := 1, cells := 0, slots := 0, locals := 32 }
set_option maxRecDepth 100000 in
set_option maxHeartbeats 4000000 in
theorem c_X3_setRoom (l : Launch) (K : Kx) (D : va_G) (C : Nat → ClassId) (a3 : Nat → Nat) (S3 : Nat → Int32) (A3 : Nat → Nat → Int32) (p1 : Int32) (z : Int32 × (Nat → Int32)) (hF : F_X3_setRoom S3 p1 = some z) : MetI l yX3_setRoom wsX3_setRoom rmX3_setRoom K D (tyV C) (wX3 C a3 S3 A3) [.ref (a3 0), .int p1] (wX3 C a3 z.2 A3) z.1 := by
  refine met_int (cc := cX3_setRoom) (maxL := 2) (ty := .boolean) (by decide +kernel) rfl (Nat.le_of_ble_eq_true rfl) ?_
  intro p e s m below meth c A Q ls ⟨hx, hb, hml, hown, hts, hK, hA, hZ⟩ hP hD hS hl hret
  have hown : s.vm.findClass RX3 = some m.cls := hown
  have hiX3 : ∀ w ∈ u_ws RX3 TX3 7, w ∈ wsX3_setRoom := by decide +kernel
  have hl : lv_has ls 2 [(0, .ref (a3 0)), (1, .int p1)] := hl
  unfold F_X3_setRoom at hF
  refine lv_iload_n hx hb dX3_setRoom_0 rfl (lv_at hl 1 rfl) ?_
  refine lv_iconst (v := 1) hx hb dX3_setRoom_1 (by decide) ?_
  refine lv_icmp_lt (tgt := 12) hx hb dX3_setRoom_2 (by decide) (fun c_1 => ?_) (fun c_1 => ?_)
  · have hF := ifp hF c_1
    refine lv_iconst (v := 0) hx hb dX3_setRoom_12 (by decide) ?_
    cases hF
    exact hret _ _ _ _ dX3_setRoom_13 nb0 hP hD hS
  · have hF := ifn hF c_1
    refine lv_iload_n hx hb dX3_setRoom_5 rfl (lv_at hl 1 rfl) ?_
    refine lv_sipush (v := 200) hx hb dX3_setRoom_6 (by decide) ?_
    refine lv_icmp_le (tgt := 14) hx hb dX3_setRoom_9 (by decide) (fun c_2 => ?_) (fun c_2 => ?_)
    · have hF := ifp hF c_2
      refine lv_aload_n hx hb dX3_setRoom_14 rfl (lv_at hl 0 rfl) ?_
      refine lv_iload_n hx hb dX3_setRoom_15 rfl (lv_at hl 1 rfl) ?_
      refine va_put (D := D) (ci := 3) (v := .int p1) (ty := .int) (C := RX3) (T := TX3) (N := 7) hx hb hts hiX3 tyX3 tyX3_ok nmX3 hown hK hP hD hS 0 rfl rfl 1 (by decide) (hts (.fieldLink RX3 15 "PanoramaHouse$Platform" "most" "I") (by decide +kernel)) (fun _ h9 => h9) rfl (by decide +kernel) rfl rfl (Nat.le_of_ble_eq_true rfl) dX3_setRoom_16 (fun H locs hP hD hS => ?_)
      obtain ⟨S3_3, eS3_3, hF⟩ := nm_ex hF
      have hP : va_P D vwCl (wX3 C a3 S3_3 A3) H := by rw [eS3_3]; exact hP
      have hD : va_D A (wX3 C a3 S3_3 A3) := by rw [eS3_3]; exact hD
      refine lv_iconst (v := 1) hx hb dX3_setRoom_19 (by decide) ?_
      cases hF
      exact hret _ _ _ _ dX3_setRoom_20 nb1 hP hD hS
    · have hF := ifn hF c_2
      refine lv_iconst (v := 0) hx hb dX3_setRoom_12 (by decide) ?_
      cases hF
      exact hret _ _ _ _ dX3_setRoom_13 nb0 hP hD hS
abbrev rmX3_passMinute : Room := { frames := 2, cells := 0, slots := 0, locals := 54 }
set_option maxRecDepth 100000 in
set_option maxHeartbeats 4000000 in
theorem c_X3_passMinute (l : Launch) (K : Kx) (D : va_G) (C : Nat → ClassId) (a3 : Nat → Nat) (S3 : Nat → Int32) (A3 : Nat → Nat → Int32) (p1 : Int32) (z : Int32 × (Nat → Int32) × (Nat → Nat → Int32)) (hF : F_X3_passMinute S3 A3 p1 = some z) : MetI l yX3_passMinute wsX3_passMinute rmX3_passMinute K D (tyV C) (wX3 C a3 S3 A3) [.ref (a3 0), .int p1] (wX3 C a3 z.2.1 z.2.2) z.1 := by
  refine met_int (cc := cX3_passMinute) (maxL := 5) (ty := .int) (by decide +kernel) rfl (Nat.le_of_ble_eq_true rfl) ?_
  intro p e s m below meth c A Q ls ⟨hx, hb, hml, hown, hts, hK, hA, hZ⟩ hP hD hS hl hret
  have hown : s.vm.findClass RX3 = some m.cls := hown
  have hiX3 : ∀ w ∈ u_ws RX3 TX3 7, w ∈ wsX3_passMinute := by decide +kernel
  have hl : lv_has ls 5 [(0, .ref (a3 0)), (1, .int p1)] := hl
  unfold F_X3_passMinute at hF
  refine lv_iload_n hx hb dX3_passMinute_0 rfl (lv_at hl 1 rfl) ?_
  refine lv_if_lt (tgt := 23) hx hb dX3_passMinute_1 (by decide) (fun c_1 => ?_) (fun c_1 => ?_)
  · have hF := ifp hF c_1
    refine lv_iconst (v := -1) hx hb dX3_passMinute_23 (by decide) ?_
    cases hF
    exact hret _ _ _ _ dX3_passMinute_24 rfl hP hD hS
  · have hF := ifn hF c_1
    refine lv_iload_n hx hb dX3_passMinute_4 rfl (lv_at hl 1 rfl) ?_
    refine lv_sipush (v := 500) hx hb dX3_passMinute_5 (by decide) ?_
    refine lv_icmp_gt (tgt := 23) hx hb dX3_passMinute_8 (by decide) (fun c_2 => ?_) (fun c_2 => ?_)
    · have hF := ifp hF c_2
      refine lv_iconst (v := -1) hx hb dX3_passMinute_23 (by decide) ?_
      cases hF
      exact hret _ _ _ _ dX3_passMinute_24 rfl hP hD hS
    · have hF := ifn hF c_2
      refine lv_aload_n hx hb dX3_passMinute_11 rfl (lv_at hl 0 rfl) ?_
      refine va_get (D := D) (ci := 3) (v := .int (S3 3)) (C := RX3) (T := TX3) (N := 7) hx hb hts hiX3 hown hK hP 0 rfl rfl 3 (by decide) (hts (.fieldLink RX3 19 "PanoramaHouse$Platform" "waiting" "I") (by decide +kernel)) (fun _ h9 => h9) rfl dX3_passMinute_12 ?_
      refine lv_iload_n hx hb dX3_passMinute_15 rfl (lv_at hl 1 rfl) ?_
      refine lv_iadd hx hb dX3_passMinute_16 ?_
      refine lv_sipush (v := 2000) hx hb dX3_passMinute_17 (by decide) ?_
      refine lv_icmp_le (tgt := 25) hx hb dX3_passMinute_20 (by decide) (fun c_3 => ?_) (fun c_3 => ?_)
      · have hF := ifp hF c_3
        refine lv_aload_n hx hb dX3_passMinute_25 rfl (lv_at hl 0 rfl) ?_
        refine va_get (D := D) (ci := 3) (v := .int (S3 5)) (C := RX3) (T := TX3) (N := 7) hx hb hts hiX3 hown hK hP 0 rfl rfl 5 (by decide) (hts (.fieldLink RX3 22 "PanoramaHouse$Platform" "minutes" "I") (by decide +kernel)) (fun _ h9 => h9) rfl dX3_passMinute_26 ?_
        refine lv_bipush (v := 12) hx hb dX3_passMinute_29 (by decide) ?_
        obtain ⟨z_4, fz_4, hF⟩ := bd_at hF
        refine callS_int (As := [.int (S3 5), .int 12]) (rest := []) ⟨hx, hb, hml, hown, hts⟩ hK hA hZ (c_J9_floorMod_7cf53 l K D C (S3 5) 12 z_4 fz_4) (va_cwS 2 hts gX3_passMinute_J9_floorMod_7cf53 rfl rfl rfl (by decide +kernel) ⟨Nat.le_of_ble_eq_true rfl, Nat.le_of_ble_eq_true rfl⟩) rfl hl.1 rfl (Nat.le_of_ble_eq_true rfl) ⟨Nat.zero_le _, Nat.zero_le _⟩ hP hS dX3_passMinute_31 (fun H locs hP hS => ?_)
        refine lv_istore_n (lv' := [(2, .int z_4), (0, .ref (a3 0)), (1, .int p1)]) hx hb dX3_passMinute_34 rfl hl (by decide) rfl (fun ls hl => ?_)
        refine lv_aload_n hx hb dX3_passMinute_35 rfl (lv_at hl 1 rfl) ?_
        refine lv_dup hx hb dX3_passMinute_36 rfl ?_
        refine va_get (D := D) (ci := 3) (v := .int (S3 2)) (C := RX3) (T := TX3) (N := 7) hx hb hts hiX3 hown hK hP 0 rfl rfl 2 (by decide) (hts (.fieldLink RX3 31 "PanoramaHouse$Platform" "there" "I") (by decide +kernel)) (fun _ h9 => h9) rfl dX3_passMinute_37 ?_
        refine lv_aload_n hx hb dX3_passMinute_40 rfl (lv_at hl 1 rfl) ?_
        refine va_get (D := D) (ci := 3) (v := .ref (a3 1)) (C := RX3) (T := TX3) (N := 7) hx hb hts hiX3 hown hK hP 0 rfl rfl 0 (by decide) (hts (.fieldLink RX3 9 "PanoramaHouse$Platform" "wentUp" "[I") (by decide +kernel)) (fun _ h9 => h9) rfl dX3_passMinute_41 ?_
        refine lv_iload_n hx hb dX3_passMinute_44 rfl (lv_at hl 0 rfl) ?_
        obtain ⟨h_5, hF⟩ := ix_at hF
        refine va_iald hx hb hK hP 1 0 rfl rfl h_5 dX3_passMinute_45 ?_
        refine lv_isub hx hb dX3_passMinute_46 ?_
        refine va_put (D := D) (ci := 3) (v := .int ((S3 2) - (A3 0 (z_4).toNatClampNeg))) (ty := .int) (C := RX3) (T := TX3) (N := 7) hx hb hts hiX3 tyX3 tyX3_ok nmX3 hown hK hP hD hS 0 rfl rfl 2 (by decide) (hts (.fieldLink RX3 31 "PanoramaHouse$Platform" "there" "I") (by decide +kernel)) (fun _ h9 => h9) rfl (by decide +kernel) rfl rfl (Nat.le_of_ble_eq_true rfl) dX3_passMinute_47 (fun H locs hP hD hS => ?_)
        obtain ⟨S3_6, eS3_6, hF⟩ := nm_ex hF
        have hP : va_P D vwCl (wX3 C a3 S3_6 A3) H := by rw [eS3_6]; exact hP
        have hD : va_D A (wX3 C a3 S3_6 A3) := by rw [eS3_6]; exact hD
        refine lv_aload_n hx hb dX3_passMinute_50 rfl (lv_at hl 1 rfl) ?_
        refine lv_dup hx hb dX3_passMinute_51 rfl ?_
        refine va_get (D := D) (ci := 3) (v := .int (S3_6 4)) (C := RX3) (T := TX3) (N := 7) hx hb hts hiX3 hown hK hP 0 rfl rfl 4 (by decide) (hts (.fieldLink RX3 34 "PanoramaHouse$Platform" "left" "I") (by decide +kernel)) (fun _ h9 => h9) rfl dX3_passMinute_52 ?_
        refine lv_aload_n hx hb dX3_passMinute_55 rfl (lv_at hl 1 rfl) ?_
        refine va_get (D := D) (ci := 3) (v := .ref (a3 1)) (C := RX3) (T := TX3) (N := 7) hx hb hts hiX3 hown hK hP 0 rfl rfl 0 (by decide) (hts (.fieldLink RX3 9 "PanoramaHouse$Platform" "wentUp" "[I") (by decide +kernel)) (fun _ h9 => h9) rfl dX3_passMinute_56 ?_
        refine lv_iload_n hx hb dX3_passMinute_59 rfl (lv_at hl 0 rfl) ?_
        obtain ⟨h_7, hF⟩ := ix_at hF
        refine va_iald hx hb hK hP 1 0 rfl rfl h_7 dX3_passMinute_60 ?_
        refine lv_iadd hx hb dX3_passMinute_61 ?_
        refine va_put (D := D) (ci := 3) (v := .int ((S3_6 4) + (A3 0 (z_4).toNatClampNeg))) (ty := .int) (C := RX3) (T := TX3) (N := 7) hx hb hts hiX3 tyX3 tyX3_ok nmX3 hown hK hP hD hS 0 rfl rfl 4 (by decide) (hts (.fieldLink RX3 34 "PanoramaHouse$Platform" "left" "I") (by decide +kernel)) (fun _ h9 => h9) rfl (by decide +kernel) rfl rfl (Nat.le_of_ble_eq_true rfl) dX3_passMinute_62 (fun H locs hP hD hS => ?_)
        obtain ⟨S3_8, eS3_8, hF⟩ := nm_ex hF
        have hP : va_P D vwCl (wX3 C a3 S3_8 A3) H := by rw [eS3_8]; exact hP
        have hD : va_D A (wX3 C a3 S3_8 A3) := by rw [eS3_8]; exact hD
        refine lv_aload_n hx hb dX3_passMinute_65 rfl (lv_at hl 1 rfl) ?_
        refine lv_dup hx hb dX3_passMinute_66 rfl ?_
        refine va_get (D := D) (ci := 3) (v := .int (S3_8 3)) (C := RX3) (T := TX3) (N := 7) hx hb hts hiX3 hown hK hP 0 rfl rfl 3 (by decide) (hts (.fieldLink RX3 19 "PanoramaHouse$Platform" "waiting" "I") (by decide +kernel)) (fun _ h9 => h9) rfl dX3_passMinute_67 ?_
        refine lv_iload_n hx hb dX3_passMinute_70 rfl (lv_at hl 2 rfl) ?_
        refine lv_iadd hx hb dX3_passMinute_71 ?_
        refine va_put (D := D) (ci := 3) (v := .int ((S3_8 3) + p1)) (ty := .int) (C := RX3) (T := TX3) (N := 7) hx hb hts hiX3 tyX3 tyX3_ok nmX3 hown hK hP hD hS 0 rfl rfl 3 (by decide) (hts (.fieldLink RX3 19 "PanoramaHouse$Platform" "waiting" "I") (by decide +kernel)) (fun _ h9 => h9) rfl (by decide +kernel) rfl rfl (Nat.le_of_ble_eq_true rfl) dX3_passMinute_72 (fun H locs hP hD hS => ?_)
        obtain ⟨S3_9, eS3_9, hF⟩ := nm_ex hF
        have hP : va_P D vwCl (wX3 C a3 S3_9 A3) H := by rw [eS3_9]; exact hP
        have hD : va_D A (wX3 C a3 S3_9 A3) := by rw [eS3_9]; exact hD
        refine lv_aload_n hx hb dX3_passMinute_75 rfl (lv_at hl 1 rfl) ?_
        refine va_get (D := D) (ci := 3) (v := .int (S3_9 1)) (C := RX3) (T := TX3) (N := 7) hx hb hts hiX3 hown hK hP 0 rfl rfl 1 (by decide) (hts (.fieldLink RX3 15 "PanoramaHouse$Platform" "most" "I") (by decide +kernel)) (fun _ h9 => h9) rfl dX3_passMinute_76 ?_
        refine lv_aload_n hx hb dX3_passMinute_79 rfl (lv_at hl 1 rfl) ?_
        refine va_get (D := D) (ci := 3) (v := .int (S3_9 2)) (C := RX3) (T := TX3) (N := 7) hx hb hts hiX3 hown hK hP 0 rfl rfl 2 (by decide) (hts (.fieldLink RX3 31 "PanoramaHouse$Platform" "there" "I") (by decide +kernel)) (fun _ h9 => h9) rfl dX3_passMinute_80 ?_
        refine lv_isub hx hb dX3_passMinute_83 ?_
        refine lv_iconst (v := 0) hx hb dX3_passMinute_84 (by decide) ?_
        refine va_mmax hx hb (hml.trans hl.1.symm) hown (hts (.methodLink RX3 37 Lib.Math.max.name) (by decide +kernel)) (hts (.static Lib.Math.max.name) (by decide +kernel)) (hts (.initialized "java/lang/Math") (by decide +kernel)) (hts (.code Lib.Math.max.name Lib.Math.max.code 2 (some .int)) (by decide +kernel)) (Nat.le_of_ble_eq_true rfl) (Nat.le_of_ble_eq_true rfl) (Nat.zero_le _) (Nat.zero_le _) dX3_passMinute_85 ?_
        refine lv_topi (fun v_10 ev_10 => ?_)
        have hF := nm_at hF ev_10
        refine lv_istore_n (lv' := [(3, .int v_10), (2, .int z_4), (0, .ref (a3 0)), (1, .int p1)]) hx hb dX3_passMinute_88 rfl hl (by decide) rfl (fun ls hl => ?_)
        refine lv_iload_n hx hb dX3_passMinute_89 rfl (lv_at hl 0 rfl) ?_
        refine lv_aload_n hx hb dX3_passMinute_90 rfl (lv_at hl 2 rfl) ?_
        refine va_get (D := D) (ci := 3) (v := .int (S3_9 3)) (C := RX3) (T := TX3) (N := 7) hx hb hts hiX3 hown hK hP 0 rfl rfl 3 (by decide) (hts (.fieldLink RX3 19 "PanoramaHouse$Platform" "waiting" "I") (by decide +kernel)) (fun _ h9 => h9) rfl dX3_passMinute_91 ?_
        refine va_mmin hx hb (hml.trans hl.1.symm) hown (hts (.methodLink RX3 40 Lib.Math.min.name) (by decide +kernel)) (hts (.static Lib.Math.min.name) (by decide +kernel)) (hts (.initialized "java/lang/Math") (by decide +kernel)) (hts (.code Lib.Math.min.name Lib.Math.min.code 2 (some .int)) (by decide +kernel)) (Nat.le_of_ble_eq_true rfl) (Nat.le_of_ble_eq_true rfl) (Nat.zero_le _) (Nat.zero_le _) dX3_passMinute_94 ?_
        refine lv_topi (fun v_11 ev_11 => ?_)
        have hF := nm_at hF ev_11
        refine lv_bipush (v := 8) hx hb dX3_passMinute_97 (by decide) ?_
        refine va_mmin hx hb (hml.trans hl.1.symm) hown (hts (.methodLink RX3 40 Lib.Math.min.name) (by decide +kernel)) (hts (.static Lib.Math.min.name) (by decide +kernel)) (hts (.initialized "java/lang/Math") (by decide +kernel)) (hts (.code Lib.Math.min.name Lib.Math.min.code 2 (some .int)) (by decide +kernel)) (Nat.le_of_ble_eq_true rfl) (Nat.le_of_ble_eq_true rfl) (Nat.zero_le _) (Nat.zero_le _) dX3_passMinute_99 ?_
        refine lv_topi (fun v_12 ev_12 => ?_)
        have hF := nm_at hF ev_12
        refine lv_istore (lv' := [(4, .int v_12), (3, .int v_10), (2, .int z_4), (0, .ref (a3 0)), (1, .int p1)]) hx hb dX3_passMinute_102 hl (by decide) rfl (fun ls hl => ?_)
        refine lv_aload_n hx hb dX3_passMinute_104 rfl (lv_at hl 3 rfl) ?_
        refine va_get (D := D) (ci := 3) (v := .ref (a3 1)) (C := RX3) (T := TX3) (N := 7) hx hb hts hiX3 hown hK hP 0 rfl rfl 0 (by decide) (hts (.fieldLink RX3 9 "PanoramaHouse$Platform" "wentUp" "[I") (by decide +kernel)) (fun _ h9 => h9) rfl dX3_passMinute_105 ?_
        refine lv_iload_n hx hb dX3_passMinute_108 rfl (lv_at hl 2 rfl) ?_
        refine lv_iload hx hb dX3_passMinute_109 (lv_at hl 0 rfl) ?_
        obtain ⟨h_13, hF⟩ := ix_at hF
        refine va_iast hx hb hK hP hD hS 1 0 rfl rfl h_13 dX3_passMinute_111 (fun H locs hP hD hS => ?_)
        obtain ⟨A3_14, eA3_14, hF⟩ := nm_ex hF
        have hP : va_P D vwCl (wX3 C a3 S3_9 A3_14) H := by rw [eA3_14]; exact hP
        have hD : va_D A (wX3 C a3 S3_9 A3_14) := by rw [eA3_14]; exact hD
        refine lv_aload_n hx hb dX3_passMinute_112 rfl (lv_at hl 3 rfl) ?_
        refine lv_dup hx hb dX3_passMinute_113 rfl ?_
        refine va_get (D := D) (ci := 3) (v := .int (S3_9 3)) (C := RX3) (T := TX3) (N := 7) hx hb hts hiX3 hown hK hP 0 rfl rfl 3 (by decide) (hts (.fieldLink RX3 19 "PanoramaHouse$Platform" "waiting" "I") (by decide +kernel)) (fun _ h9 => h9) rfl dX3_passMinute_114 ?_
        refine lv_iload hx hb dX3_passMinute_117 (lv_at hl 0 rfl) ?_
        refine lv_isub hx hb dX3_passMinute_119 ?_
        refine va_put (D := D) (ci := 3) (v := .int ((S3_9 3) - v_12)) (ty := .int) (C := RX3) (T := TX3) (N := 7) hx hb hts hiX3 tyX3 tyX3_ok nmX3 hown hK hP hD hS 0 rfl rfl 3 (by decide) (hts (.fieldLink RX3 19 "PanoramaHouse$Platform" "waiting" "I") (by decide +kernel)) (fun _ h9 => h9) rfl (by decide +kernel) rfl rfl (Nat.le_of_ble_eq_true rfl) dX3_passMinute_120 (fun H locs hP hD hS => ?_)
        obtain ⟨S3_15, eS3_15, hF⟩ := nm_ex hF
        have hP : va_P D vwCl (wX3 C a3 S3_15 A3_14) H := by rw [eS3_15]; exact hP
        have hD : va_D A (wX3 C a3 S3_15 A3_14) := by rw [eS3_15]; exact hD
        refine lv_aload_n hx hb dX3_passMinute_123 rfl (lv_at hl 3 rfl) ?_
        refine lv_dup hx hb dX3_passMinute_124 rfl ?_
        refine va_get (D := D) (ci := 3) (v := .int (S3_15 2)) (C := RX3) (T := TX3) (N := 7) hx hb hts hiX3 hown hK hP 0 rfl rfl 2 (by decide) (hts (.fieldLink RX3 31 "PanoramaHouse$Platform" "there" "I") (by decide +kernel)) (fun _ h9 => h9) rfl dX3_passMinute_125 ?_
        refine lv_iload hx hb dX3_passMinute_128 (lv_at hl 0 rfl) ?_
        refine lv_iadd hx hb dX3_passMinute_130 ?_
        refine va_put (D := D) (ci := 3) (v := .int ((S3_15 2) + v_12)) (ty := .int) (C := RX3) (T := TX3) (N := 7) hx hb hts hiX3 tyX3 tyX3_ok nmX3 hown hK hP hD hS 0 rfl rfl 2 (by decide) (hts (.fieldLink RX3 31 "PanoramaHouse$Platform" "there" "I") (by decide +kernel)) (fun _ h9 => h9) rfl (by decide +kernel) rfl rfl (Nat.le_of_ble_eq_true rfl) dX3_passMinute_131 (fun H locs hP hD hS => ?_)
        obtain ⟨S3_16, eS3_16, hF⟩ := nm_ex hF
        have hP : va_P D vwCl (wX3 C a3 S3_16 A3_14) H := by rw [eS3_16]; exact hP
        have hD : va_D A (wX3 C a3 S3_16 A3_14) := by rw [eS3_16]; exact hD
        refine lv_aload_n hx hb dX3_passMinute_134 rfl (lv_at hl 3 rfl) ?_
        refine lv_dup hx hb dX3_passMinute_135 rfl ?_
        refine va_get (D := D) (ci := 3) (v := .int (S3_16 5)) (C := RX3) (T := TX3) (N := 7) hx hb hts hiX3 hown hK hP 0 rfl rfl 5 (by decide) (hts (.fieldLink RX3 22 "PanoramaHouse$Platform" "minutes" "I") (by decide +kernel)) (fun _ h9 => h9) rfl dX3_passMinute_136 ?_
        refine lv_iconst (v := 1) hx hb dX3_passMinute_139 (by decide) ?_
        refine lv_iadd hx hb dX3_passMinute_140 ?_
        refine va_put (D := D) (ci := 3) (v := .int ((S3_16 5) + 1)) (ty := .int) (C := RX3) (T := TX3) (N := 7) hx hb hts hiX3 tyX3 tyX3_ok nmX3 hown hK hP hD hS 0 rfl rfl 5 (by decide) (hts (.fieldLink RX3 22 "PanoramaHouse$Platform" "minutes" "I") (by decide +kernel)) (fun _ h9 => h9) rfl (by decide +kernel) rfl rfl (Nat.le_of_ble_eq_true rfl) dX3_passMinute_141 (fun H locs hP hD hS => ?_)
        obtain ⟨S3_17, eS3_17, hF⟩ := nm_ex hF
        have hP : va_P D vwCl (wX3 C a3 S3_17 A3_14) H := by rw [eS3_17]; exact hP
        have hD : va_D A (wX3 C a3 S3_17 A3_14) := by rw [eS3_17]; exact hD
        refine lv_aload_n hx hb dX3_passMinute_144 rfl (lv_at hl 3 rfl) ?_
        refine lv_aload_n hx hb dX3_passMinute_145 rfl (lv_at hl 3 rfl) ?_
        refine va_get (D := D) (ci := 3) (v := .int (S3_17 6)) (C := RX3) (T := TX3) (N := 7) hx hb hts hiX3 hown hK hP 0 rfl rfl 6 (by decide) (hts (.fieldLink RX3 43 "PanoramaHouse$Platform" "mostEver" "I") (by decide +kernel)) (fun _ h9 => h9) rfl dX3_passMinute_146 ?_
        refine lv_aload_n hx hb dX3_passMinute_149 rfl (lv_at hl 3 rfl) ?_
        refine va_get (D := D) (ci := 3) (v := .int (S3_17 2)) (C := RX3) (T := TX3) (N := 7) hx hb hts hiX3 hown hK hP 0 rfl rfl 2 (by decide) (hts (.fieldLink RX3 31 "PanoramaHouse$Platform" "there" "I") (by decide +kernel)) (fun _ h9 => h9) rfl dX3_passMinute_150 ?_
        refine va_mmax hx hb (hml.trans hl.1.symm) hown (hts (.methodLink RX3 37 Lib.Math.max.name) (by decide +kernel)) (hts (.static Lib.Math.max.name) (by decide +kernel)) (hts (.initialized "java/lang/Math") (by decide +kernel)) (hts (.code Lib.Math.max.name Lib.Math.max.code 2 (some .int)) (by decide +kernel)) (Nat.le_of_ble_eq_true rfl) (Nat.le_of_ble_eq_true rfl) (Nat.zero_le _) (Nat.zero_le _) dX3_passMinute_153 ?_
        refine lv_topi (fun v_18 ev_18 => ?_)
        have hF := nm_at hF ev_18
        refine va_put (D := D) (ci := 3) (v := .int v_18) (ty := .int) (C := RX3) (T := TX3) (N := 7) hx hb hts hiX3 tyX3 tyX3_ok nmX3 hown hK hP hD hS 0 rfl rfl 6 (by decide) (hts (.fieldLink RX3 43 "PanoramaHouse$Platform" "mostEver" "I") (by decide +kernel)) (fun _ h9 => h9) rfl (by decide +kernel) rfl rfl (Nat.le_of_ble_eq_true rfl) dX3_passMinute_156 (fun H locs hP hD hS => ?_)
        obtain ⟨S3_19, eS3_19, hF⟩ := nm_ex hF
        have hP : va_P D vwCl (wX3 C a3 S3_19 A3_14) H := by rw [eS3_19]; exact hP
        have hD : va_D A (wX3 C a3 S3_19 A3_14) := by rw [eS3_19]; exact hD
        refine lv_iload hx hb dX3_passMinute_159 (lv_at hl 0 rfl) ?_
        cases hF
        exact hret _ _ _ _ dX3_passMinute_161 rfl hP hD hS
      · have hF := ifn hF c_3
        refine lv_iconst (v := -1) hx hb dX3_passMinute_23 (by decide) ?_
        cases hF
        exact hret _ _ _ _ dX3_passMinute_24 rfl hP hD hS
