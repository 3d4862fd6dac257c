abbrev rmJ9_floorMod_7cf53 : Room := { frames := 1, cells := 0, slots := 0, locals := 32 }
set_option maxRecDepth 100000 in
set_option maxHeartbeats 4000000 in
theorem c_J9_floorMod_7cf53 (l : Launch) (K : Kx) (D : va_G) (C : Nat → ClassId) (p1 : Int32) (p2 : Int32) (z : Int32) (hF : F_J9_floorMod_7cf53 p1 p2 = some z) : MetI l yJ9_floorMod_7cf53 wsJ9_floorMod_7cf53 rmJ9_floorMod_7cf53 K D (tyV C) (([] : va_W)) [.int p1, .int p2] (([] : va_W)) z := by
  refine met_int (cc := cJ9_floorMod_7cf53) (maxL := 3) (ty := .int) (by decide +kernel) rfl (Nat.le_of_ble_eq_true rfl) ?_
  intro p e s m below meth c A Q ls ⟨hx, hb, hml, hown, hts, hK, hA, hZ⟩ hP hD hS hl hret
  have hown : s.vm.findClass RJ9 = some m.cls := hown
  have hl : lv_has ls 3 [(0, .int p1), (1, .int p2)] := hl
  unfold F_J9_floorMod_7cf53 at hF
  refine lv_iload_n hx hb dJ9_floorMod_7cf53_0 rfl (lv_at hl 0 rfl) ?_
  refine lv_iload_n hx hb dJ9_floorMod_7cf53_1 rfl (lv_at hl 1 rfl) ?_
  obtain ⟨n_1, hF⟩ := nz_at hF
  refine lv_irem hx hb dJ9_floorMod_7cf53_2 n_1 ?_
  refine lv_topi (fun v_2 ev_2 => ?_)
  have hF := nm_at hF ev_2
  refine lv_istore_n (lv' := [(2, .int v_2), (0, .int p1), (1, .int p2)]) hx hb dJ9_floorMod_7cf53_3 rfl hl (by decide) rfl (fun ls hl => ?_)
  refine lv_iload_n hx hb dJ9_floorMod_7cf53_4 rfl (lv_at hl 1 rfl) ?_
  refine lv_iload_n hx hb dJ9_floorMod_7cf53_5 rfl (lv_at hl 2 rfl) ?_
  refine lv_ixor hx hb dJ9_floorMod_7cf53_6 ?_
  refine lv_if_ge (tgt := 18) hx hb dJ9_floorMod_7cf53_7 (by decide) (fun c_3 => ?_) (fun c_3 => ?_)
  · have hF := ifp hF c_3
    refine lv_iload_n hx hb dJ9_floorMod_7cf53_18 rfl (lv_at hl 0 rfl) ?_
    cases hF
    exact hret _ _ _ _ dJ9_floorMod_7cf53_19 rfl hP hD hS
  · have hF := ifn hF c_3
    refine lv_iload_n hx hb dJ9_floorMod_7cf53_10 rfl (lv_at hl 0 rfl) ?_
    refine lv_if_eq (tgt := 18) hx hb dJ9_floorMod_7cf53_11 (by decide) (fun c_4 => ?_) (fun c_4 => ?_)
    · have hF := ifp hF c_4
      refine lv_iload_n hx hb dJ9_floorMod_7cf53_18 rfl (lv_at hl 0 rfl) ?_
      cases hF
      exact hret _ _ _ _ dJ9_floorMod_7cf53_19 rfl hP hD hS
    · have hF := ifn hF c_4
      refine lv_iload_n hx hb dJ9_floorMod_7cf53_14 rfl (lv_at hl 0 rfl) ?_
      refine lv_iload_n hx hb dJ9_floorMod_7cf53_15 rfl (lv_at hl 2 rfl) ?_
      refine lv_iadd hx hb dJ9_floorMod_7cf53_16 ?_
      cases hF
      exact hret _ _ _ _ dJ9_floorMod_7cf53_17 rfl hP hD hS
abbrev rmJ9_floorDiv_7cf53 : Room := { frames := 1, cells := 0, slots := 0, locals := 32 }
set_option maxRecDepth 100000 in
set_option maxHeartbeats 4000000 in
theorem c_J9_floorDiv_7cf53 (l : Launch) (K : Kx) (D : va_G) (C : Nat → ClassId) (p1 : Int32) (p2 : Int32) (z : Int32) (hF : F_J9_floorDiv_7cf53 p1 p2 = some z) : MetI l yJ9_floorDiv_7cf53 wsJ9_floorDiv_7cf53 rmJ9_floorDiv_7cf53 K D (tyV C) (([] : va_W)) [.int p1, .int p2] (([] : va_W)) z := by
  refine met_int (cc := cJ9_floorDiv_7cf53) (maxL := 3) (ty := .int) (by decide +kernel) rfl (Nat.le_of_ble_eq_true rfl) ?_
  intro p e s m below meth c A Q ls ⟨hx, hb, hml, hown, hts, hK, hA, hZ⟩ hP hD hS hl hret
  have hown : s.vm.findClass RJ9 = some m.cls := hown
  have hl : lv_has ls 3 [(0, .int p1), (1, .int p2)] := hl
  unfold F_J9_floorDiv_7cf53 at hF
  refine lv_iload_n hx hb dJ9_floorDiv_7cf53_0 rfl (lv_at hl 0 rfl) ?_
  refine lv_iload_n hx hb dJ9_floorDiv_7cf53_1 rfl (lv_at hl 1 rfl) ?_
  obtain ⟨n_1, hF⟩ := nz_at hF
  refine lv_idiv hx hb dJ9_floorDiv_7cf53_2 n_1 ?_
  refine lv_topi (fun v_2 ev_2 => ?_)
  have hF := nm_at hF ev_2
  refine lv_istore_n (lv' := [(2, .int v_2), (0, .int p1), (1, .int p2)]) hx hb dJ9_floorDiv_7cf53_3 rfl hl (by decide) rfl (fun ls hl => ?_)
  refine lv_iload_n hx hb dJ9_floorDiv_7cf53_4 rfl (lv_at hl 1 rfl) ?_
  refine lv_iload_n hx hb dJ9_floorDiv_7cf53_5 rfl (lv_at hl 2 rfl) ?_
  refine lv_ixor hx hb dJ9_floorDiv_7cf53_6 ?_
  refine lv_if_ge (tgt := 21) hx hb dJ9_floorDiv_7cf53_7 (by decide) (fun c_3 => ?_) (fun c_3 => ?_)
  · have hF := ifp hF c_3
    refine lv_iload_n hx hb dJ9_floorDiv_7cf53_21 rfl (lv_at hl 0 rfl) ?_
    cases hF
    exact hret _ _ _ _ dJ9_floorDiv_7cf53_22 rfl hP hD hS
  · have hF := ifn hF c_3
    refine lv_iload_n hx hb dJ9_floorDiv_7cf53_10 rfl (lv_at hl 0 rfl) ?_
    refine lv_iload_n hx hb dJ9_floorDiv_7cf53_11 rfl (lv_at hl 2 rfl) ?_
    refine lv_imul hx hb dJ9_floorDiv_7cf53_12 ?_
    refine lv_iload_n hx hb dJ9_floorDiv_7cf53_13 rfl (lv_at hl 1 rfl) ?_
    refine lv_icmp_eq (tgt := 21) hx hb dJ9_floorDiv_7cf53_14 (by decide) (fun c_4 => ?_) (fun c_4 => ?_)
    · have hF := ifp hF c_4
      refine lv_iload_n hx hb dJ9_floorDiv_7cf53_21 rfl (lv_at hl 0 rfl) ?_
      cases hF
      exact hret _ _ _ _ dJ9_floorDiv_7cf53_22 rfl hP hD hS
    · have hF := ifn hF c_4
      refine lv_iload_n hx hb dJ9_floorDiv_7cf53_17 rfl (lv_at hl 0 rfl) ?_
      refine lv_iconst (v := 1) hx hb dJ9_floorDiv_7cf53_18 (by decide) ?_
      refine lv_isub hx hb dJ9_floorDiv_7cf53_19 ?_
      cases hF
      exact hret _ _ _ _ dJ9_floorDiv_7cf53_20 rfl hP hD hS
