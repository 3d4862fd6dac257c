abbrev rmX3_init : Room := { frames := 1, cells := 1, slots := 12, locals := 32 }
set_option maxRecDepth 100000 in
set_option maxHeartbeats 4000000 in
theorem c_X3_init (l : Launch) (K : Kx) (D : va_G) (C : Nat → ClassId) (o : Nat) (S3 : Nat → Int32) (eS3 : S3 = (upd (fun _ => 0) 1 40)) (A3 : Nat → Nat → Int32) (eA3 : A3 = fun _ _ => 0) : MetC l yX3_init wsX3_init rmX3_init K D (tyV C) [(o, .inr (3, [.null, .int 0, .int 0, .int 0, .int 0, .int 0, .int 0]))] [.ref o] (fun u : Nat → Nat => u 0 = o) (fun a3 => wX3 C a3 S3 A3) 1 12 := by
  refine met_ctor (cc := cX3_init) (maxL := 1) (by decide +kernel) rfl (Nat.le_of_ble_eq_true rfl) ?_
  intro p e s m below meth c A Q ls ⟨hx, hb, hml, hown, hts, hK, hA, hZ⟩ hin hP hD hS hl hret
  have hown : s.vm.findClass RX3 = some m.cls := hown
  have hiX3 : ∀ w ∈ u_ws RX3 TX3 7, w ∈ wsX3_init := by decide +kernel
  have hl : lv_has ls 1 [(0, .ref (o))] := hl
  refine lv_aload_n hx hb dX3_init_0 rfl (lv_at hl 0 rfl) ?_
  refine W.objInit hx hb hown (hts (.methodLink RX3 3 objectInit) (by decide +kernel)) (hts (.instanceMethod objectInit) (by decide +kernel)) (hts (.code objectInit ⟨#[0xb1]⟩ 1 none) (List.mem_of_getElem? (i := 3) rfl)) rfl (by rw [hml]; exact hl.1) rfl dX3_init_1 (Nat.le_of_ble_eq_true rfl) (Nat.le_of_ble_eq_true rfl) ?_
  refine W.eq (g2 := F0 m 4 ls []) rfl ?_
  refine lv_aload_n hx hb dX3_init_4 rfl (lv_at hl 0 rfl) ?_
  refine lv_bipush (v := 12) hx hb dX3_init_5 (by decide) ?_
  refine va_newa (D := D) (atype := .int) (ty := .int) (N' := 12) (n := 12) hx hb (hts (.arrayClass .int) (by decide +kernel)) rfl hK hP hD hS hA (haI 12) (by decide +kernel) (by decide +kernel) (by decide +kernel) (by dsimp only [rmX3_init]; omega) (by dsimp only [rmX3_init]; omega) dX3_init_7 (fun q1 cA H hK1 hP hD hS => ?_)
  obtain rfl : cA = C 0 := tyE0 hK hK1
  have hP : va_P D vwCl ([(o, .inr (3, [.null, .int 0, .int 0, .int 0, .int 0, .int 0, .int 0])), (q1, .inl (C 0, 12, .inl (fun _ => 0)))]) H := hP
  have hD : va_D A ([(o, .inr (3, [.null, .int 0, .int 0, .int 0, .int 0, .int 0, .int 0])), (q1, .inl (C 0, 12, .inl (fun _ => 0)))]) := hD
  refine va_putF (D := D) (ci := 3) (v := .ref q1) (ty := .array .int) (C := RX3) (T := TX3) (N := 7) hx hb hts hiX3 tyX3 tyX3_ok nmX3 hown hK hP hD hS 0 rfl rfl 0 (by decide) (hts (.fieldLink RX3 9 "PanoramaHouse$Platform" "wentUp" "[I") (by decide +kernel)) (fun _ h9 => h9) rfl hin rfl (by decide +kernel) rfl rfl (Nat.le_of_ble_eq_true rfl) dX3_init_9 (fun H locs hP hD hS => ?_)
  have hP : va_P D vwCl ([(o, .inr (3, [.ref q1, .int 0, .int 0, .int 0, .int 0, .int 0, .int 0])), (q1, .inl (C 0, 12, .inl (fun _ => 0)))]) H := hP
  have hD : va_D A ([(o, .inr (3, [.ref q1, .int 0, .int 0, .int 0, .int 0, .int 0, .int 0])), (q1, .inl (C 0, 12, .inl (fun _ => 0)))]) := hD
  refine lv_aload_n hx hb dX3_init_12 rfl (lv_at hl 0 rfl) ?_
  refine lv_bipush (v := 40) hx hb dX3_init_13 (by decide) ?_
  refine va_put (D := D) (ci := 3) (v := .int 40) (ty := .int) (C := RX3) (T := TX3) (N := 7) hx hb hts hiX3 tyX3 tyX3_ok nmX3 hown hK hP hD hS 0 rfl rfl 1 (by decide) (hts (.fieldLink RX3 15 "PanoramaHouse$Platform" "most" "I") (by decide +kernel)) (fun _ h9 => h9) rfl (by decide +kernel) rfl rfl (Nat.le_of_ble_eq_true rfl) dX3_init_15 (fun H locs hP hD hS => ?_)
  have hP : va_P D vwCl ([(o, .inr (3, [.ref q1, .int 40, .int 0, .int 0, .int 0, .int 0, .int 0])), (q1, .inl (C 0, 12, .inl (fun _ => 0)))]) H := hP
  have hD : va_D A ([(o, .inr (3, [.ref q1, .int 40, .int 0, .int 0, .int 0, .int 0, .int 0])), (q1, .inl (C 0, 12, .inl (fun _ => 0)))]) := hD
  obtain ⟨a3, ea3⟩ : ∃ a : Nat → Nat, a = fun k => ([o, q1, 0, 0, 0, 0, 0, 0] : List Nat).getD k 0 := ⟨_, rfl⟩
  have hP : va_P D vwCl (wX3 C a3 S3 A3) H := by rw [ea3, eS3, eA3]; exact hP
  have hD : va_D A (wX3 C a3 S3 A3) := by rw [ea3, eS3, eA3]; exact hD
  have ho : a3 0 = o := by rw [ea3]; rfl
  exact hret a3 _ _ _ _ dX3_init_18 ho hP hD hS
