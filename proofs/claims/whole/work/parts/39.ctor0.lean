abbrev rmX0_init : Room := { frames := 1, cells := 1, slots := 600, locals := 32 }
set_option maxRecDepth 100000 in
set_option maxHeartbeats 4000000 in
theorem c_X0_init (l : Launch) (K : Kx) (D : va_G) (C : Nat → ClassId) (o : Nat) (S0 : Nat → Int32) (eS0 : S0 = (fun _ => 0)) (A0 : Nat → Nat → Int32) (eA0 : A0 = fun _ _ => 0) : MetC l yX0_init wsX0_init rmX0_init K D (tyV C) [(o, .inr (0, [.null, .int 0, .int 0, .int 0, .int 0, .int 0]))] [.ref o] (fun u : Nat → Nat => u 0 = o) (fun a0 => wX0 C a0 S0 A0) 1 600 := by
  refine met_ctor (cc := cX0_init) (maxL := 1) (by decide +kernel) rfl (Nat.le_of_ble_eq_true rfl) ?_
  intro p e s m below meth c A Q ls ⟨hx, hb, hml, hown, hts, hK, hA, hZ⟩ hin hP hD hS hl hret
  have hown : s.vm.findClass RX0 = some m.cls := hown
  have hiX0 : ∀ w ∈ u_ws RX0 TX0 6, w ∈ wsX0_init := by decide +kernel
  have hl : lv_has ls 1 [(0, .ref (o))] := hl
  refine lv_aload_n hx hb dX0_init_0 rfl (lv_at hl 0 rfl) ?_
  refine W.objInit hx hb hown (hts (.methodLink RX0 3 objectInit) (by decide +kernel)) (hts (.instanceMethod objectInit) (by decide +kernel)) (hts (.code objectInit ⟨#[0xb1]⟩ 1 none) (List.mem_of_getElem? (i := 3) rfl)) rfl (by rw [hml]; exact hl.1) rfl dX0_init_1 (Nat.le_of_ble_eq_true rfl) (Nat.le_of_ble_eq_true rfl) ?_
  refine W.eq (g2 := F0 m 4 ls []) rfl ?_
  refine lv_aload_n hx hb dX0_init_4 rfl (lv_at hl 0 rfl) ?_
  refine lv_sipush (v := 600) hx hb dX0_init_5 (by decide) ?_
  refine va_newa (D := D) (atype := .int) (ty := .int) (N' := 600) (n := 600) hx hb (hts (.arrayClass .int) (by decide +kernel)) rfl hK hP hD hS hA (haI 600) (by decide +kernel) (by decide +kernel) (by decide +kernel) (by dsimp only [rmX0_init]; omega) (by dsimp only [rmX0_init]; omega) dX0_init_8 (fun q1 cA H hK1 hP hD hS => ?_)
  obtain rfl : cA = C 0 := tyE0 hK hK1
  have hP : va_P D vwCl ([(o, .inr (0, [.null, .int 0, .int 0, .int 0, .int 0, .int 0])), (q1, .inl (C 0, 600, .inl (fun _ => 0)))]) H := hP
  have hD : va_D A ([(o, .inr (0, [.null, .int 0, .int 0, .int 0, .int 0, .int 0])), (q1, .inl (C 0, 600, .inl (fun _ => 0)))]) := hD
  refine va_putF (D := D) (ci := 0) (v := .ref q1) (ty := .array .int) (C := RX0) (T := TX0) (N := 6) hx hb hts hiX0 tyX0 tyX0_ok nmX0 hown hK hP hD hS 0 rfl rfl 0 (by decide) (hts (.fieldLink RX0 9 "PanoramaHouse$ContractReader" "tape" "[I") (by decide +kernel)) (fun _ h9 => h9) rfl hin rfl (by decide +kernel) rfl rfl (Nat.le_of_ble_eq_true rfl) dX0_init_10 (fun H locs hP hD hS => ?_)
  have hP : va_P D vwCl ([(o, .inr (0, [.ref q1, .int 0, .int 0, .int 0, .int 0, .int 0])), (q1, .inl (C 0, 600, .inl (fun _ => 0)))]) H := hP
  have hD : va_D A ([(o, .inr (0, [.ref q1, .int 0, .int 0, .int 0, .int 0, .int 0])), (q1, .inl (C 0, 600, .inl (fun _ => 0)))]) := hD
  obtain ⟨a0, ea0⟩ : ∃ a : Nat → Nat, a = fun k => ([o, q1, 0, 0, 0, 0, 0] : List Nat).getD k 0 := ⟨_, rfl⟩
  have hP : va_P D vwCl (wX0 C a0 S0 A0) H := by rw [ea0, eS0, eA0]; exact hP
  have hD : va_D A (wX0 C a0 S0 A0) := by rw [ea0, eS0, eA0]; exact hD
  have ho : a0 0 = o := by rw [ea0]; rfl
  exact hret a0 _ _ _ _ dX0_init_13 ho hP hD hS
