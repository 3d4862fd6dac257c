/-! hall(n) and the constructor of the house (by gen/house3.py) -/
def hOf (C : Nat → ClassId) (a5 a0 a2 a3 a4 : Nat → Nat) (h5 : Nat) (f : Nat → Option Nat) (n : Nat) (a1 : Nat → Nat) (A0 : Nat → Nat → Int32) (z : Int32 × Bool × (Nat → Int32) × (Nat → Int32) × (Nat → Int32) × (Nat → Nat → Int32)) : Option (Nat → Nat) → va_W := fun u => match u with
  | none => wX5 C a5 a0 a2 a3 a4 h5 (a1 0) z.2.2.1 ++ wXH C h5 f ++ wX0 C a0 z.2.2.2.1 A0 ++ wX1 C a1 z.2.2.2.2.1 z.2.2.2.2.2
  | some b1 => wX5 C a5 a0 a2 a3 a4 h5 (b1 0) z.2.2.1 ++ wXH C h5 (va_up f n (some (a1 0))) ++ wX0 C a0 z.2.2.2.1 A0 ++ wX1 C a1 z.2.2.2.2.1 z.2.2.2.2.2 ++ wX1 C b1 hlS hlA
abbrev rmX5_hall : Room := { frames := 11, cells := 6, slots := 144, locals := 285 }
set_option maxRecDepth 100000 in
set_option maxHeartbeats 4000000 in
theorem c_X5_hall (l : Launch) (K : Kx) (D : va_G) (C : Nat → ClassId) (a5 : Nat → Nat) (S5 : Nat → Int32) (a0 a2 a3 a4 : Nat → Nat) (h5 : Nat) (f : Nat → Option Nat) (S0 : Nat → Int32) (A0 : Nat → Nat → Int32) (a1 : Nat → Nat) (S1 : Nat → Int32) (A1 : Nat → Nat → Int32) (p1 : Int32) (z : Int32 × Bool × (Nat → Int32) × (Nat → Int32) × (Nat → Int32) × (Nat → Nat → Int32)) (hF : F_X5_hall S5 S0 A0 S1 A1 p1 = some z) : MetIE l yX5_hall wsX5_hall rmX5_hall K D (tyV C) (wX5 C a5 a0 a2 a3 a4 h5 (a1 0) S5 ++ wXH C h5 f ++ wX0 C a0 S0 A0 ++ wX1 C a1 S1 A1) [.ref (a5 0), .int p1] (fun (r : Int32) (u : Option (Nat → Nat)) => r = z.1 ∧ u.isSome = z.2.1) (hOf C a5 a0 a2 a3 a4 h5 f (S5 6).toNatClampNeg a1 A0 z) 6 144 := by
  refine met_intE (cc := cX5_hall) (maxL := 2) (by decide +kernel) rfl (Nat.le_of_ble_eq_true rfl) ?_
  intro p e s m below meth c A Q ls ⟨hx, hb, hml, hown, hts, hK, hA, hZ⟩ hP hD hS hl hret
  have hown : s.vm.findClass RX5 = some m.cls := hown
  have hiX5 : ∀ w ∈ u_ws RX5 TX5 8, w ∈ wsX5_hall := by decide +kernel
  have hiX1 : ∀ w ∈ u_ws RX1 TX1 12, w ∈ wsX5_hall := by decide +kernel
  have hl : lv_has ls 2 [(0, .ref (a5 0)), (1, .int p1)] := hl
  unfold F_X5_hall at hF
  refine lv_iload_n hx hb dX5_hall_0 rfl (lv_at hl 1 rfl) ?_
  refine lv_if_lt (tgt := 15) hx hb dX5_hall_1 (by decide) (fun c1 => ?_) (fun c1 => ?_)
  · have hF := ifp hF c1
    refine lv_bipush (v := -2) hx hb dX5_hall_15 (by decide) ?_
    refine W.widen (k := 6) (n := 144) (Nat.zero_le _) (Nat.zero_le _) ?_
    cases hF
    exact hret _ none _ _ _ _ dX5_hall_17 ⟨rfl, rfl⟩ hP hD hS
  have hF := ifn hF c1
  refine lv_iload_n hx hb dX5_hall_4 rfl (lv_at hl 1 rfl) ?_
  refine lv_aload_n hx hb dX5_hall_5 rfl (lv_at hl 0 rfl) ?_
  refine va_get (D := D) (ci := 5) (v := .ref (a0 0)) (C := RX5) (T := TX5) (N := 8) hx hb hts hiX5 hown hK hP 0 rfl rfl 2 (by decide) (hts (.fieldLink RX5 28 "PanoramaHouse" "reader" "LPanoramaHouse$ContractReader;") (by decide +kernel)) (fun _ h9 => h9) rfl dX5_hall_6 ?_
  refine callV_int (wX5 C a5 a0 a2 a3 a4 h5 (a1 0) S5 ++ wXH C h5 f) (wX1 C a1 S1 A1) (w' := wX5 C a5 a0 a2 a3 a4 h5 (a1 0) S5 ++ wXH C h5 f ++ wX0 C a0 S0 A0 ++ wX1 C a1 S1 A1) (As := []) (rest := [.int p1]) ⟨hx, hb, hml, hown, hts⟩ hK hA hZ (c_X0_bytes l K D C a0 S0 A0 (S0 1) rfl) (cwV 0 hts gX5_hall_X0_bytes rfl rfl rfl (by decide +kernel) ⟨Nat.le_of_ble_eq_true rfl, Nat.le_of_ble_eq_true rfl⟩) 0 rfl rfl rfl rfl hl.1 rfl (Nat.le_of_ble_eq_true rfl) ⟨Nat.zero_le _, Nat.zero_le _⟩ (by simp only [List.append_assoc, List.append_nil, List.nil_append]) (by simp only [List.append_assoc, List.append_nil, List.nil_append]) hP hD hS dX5_hall_9 (fun H locs hP hD hS => ?_)
  refine lv_icmp_le (tgt := 18) hx hb dX5_hall_12 (by decide) (fun c2 => ?_) (fun c2 => ?_)
  · have hF := ifp hF c2
    refine lv_aload_n hx hb dX5_hall_18 rfl (lv_at hl 0 rfl) ?_
    refine va_get (D := D) (ci := 5) (v := .int (S5 6)) (C := RX5) (T := TX5) (N := 8) hx hb hts hiX5 hown hK hP 0 rfl rfl 6 (by decide) (hts (.fieldLink RX5 50 "PanoramaHouse" "hallsMade" "I") (by decide +kernel)) (fun _ h9 => h9) rfl dX5_hall_19 ?_
    refine lv_if_lt (tgt := 34) hx hb dX5_hall_22 (by decide) (fun c3 => ?_) (fun c3 => ?_)
    · have hF := ifp hF c3
      refine lv_bipush (v := -3) hx hb dX5_hall_34 (by decide) ?_
      refine W.widen (k := 6) (n := 144) (Nat.zero_le _) (Nat.zero_le _) ?_
      cases hF
      exact hret _ none _ _ _ _ dX5_hall_36 ⟨rfl, rfl⟩ hP hD hS
    have hF := ifn hF c3
    refine lv_aload_n hx hb dX5_hall_25 rfl (lv_at hl 0 rfl) ?_
    refine va_get (D := D) (ci := 5) (v := .int (S5 6)) (C := RX5) (T := TX5) (N := 8) hx hb hts hiX5 hown hK hP 0 rfl rfl 6 (by decide) (hts (.fieldLink RX5 50 "PanoramaHouse" "hallsMade" "I") (by decide +kernel)) (fun _ h9 => h9) rfl dX5_hall_26 ?_
    refine lv_bipush (v := 12) hx hb dX5_hall_29 (by decide) ?_
    refine lv_icmp_lt (tgt := 37) hx hb dX5_hall_31 (by decide) (fun c4 => ?_) (fun c4 => ?_)
    · have hF := ifp hF c4
      refine lv_aload_n hx hb dX5_hall_37 rfl (lv_at hl 0 rfl) ?_
      refine lv_aload_n hx hb dX5_hall_38 rfl (lv_at hl 0 rfl) ?_
      refine va_get (D := D) (ci := 5) (v := .ref (a0 0)) (C := RX5) (T := TX5) (N := 8) hx hb hts hiX5 hown hK hP 0 rfl rfl 2 (by decide) (hts (.fieldLink RX5 28 "PanoramaHouse" "reader" "LPanoramaHouse$ContractReader;") (by decide +kernel)) (fun _ h9 => h9) rfl dX5_hall_39 ?_
      refine lv_iload_n hx hb dX5_hall_42 rfl (lv_at hl 1 rfl) ?_
      refine lv_aload_n hx hb dX5_hall_43 rfl (lv_at hl 0 rfl) ?_
      refine va_get (D := D) (ci := 5) (v := .ref (a1 0)) (C := RX5) (T := TX5) (N := 8) hx hb hts hiX5 hown hK hP 0 rfl rfl 5 (by decide) (hts (.fieldLink RX5 46 "PanoramaHouse" "draft" "LPanoramaHouse$Hall;") (by decide +kernel)) (fun _ h9 => h9) rfl dX5_hall_44 ?_
      obtain ⟨z1, fz1, hF⟩ := bd_at hF
      refine callV_int (wX5 C a5 a0 a2 a3 a4 h5 (a1 0) S5 ++ wXH C h5 f) ([]) (w' := wX5 C a5 a0 a2 a3 a4 h5 (a1 0) S5 ++ wXH C h5 f ++ wX0 C a0 z1.2.1 A0 ++ wX1 C a1 z1.2.2.1 z1.2.2.2) (As := [.int p1, .ref (a1 0)]) (rest := [.ref (a5 0)]) ⟨hx, hb, hml, hown, hts⟩ hK hA hZ (c_X0_readContract l K D C a0 S0 A0 a1 S1 A1 p1 z1 fz1) (cwV 2 hts gX5_hall_X0_readContract rfl rfl rfl (by decide +kernel) ⟨Nat.le_of_ble_eq_true rfl, Nat.le_of_ble_eq_true rfl⟩) 0 rfl rfl rfl rfl hl.1 rfl (Nat.le_of_ble_eq_true rfl) ⟨Nat.zero_le _, Nat.zero_le _⟩ (by simp only [List.append_assoc, List.append_nil, List.nil_append]) (by simp only [List.append_assoc, List.append_nil, List.nil_append]) hP hD hS dX5_hall_47 (fun H locs hP hD hS => ?_)
      refine va_put (D := D) (ci := 5) (v := .int z1.1) (ty := .int) (C := RX5) (T := TX5) (N := 8) hx hb hts hiX5 tyX5 tyX5_ok nmX5 hown hK hP hD hS 0 rfl rfl 7 (by decide) (hts (.fieldLink RX5 54 "PanoramaHouse" "faultPlace" "I") (by decide +kernel)) (fun _ h9 => h9) rfl (by decide +kernel) rfl rfl (Nat.le_of_ble_eq_true rfl) dX5_hall_50 (fun H locs hP hD hS => ?_)
      have hP : va_P D vwCl (wX5 C a5 a0 a2 a3 a4 h5 (a1 0) (upd S5 7 z1.1) ++ wXH C h5 f ++ wX0 C a0 z1.2.1 A0 ++ wX1 C a1 z1.2.2.1 z1.2.2.2) H := hP
      have hD : va_D A (wX5 C a5 a0 a2 a3 a4 h5 (a1 0) (upd S5 7 z1.1) ++ wXH C h5 f ++ wX0 C a0 z1.2.1 A0 ++ wX1 C a1 z1.2.2.1 z1.2.2.2) := hD
      refine lv_aload_n hx hb dX5_hall_53 rfl (lv_at hl 0 rfl) ?_
      refine va_get (D := D) (ci := 5) (v := .int z1.1) (C := RX5) (T := TX5) (N := 8) hx hb hts hiX5 hown hK hP 0 rfl rfl 7 (by decide) (hts (.fieldLink RX5 54 "PanoramaHouse" "faultPlace" "I") (by decide +kernel)) (fun _ h9 => h9) rfl dX5_hall_54 ?_
      refine lv_iconst (v := -1) hx hb dX5_hall_57 (by decide) ?_
      refine lv_icmp_eq (tgt := 63) hx hb dX5_hall_58 (by decide) (fun c5 => ?_) (fun c5 => ?_)
      · have hF := ifp hF c5
        obtain ⟨hix, hF⟩ := ix_at hF
        refine lv_aload_n hx hb dX5_hall_63 rfl (lv_at hl 0 rfl) ?_
        refine va_get (D := D) (ci := 5) (v := .ref h5) (C := RX5) (T := TX5) (N := 8) hx hb hts hiX5 hown hK hP 0 rfl rfl 3 (by decide) (hts (.fieldLink RX5 34 "PanoramaHouse" "halls" "[LPanoramaHouse$Hall;") (by decide +kernel)) (fun _ h9 => h9) rfl dX5_hall_64 ?_
        refine lv_aload_n hx hb dX5_hall_67 rfl (lv_at hl 0 rfl) ?_
        refine va_get (D := D) (ci := 5) (v := .int (S5 6)) (C := RX5) (T := TX5) (N := 8) hx hb hts hiX5 hown hK hP 0 rfl rfl 6 (by decide) (hts (.fieldLink RX5 50 "PanoramaHouse" "hallsMade" "I") (by decide +kernel)) (fun _ h9 => h9) rfl dX5_hall_68 ?_
        refine lv_aload_n hx hb dX5_hall_71 rfl (lv_at hl 0 rfl) ?_
        refine va_get (D := D) (ci := 5) (v := .ref (a1 0)) (C := RX5) (T := TX5) (N := 8) hx hb hts hiX5 hown hK hP 0 rfl rfl 5 (by decide) (hts (.fieldLink RX5 46 "PanoramaHouse" "draft" "LPanoramaHouse$Hall;") (by decide +kernel)) (fun _ h9 => h9) rfl dX5_hall_72 ?_
        refine va_astq hx hb hK hP hD hS 1 4 4 1 (r := (RX1, TX1, 12)) rfl rfl rfl rfl hix dX5_hall_75 (fun H locs hP hD hS => ?_)
        have hP : va_P D vwCl (wX5 C a5 a0 a2 a3 a4 h5 (a1 0) (upd S5 7 z1.1) ++ wXH C h5 (va_up f (S5 6).toNatClampNeg (some (a1 0))) ++ wX0 C a0 z1.2.1 A0 ++ wX1 C a1 z1.2.2.1 z1.2.2.2) H := hP
        have hD : va_D A (wX5 C a5 a0 a2 a3 a4 h5 (a1 0) (upd S5 7 z1.1) ++ wXH C h5 (va_up f (S5 6).toNatClampNeg (some (a1 0))) ++ wX0 C a0 z1.2.1 A0 ++ wX1 C a1 z1.2.2.1 z1.2.2.2) := hD
        refine lv_aload_n hx hb dX5_hall_76 rfl (lv_at hl 0 rfl) ?_
        refine va_new (ci := 1) (fs := [.null, .null, .null, .null, .null, .int 0, .int 0, .int 0, .int 0, .int 0, .int 0, .int 0]) (C := RX1) (T := TX1) (N := 12) hx hb hts hiX1 tyX1 tyX1_ok hown (hts (.classLink RX5 32 RX1) (by decide +kernel)) (hts (.instantiable RX1 12) (by decide +kernel)) (hts (.initialized RX1) (by decide +kernel)) hK hP hD hS hA rfl (fun j hj => by rcases (show j = 0 ∨ j = 1 ∨ j = 2 ∨ j = 3 ∨ j = 4 ∨ j = 5 ∨ j = 6 ∨ j = 7 ∨ j = 8 ∨ j = 9 ∨ j = 10 ∨ j = 11 by omega) with rfl | rfl | rfl | rfl | rfl | rfl | rfl | rfl | rfl | rfl | rfl | rfl <;> rfl) (by dsimp only [rmX5_hall, rmX1_init]; omega) (by dsimp only [rmX5_hall, rmX1_init]; omega) dX5_hall_77 (fun q H hP hD hS => ?_)
        refine lv_dup hx hb dX5_hall_80 rfl ?_
        refine callI_ctor (wX5 C a5 a0 a2 a3 a4 h5 (a1 0) (upd S5 7 z1.1) ++ wXH C h5 (va_up f (S5 6).toNatClampNeg (some (a1 0))) ++ wX0 C a0 z1.2.1 A0 ++ wX1 C a1 z1.2.2.1 z1.2.2.2) ([]) (As := []) (rest := [.ref q, .ref (a5 0)]) ⟨hx, hb, hml, hown, hts⟩ hK hA hZ (c_X1_init l K D C q hlS rfl hlA rfl) (cwI 0 hts gX5_hall_X1_init rfl rfl rfl (hts (.initialized RX1) (by decide +kernel)) (hts (.methodLink RX5 45 yX1_init) (by decide +kernel)) (hts (.instanceMethod yX1_init) (by decide +kernel)) rfl (by decide +kernel) ⟨Nat.le_of_ble_eq_true rfl, Nat.le_of_ble_eq_true rfl⟩) rfl hl.1 rfl (Nat.le_of_ble_eq_true rfl) ⟨(by dsimp only [rmX5_hall, rmX1_init]; omega), (by dsimp only [rmX5_hall, rmX1_init]; omega)⟩ (List.append_nil _).symm hP hD hS dX5_hall_81 (fun b1 H locs hok hP hD hS => ?_)
        rw [← hok]
        rw [List.append_nil] at hP hD
        refine va_put (D := D) (ci := 5) (v := .ref (b1 0)) (ty := .object "PanoramaHouse$Hall") (C := RX5) (T := TX5) (N := 8) hx hb hts hiX5 tyX5 tyX5_ok nmX5 hown hK hP hD hS 0 rfl rfl 5 (by decide) (hts (.fieldLink RX5 46 "PanoramaHouse" "draft" "LPanoramaHouse$Hall;") (by decide +kernel)) (fun _ h9 => h9) rfl (by decide +kernel) rfl rfl (Nat.le_of_ble_eq_true rfl) dX5_hall_84 (fun H locs hP hD hS => ?_)
        have hP : va_P D vwCl (wX5 C a5 a0 a2 a3 a4 h5 (b1 0) (upd S5 7 z1.1) ++ wXH C h5 (va_up f (S5 6).toNatClampNeg (some (a1 0))) ++ wX0 C a0 z1.2.1 A0 ++ wX1 C a1 z1.2.2.1 z1.2.2.2 ++ wX1 C b1 hlS hlA) H := hP
        have hD : va_D A (wX5 C a5 a0 a2 a3 a4 h5 (b1 0) (upd S5 7 z1.1) ++ wXH C h5 (va_up f (S5 6).toNatClampNeg (some (a1 0))) ++ wX0 C a0 z1.2.1 A0 ++ wX1 C a1 z1.2.2.1 z1.2.2.2 ++ wX1 C b1 hlS hlA) := hD
        refine lv_aload_n hx hb dX5_hall_87 rfl (lv_at hl 0 rfl) ?_
        refine lv_dup hx hb dX5_hall_88 rfl ?_
        refine va_get (D := D) (ci := 5) (v := .int (S5 6)) (C := RX5) (T := TX5) (N := 8) hx hb hts hiX5 hown hK hP 0 rfl rfl 6 (by decide) (hts (.fieldLink RX5 50 "PanoramaHouse" "hallsMade" "I") (by decide +kernel)) (fun _ h9 => h9) rfl dX5_hall_89 ?_
        refine lv_dup_x1 hx hb dX5_hall_92 rfl rfl ?_
        refine lv_iconst (v := 1) hx hb dX5_hall_93 (by decide) ?_
        refine lv_iadd hx hb dX5_hall_94 ?_
        refine va_put (D := D) (ci := 5) (v := .int (S5 6 + 1)) (ty := .int) (C := RX5) (T := TX5) (N := 8) hx hb hts hiX5 tyX5 tyX5_ok nmX5 hown hK hP hD hS 0 rfl rfl 6 (by decide) (hts (.fieldLink RX5 50 "PanoramaHouse" "hallsMade" "I") (by decide +kernel)) (fun _ h9 => h9) rfl (by decide +kernel) rfl rfl (Nat.le_of_ble_eq_true rfl) dX5_hall_95 (fun H locs hP hD hS => ?_)
        have hP : va_P D vwCl (wX5 C a5 a0 a2 a3 a4 h5 (b1 0) (upd (upd S5 7 z1.1) 6 (S5 6 + 1)) ++ wXH C h5 (va_up f (S5 6).toNatClampNeg (some (a1 0))) ++ wX0 C a0 z1.2.1 A0 ++ wX1 C a1 z1.2.2.1 z1.2.2.2 ++ wX1 C b1 hlS hlA) H := hP
        have hD : va_D A (wX5 C a5 a0 a2 a3 a4 h5 (b1 0) (upd (upd S5 7 z1.1) 6 (S5 6 + 1)) ++ wXH C h5 (va_up f (S5 6).toNatClampNeg (some (a1 0))) ++ wX0 C a0 z1.2.1 A0 ++ wX1 C a1 z1.2.2.1 z1.2.2.2 ++ wX1 C b1 hlS hlA) := hD
        cases hF
        exact hret _ (some b1) _ _ _ _ dX5_hall_98 ⟨rfl, rfl⟩ hP hD hS
      · have hF := ifn hF c5
        refine lv_iconst (v := -1) hx hb dX5_hall_61 (by decide) ?_
        refine W.widen (k := 6) (n := 144) (Nat.zero_le _) (Nat.zero_le _) ?_
        cases hF
        exact hret _ none _ _ _ _ dX5_hall_62 ⟨rfl, rfl⟩ hP hD hS
    · have hF := ifn hF c4
      refine lv_bipush (v := -3) hx hb dX5_hall_34 (by decide) ?_
      refine W.widen (k := 6) (n := 144) (Nat.zero_le _) (Nat.zero_le _) ?_
      cases hF
      exact hret _ none _ _ _ _ dX5_hall_36 ⟨rfl, rfl⟩ hP hD hS
  · have hF := ifn hF c2
    refine lv_bipush (v := -2) hx hb dX5_hall_15 (by decide) ?_
    refine W.widen (k := 6) (n := 144) (Nat.zero_le _) (Nat.zero_le _) ?_
    cases hF
    exact hret _ none _ _ _ _ dX5_hall_17 ⟨rfl, rfl⟩ hP hD hS
abbrev X5u : Type := (Nat → Nat) × (Nat → Nat) × (Nat → Nat) × Nat × (Nat → Nat) × (Nat → Nat)
def x5S : Nat → Int32 := upd (fun _ => 0) 7 (-1)
/-- the house and all it has, behind its constructor: u = (round, paintwork, reader, halls, platform, draft) -/
def xOf (C : Nat → ClassId) (o : Nat) (z2 : Nat → Nat → Int32) : X5u → va_W := fun u => wX5 C (fun _ => o) u.2.2.1 u.2.1 u.2.2.2.2.1 u.1 u.2.2.2.1 (u.2.2.2.2.2 0) x5S ++ wX4 C u.1 (fun _ _ => 0) ++ wX2 C u.2.1 u.1 (fun _ => 0) z2 ++ wX0 C u.2.2.1 (fun _ => 0) (fun _ _ => 0) ++ wXH C u.2.2.2.1 (fun _ => none) ++ wX3 C u.2.2.2.2.1 (upd (fun _ => 0) 1 40) (fun _ _ => 0) ++ wX1 C u.2.2.2.2.2 hlS hlA
abbrev rmX5_init : Room := { frames := 2, cells := 24, slots := 10914, locals := 96 }
set_option maxRecDepth 100000 in
set_option maxHeartbeats 4000000 in
theorem c_X5_init (l : Launch) (K : Kx) (D : va_G) (C : Nat → ClassId) (o : Nat) (A2i : Nat → Nat → Int32) (eA2i : A2i = fun _ _ => 0) (z2 : Nat → Nat → Int32) (hF : F_X2_init A2i = some z2) : MetC l yX5_init wsX5_init rmX5_init K D (tyV C) [(o, .inr (5, [.null, .null, .null, .null, .null, .null, .int 0, .int 0]))] [.ref o] (fun _ : X5u => True) (xOf C o z2) 24 10914 := by
  refine met_ctor (cc := cX5_init) (maxL := 1) (by decide +kernel) rfl (Nat.le_of_ble_eq_true rfl) ?_
  intro p e s m below meth c A Q ls ⟨hx, hb, hml, hown, hts, hK, hA, hZ⟩ hin hP hD hS hl hret
  have hown : s.vm.findClass RX5 = some m.cls := hown
  have hiX0 : ∀ w ∈ u_ws RX0 TX0 6, w ∈ wsX5_init := by decide +kernel
  have hiX1 : ∀ w ∈ u_ws RX1 TX1 12, w ∈ wsX5_init := by decide +kernel
  have hiX2 : ∀ w ∈ u_ws RX2 TX2 12, w ∈ wsX5_init := by decide +kernel
  have hiX3 : ∀ w ∈ u_ws RX3 TX3 7, w ∈ wsX5_init := by decide +kernel
  have hiX4 : ∀ w ∈ u_ws RX4 TX4 2, w ∈ wsX5_init := by decide +kernel
  have hiX5 : ∀ w ∈ u_ws RX5 TX5 8, w ∈ wsX5_init := by decide +kernel
  have hl : lv_has ls 1 [(0, .ref o)] := hl
  refine lv_aload_n hx hb dX5_init_0 rfl (lv_at hl 0 rfl) ?_
  refine W.objInit hx hb hown (hts (.methodLink RX5 1 objectInit) (by decide +kernel)) (hts (.instanceMethod objectInit) (by decide +kernel)) (hts (.code objectInit ⟨#[0xb1]⟩ 1 none) (List.mem_of_getElem? (i := 3) rfl)) rfl (by rw [hml]; exact hl.1) rfl dX5_init_1 (Nat.le_of_ble_eq_true rfl) (Nat.le_of_ble_eq_true rfl) ?_
  refine W.eq (g2 := F0 m 4 ls []) rfl ?_
  refine lv_aload_n hx hb dX5_init_4 rfl (lv_at hl 0 rfl) ?_
  refine va_new (ci := 4) (fs := [.null, .null]) (C := RX4) (T := TX4) (N := 2) hx hb hts hiX4 tyX4 tyX4_ok hown (hts (.classLink RX5 7 RX4) (by decide +kernel)) (hts (.instantiable RX4 2) (by decide +kernel)) (hts (.initialized RX4) (by decide +kernel)) hK hP hD hS hA rfl (fun j hj => by rcases (show j = 0 ∨ j = 1 by omega) with rfl | rfl <;> rfl) (by dsimp only [rmX5_init, rmX0_init, rmX1_init, rmX2_init, rmX3_init, rmX4_init]; omega) (by dsimp only [rmX5_init, rmX0_init, rmX1_init, rmX2_init, rmX3_init, rmX4_init]; omega) dX5_init_5 (fun q H hP hD hS => ?_)
  refine lv_dup hx hb dX5_init_8 rfl ?_
  refine callIN_ctor ([(o, .inr (5, [.null, .null, .null, .null, .null, .null, .int 0, .int 0]))]) ([]) (As := []) (rest := [.ref q, .ref o]) ⟨hx, hb, hml, hown, hts⟩ hK hA hZ (c_X4_init l K D C q (fun _ _ => 0) rfl) ⟨va_cnB 0 hts gX5_init_X4_init_n9 rfl rfl rfl hZ.nw0 (hts (.initialized RX4) (by decide +kernel)) (by decide +kernel) ⟨Nat.le_of_ble_eq_true rfl, Nat.le_of_ble_eq_true rfl⟩, rfl, hts (.instanceMethod yX4_init) (by decide +kernel)⟩ rfl hl.1 rfl (Nat.le_of_ble_eq_true rfl) ⟨(by dsimp only [rmX5_init, rmX0_init, rmX1_init, rmX2_init, rmX3_init, rmX4_init]; omega), (by dsimp only [rmX5_init, rmX0_init, rmX1_init, rmX2_init, rmX3_init, rmX4_init]; omega)⟩ (List.append_nil _).symm hP hD hS dX5_init_9 (fun a4 H locs hok hP hD hS => ?_)
  rw [← hok]
  rw [List.append_nil] at hP hD
  have hP : va_P D vwCl ([(o, .inr (5, [.null, .null, .null, .null, .null, .null, .int 0, .int 0]))] ++ wX4 C a4 (fun _ _ => 0)) H := hP
  have hD : va_D A ([(o, .inr (5, [.null, .null, .null, .null, .null, .null, .int 0, .int 0]))] ++ wX4 C a4 (fun _ _ => 0)) := hD
  refine va_putF (D := D) (ci := 5) (v := .ref (a4 0)) (ty := .object "PanoramaHouse$Round") (C := RX5) (T := TX5) (N := 8) hx hb hts hiX5 tyX5 tyX5_ok nmX5 hown hK hP hD hS 0 rfl rfl 0 (by decide) (hts (.fieldLink RX5 10 "PanoramaHouse" "round" "LPanoramaHouse$Round;") (by decide +kernel)) (fun _ h9 => h9) rfl hin rfl (by decide +kernel) rfl rfl (Nat.le_of_ble_eq_true rfl) dX5_init_12 (fun H locs hP hD hS => ?_)
  have hP : va_P D vwCl ([(o, .inr (5, [.ref (a4 0), .null, .null, .null, .null, .null, .int 0, .int 0]))] ++ wX4 C a4 (fun _ _ => 0)) H := hP
  have hD : va_D A ([(o, .inr (5, [.ref (a4 0), .null, .null, .null, .null, .null, .int 0, .int 0]))] ++ wX4 C a4 (fun _ _ => 0)) := hD
  refine lv_aload_n hx hb dX5_init_15 rfl (lv_at hl 0 rfl) ?_
  refine va_new (ci := 2) (fs := [.null, .null, .null, .null, .null, .null, .null, .null, .null, .null, .int 0, .int 0]) (C := RX2) (T := TX2) (N := 12) hx hb hts hiX2 tyX2 tyX2_ok hown (hts (.classLink RX5 16 RX2) (by decide +kernel)) (hts (.instantiable RX2 12) (by decide +kernel)) (hts (.initialized RX2) (by decide +kernel)) hK hP hD hS hA rfl (fun j hj => by rcases (show j = 0 ∨ j = 1 ∨ j = 2 ∨ j = 3 ∨ j = 4 ∨ j = 5 ∨ j = 6 ∨ j = 7 ∨ j = 8 ∨ j = 9 ∨ j = 10 ∨ j = 11 by omega) with rfl | rfl | rfl | rfl | rfl | rfl | rfl | rfl | rfl | rfl | rfl | rfl <;> rfl) (by dsimp only [rmX5_init, rmX0_init, rmX1_init, rmX2_init, rmX3_init, rmX4_init]; omega) (by dsimp only [rmX5_init, rmX0_init, rmX1_init, rmX2_init, rmX3_init, rmX4_init]; omega) dX5_init_16 (fun q H hP hD hS => ?_)
  refine lv_dup hx hb dX5_init_19 rfl ?_
  refine lv_aload_n hx hb dX5_init_20 rfl (lv_at hl 0 rfl) ?_
  refine va_get (D := D) (ci := 5) (v := .ref (a4 0)) (C := RX5) (T := TX5) (N := 8) hx hb hts hiX5 hown hK hP 0 rfl rfl 0 (by decide) (hts (.fieldLink RX5 10 "PanoramaHouse" "round" "LPanoramaHouse$Round;") (by decide +kernel)) (fun _ h9 => h9) rfl dX5_init_21 ?_
  refine callI_ctor ([(o, .inr (5, [.ref (a4 0), .null, .null, .null, .null, .null, .int 0, .int 0]))] ++ wX4 C a4 (fun _ _ => 0)) ([]) (As := [.ref (a4 0)]) (rest := [.ref q, .ref o]) ⟨hx, hb, hml, hown, hts⟩ hK hA hZ (c_X2_init l K D C q (a4) (fun _ => 0) rfl A2i eA2i z2 hF) (cwI 1 hts gX5_init_X2_init rfl rfl rfl (hts (.initialized RX2) (by decide +kernel)) (hts (.methodLink RX5 18 yX2_init) (by decide +kernel)) (hts (.instanceMethod yX2_init) (by decide +kernel)) rfl (by decide +kernel) ⟨Nat.le_of_ble_eq_true rfl, Nat.le_of_ble_eq_true rfl⟩) rfl hl.1 rfl (Nat.le_of_ble_eq_true rfl) ⟨(by dsimp only [rmX5_init, rmX0_init, rmX1_init, rmX2_init, rmX3_init, rmX4_init]; omega), (by dsimp only [rmX5_init, rmX0_init, rmX1_init, rmX2_init, rmX3_init, rmX4_init]; omega)⟩ (List.append_nil _).symm hP hD hS dX5_init_24 (fun a2 H locs hok hP hD hS => ?_)
  rw [← hok]
  rw [List.append_nil] at hP hD
  have hP : va_P D vwCl ([(o, .inr (5, [.ref (a4 0), .null, .null, .null, .null, .null, .int 0, .int 0]))] ++ wX4 C a4 (fun _ _ => 0) ++ wX2 C a2 a4 (fun _ => 0) z2) H := hP
  have hD : va_D A ([(o, .inr (5, [.ref (a4 0), .null, .null, .null, .null, .null, .int 0, .int 0]))] ++ wX4 C a4 (fun _ _ => 0) ++ wX2 C a2 a4 (fun _ => 0) z2) := hD
  refine va_putF (D := D) (ci := 5) (v := .ref (a2 0)) (ty := .object "PanoramaHouse$Paintwork") (C := RX5) (T := TX5) (N := 8) hx hb hts hiX5 tyX5 tyX5_ok nmX5 hown hK hP hD hS 0 rfl rfl 1 (by decide) (hts (.fieldLink RX5 21 "PanoramaHouse" "paintwork" "LPanoramaHouse$Paintwork;") (by decide +kernel)) (fun _ h9 => h9) rfl hin rfl (by decide +kernel) rfl rfl (Nat.le_of_ble_eq_true rfl) dX5_init_27 (fun H locs hP hD hS => ?_)
  have hP : va_P D vwCl ([(o, .inr (5, [.ref (a4 0), .ref (a2 0), .null, .null, .null, .null, .int 0, .int 0]))] ++ wX4 C a4 (fun _ _ => 0) ++ wX2 C a2 a4 (fun _ => 0) z2) H := hP
  have hD : va_D A ([(o, .inr (5, [.ref (a4 0), .ref (a2 0), .null, .null, .null, .null, .int 0, .int 0]))] ++ wX4 C a4 (fun _ _ => 0) ++ wX2 C a2 a4 (fun _ => 0) z2) := hD
  refine lv_aload_n hx hb dX5_init_30 rfl (lv_at hl 0 rfl) ?_
  refine va_new (ci := 0) (fs := [.null, .int 0, .int 0, .int 0, .int 0, .int 0]) (C := RX0) (T := TX0) (N := 6) hx hb hts hiX0 tyX0 tyX0_ok hown (hts (.classLink RX5 25 RX0) (by decide +kernel)) (hts (.instantiable RX0 6) (by decide +kernel)) (hts (.initialized RX0) (by decide +kernel)) hK hP hD hS hA rfl (fun j hj => by rcases (show j = 0 ∨ j = 1 ∨ j = 2 ∨ j = 3 ∨ j = 4 ∨ j = 5 by omega) with rfl | rfl | rfl | rfl | rfl | rfl <;> rfl) (by dsimp only [rmX5_init, rmX0_init, rmX1_init, rmX2_init, rmX3_init, rmX4_init]; omega) (by dsimp only [rmX5_init, rmX0_init, rmX1_init, rmX2_init, rmX3_init, rmX4_init]; omega) dX5_init_31 (fun q H hP hD hS => ?_)
  refine lv_dup hx hb dX5_init_34 rfl ?_
  refine callIN_ctor ([(o, .inr (5, [.ref (a4 0), .ref (a2 0), .null, .null, .null, .null, .int 0, .int 0]))] ++ wX4 C a4 (fun _ _ => 0) ++ wX2 C a2 a4 (fun _ => 0) z2) ([]) (As := []) (rest := [.ref q, .ref o]) ⟨hx, hb, hml, hown, hts⟩ hK hA hZ (c_X0_init l K D C q (fun _ => 0) rfl (fun _ _ => 0) rfl) ⟨va_cnB 0 hts gX5_init_X0_init_n27 rfl rfl rfl hZ.nw1 (hts (.initialized RX0) (by decide +kernel)) (by decide +kernel) ⟨Nat.le_of_ble_eq_true rfl, Nat.le_of_ble_eq_true rfl⟩, rfl, hts (.instanceMethod yX0_init) (by decide +kernel)⟩ rfl hl.1 rfl (Nat.le_of_ble_eq_true rfl) ⟨(by dsimp only [rmX5_init, rmX0_init, rmX1_init, rmX2_init, rmX3_init, rmX4_init]; omega), (by dsimp only [rmX5_init, rmX0_init, rmX1_init, rmX2_init, rmX3_init, rmX4_init]; omega)⟩ (List.append_nil _).symm hP hD hS dX5_init_35 (fun a0 H locs hok hP hD hS => ?_)
  rw [← hok]
  rw [List.append_nil] at hP hD
  have hP : va_P D vwCl ([(o, .inr (5, [.ref (a4 0), .ref (a2 0), .null, .null, .null, .null, .int 0, .int 0]))] ++ wX4 C a4 (fun _ _ => 0) ++ wX2 C a2 a4 (fun _ => 0) z2 ++ wX0 C a0 (fun _ => 0) (fun _ _ => 0)) H := hP
  have hD : va_D A ([(o, .inr (5, [.ref (a4 0), .ref (a2 0), .null, .null, .null, .null, .int 0, .int 0]))] ++ wX4 C a4 (fun _ _ => 0) ++ wX2 C a2 a4 (fun _ => 0) z2 ++ wX0 C a0 (fun _ => 0) (fun _ _ => 0)) := hD
  refine va_putF (D := D) (ci := 5) (v := .ref (a0 0)) (ty := .object "PanoramaHouse$ContractReader") (C := RX5) (T := TX5) (N := 8) hx hb hts hiX5 tyX5 tyX5_ok nmX5 hown hK hP hD hS 0 rfl rfl 2 (by decide) (hts (.fieldLink RX5 28 "PanoramaHouse" "reader" "LPanoramaHouse$ContractReader;") (by decide +kernel)) (fun _ h9 => h9) rfl hin rfl (by decide +kernel) rfl rfl (Nat.le_of_ble_eq_true rfl) dX5_init_38 (fun H locs hP hD hS => ?_)
  have hP : va_P D vwCl ([(o, .inr (5, [.ref (a4 0), .ref (a2 0), .ref (a0 0), .null, .null, .null, .int 0, .int 0]))] ++ wX4 C a4 (fun _ _ => 0) ++ wX2 C a2 a4 (fun _ => 0) z2 ++ wX0 C a0 (fun _ => 0) (fun _ _ => 0)) H := hP
  have hD : va_D A ([(o, .inr (5, [.ref (a4 0), .ref (a2 0), .ref (a0 0), .null, .null, .null, .int 0, .int 0]))] ++ wX4 C a4 (fun _ _ => 0) ++ wX2 C a2 a4 (fun _ => 0) z2 ++ wX0 C a0 (fun _ => 0) (fun _ _ => 0)) := hD
  refine lv_aload_n hx hb dX5_init_41 rfl (lv_at hl 0 rfl) ?_
  refine lv_bipush (v := 12) hx hb dX5_init_42 (by decide) ?_
  refine va_newq (N' := 12) (n := 12) hx hb hown (hts (.classLink RX5 32 RX1) (by decide +kernel)) hZ.hallArr hK hP hD hS hA (by decide +kernel) (by decide +kernel) (by decide +kernel) (by dsimp only [rmX5_init, rmX0_init, rmX1_init, rmX2_init, rmX3_init, rmX4_init]; omega) (by dsimp only [rmX5_init, rmX0_init, rmX1_init, rmX2_init, rmX3_init, rmX4_init]; omega) dX5_init_44 (fun h5 cA H hK1 hP hD hS => ?_)
  obtain rfl : cA = C 4 := tyE4 hK hK1
  have hP : va_P D vwCl ([(o, .inr (5, [.ref (a4 0), .ref (a2 0), .ref (a0 0), .null, .null, .null, .int 0, .int 0]))] ++ wX4 C a4 (fun _ _ => 0) ++ wX2 C a2 a4 (fun _ => 0) z2 ++ wX0 C a0 (fun _ => 0) (fun _ _ => 0) ++ wXH C h5 (fun _ => none)) H := hP
  have hD : va_D A ([(o, .inr (5, [.ref (a4 0), .ref (a2 0), .ref (a0 0), .null, .null, .null, .int 0, .int 0]))] ++ wX4 C a4 (fun _ _ => 0) ++ wX2 C a2 a4 (fun _ => 0) z2 ++ wX0 C a0 (fun _ => 0) (fun _ _ => 0) ++ wXH C h5 (fun _ => none)) := hD
  refine va_putF (D := D) (ci := 5) (v := .ref h5) (ty := .array (.object "PanoramaHouse$Hall")) (C := RX5) (T := TX5) (N := 8) hx hb hts hiX5 tyX5 tyX5_ok nmX5 hown hK hP hD hS 0 rfl rfl 3 (by decide) (hts (.fieldLink RX5 34 "PanoramaHouse" "halls" "[LPanoramaHouse$Hall;") (by decide +kernel)) (fun _ h9 => h9) rfl hin rfl (by decide +kernel) rfl rfl (Nat.le_of_ble_eq_true rfl) dX5_init_47 (fun H locs hP hD hS => ?_)
  have hP : va_P D vwCl ([(o, .inr (5, [.ref (a4 0), .ref (a2 0), .ref (a0 0), .ref h5, .null, .null, .int 0, .int 0]))] ++ wX4 C a4 (fun _ _ => 0) ++ wX2 C a2 a4 (fun _ => 0) z2 ++ wX0 C a0 (fun _ => 0) (fun _ _ => 0) ++ wXH C h5 (fun _ => none)) H := hP
  have hD : va_D A ([(o, .inr (5, [.ref (a4 0), .ref (a2 0), .ref (a0 0), .ref h5, .null, .null, .int 0, .int 0]))] ++ wX4 C a4 (fun _ _ => 0) ++ wX2 C a2 a4 (fun _ => 0) z2 ++ wX0 C a0 (fun _ => 0) (fun _ _ => 0) ++ wXH C h5 (fun _ => none)) := hD
  refine lv_aload_n hx hb dX5_init_50 rfl (lv_at hl 0 rfl) ?_
  refine va_new (ci := 3) (fs := [.null, .int 0, .int 0, .int 0, .int 0, .int 0, .int 0]) (C := RX3) (T := TX3) (N := 7) hx hb hts hiX3 tyX3 tyX3_ok hown (hts (.classLink RX5 38 RX3) (by decide +kernel)) (hts (.instantiable RX3 7) (by decide +kernel)) (hts (.initialized RX3) (by decide +kernel)) hK hP hD hS hA rfl (fun j hj => by rcases (show j = 0 ∨ j = 1 ∨ j = 2 ∨ j = 3 ∨ j = 4 ∨ j = 5 ∨ j = 6 by omega) with rfl | rfl | rfl | rfl | rfl | rfl | rfl <;> rfl) (by dsimp only [rmX5_init, rmX0_init, rmX1_init, rmX2_init, rmX3_init, rmX4_init]; omega) (by dsimp only [rmX5_init, rmX0_init, rmX1_init, rmX2_init, rmX3_init, rmX4_init]; omega) dX5_init_51 (fun q H hP hD hS => ?_)
  refine lv_dup hx hb dX5_init_54 rfl ?_
  refine callI_ctor ([(o, .inr (5, [.ref (a4 0), .ref (a2 0), .ref (a0 0), .ref h5, .null, .null, .int 0, .int 0]))] ++ wX4 C a4 (fun _ _ => 0) ++ wX2 C a2 a4 (fun _ => 0) z2 ++ wX0 C a0 (fun _ => 0) (fun _ _ => 0) ++ wXH C h5 (fun _ => none)) ([]) (As := []) (rest := [.ref q, .ref o]) ⟨hx, hb, hml, hown, hts⟩ hK hA hZ (c_X3_init l K D C q (upd (fun _ => 0) 1 40) rfl (fun _ _ => 0) rfl) (cwI 0 hts gX5_init_X3_init rfl rfl rfl (hts (.initialized RX3) (by decide +kernel)) (hts (.methodLink RX5 40 yX3_init) (by decide +kernel)) (hts (.instanceMethod yX3_init) (by decide +kernel)) rfl (by decide +kernel) ⟨Nat.le_of_ble_eq_true rfl, Nat.le_of_ble_eq_true rfl⟩) rfl hl.1 rfl (Nat.le_of_ble_eq_true rfl) ⟨(by dsimp only [rmX5_init, rmX0_init, rmX1_init, rmX2_init, rmX3_init, rmX4_init]; omega), (by dsimp only [rmX5_init, rmX0_init, rmX1_init, rmX2_init, rmX3_init, rmX4_init]; omega)⟩ (List.append_nil _).symm hP hD hS dX5_init_55 (fun a3 H locs hok hP hD hS => ?_)
  rw [← hok]
  rw [List.append_nil] at hP hD
  have hP : va_P D vwCl ([(o, .inr (5, [.ref (a4 0), .ref (a2 0), .ref (a0 0), .ref h5, .null, .null, .int 0, .int 0]))] ++ wX4 C a4 (fun _ _ => 0) ++ wX2 C a2 a4 (fun _ => 0) z2 ++ wX0 C a0 (fun _ => 0) (fun _ _ => 0) ++ wXH C h5 (fun _ => none) ++ wX3 C a3 (upd (fun _ => 0) 1 40) (fun _ _ => 0)) H := hP
  have hD : va_D A ([(o, .inr (5, [.ref (a4 0), .ref (a2 0), .ref (a0 0), .ref h5, .null, .null, .int 0, .int 0]))] ++ wX4 C a4 (fun _ _ => 0) ++ wX2 C a2 a4 (fun _ => 0) z2 ++ wX0 C a0 (fun _ => 0) (fun _ _ => 0) ++ wXH C h5 (fun _ => none) ++ wX3 C a3 (upd (fun _ => 0) 1 40) (fun _ _ => 0)) := hD
  refine va_putF (D := D) (ci := 5) (v := .ref (a3 0)) (ty := .object "PanoramaHouse$Platform") (C := RX5) (T := TX5) (N := 8) hx hb hts hiX5 tyX5 tyX5_ok nmX5 hown hK hP hD hS 0 rfl rfl 4 (by decide) (hts (.fieldLink RX5 41 "PanoramaHouse" "platform" "LPanoramaHouse$Platform;") (by decide +kernel)) (fun _ h9 => h9) rfl hin rfl (by decide +kernel) rfl rfl (Nat.le_of_ble_eq_true rfl) dX5_init_58 (fun H locs hP hD hS => ?_)
  have hP : va_P D vwCl ([(o, .inr (5, [.ref (a4 0), .ref (a2 0), .ref (a0 0), .ref h5, .ref (a3 0), .null, .int 0, .int 0]))] ++ wX4 C a4 (fun _ _ => 0) ++ wX2 C a2 a4 (fun _ => 0) z2 ++ wX0 C a0 (fun _ => 0) (fun _ _ => 0) ++ wXH C h5 (fun _ => none) ++ wX3 C a3 (upd (fun _ => 0) 1 40) (fun _ _ => 0)) H := hP
  have hD : va_D A ([(o, .inr (5, [.ref (a4 0), .ref (a2 0), .ref (a0 0), .ref h5, .ref (a3 0), .null, .int 0, .int 0]))] ++ wX4 C a4 (fun _ _ => 0) ++ wX2 C a2 a4 (fun _ => 0) z2 ++ wX0 C a0 (fun _ => 0) (fun _ _ => 0) ++ wXH C h5 (fun _ => none) ++ wX3 C a3 (upd (fun _ => 0) 1 40) (fun _ _ => 0)) := hD
  refine lv_aload_n hx hb dX5_init_61 rfl (lv_at hl 0 rfl) ?_
  refine va_new (ci := 1) (fs := [.null, .null, .null, .null, .null, .int 0, .int 0, .int 0, .int 0, .int 0, .int 0, .int 0]) (C := RX1) (T := TX1) (N := 12) hx hb hts hiX1 tyX1 tyX1_ok hown (hts (.classLink RX5 32 RX1) (by decide +kernel)) (hts (.instantiable RX1 12) (by decide +kernel)) (hts (.initialized RX1) (by decide +kernel)) hK hP hD hS hA rfl (fun j hj => by rcases (show j = 0 ∨ j = 1 ∨ j = 2 ∨ j = 3 ∨ j = 4 ∨ j = 5 ∨ j = 6 ∨ j = 7 ∨ j = 8 ∨ j = 9 ∨ j = 10 ∨ j = 11 by omega) with rfl | rfl | rfl | rfl | rfl | rfl | rfl | rfl | rfl | rfl | rfl | rfl <;> rfl) (by dsimp only [rmX5_init, rmX0_init, rmX1_init, rmX2_init, rmX3_init, rmX4_init]; omega) (by dsimp only [rmX5_init, rmX0_init, rmX1_init, rmX2_init, rmX3_init, rmX4_init]; omega) dX5_init_62 (fun q H hP hD hS => ?_)
  refine lv_dup hx hb dX5_init_65 rfl ?_
  refine callI_ctor ([(o, .inr (5, [.ref (a4 0), .ref (a2 0), .ref (a0 0), .ref h5, .ref (a3 0), .null, .int 0, .int 0]))] ++ wX4 C a4 (fun _ _ => 0) ++ wX2 C a2 a4 (fun _ => 0) z2 ++ wX0 C a0 (fun _ => 0) (fun _ _ => 0) ++ wXH C h5 (fun _ => none) ++ wX3 C a3 (upd (fun _ => 0) 1 40) (fun _ _ => 0)) ([]) (As := []) (rest := [.ref q, .ref o]) ⟨hx, hb, hml, hown, hts⟩ hK hA hZ (c_X1_init l K D C q hlS rfl hlA rfl) (cwI 0 hts gX5_init_X1_init rfl rfl rfl (hts (.initialized RX1) (by decide +kernel)) (hts (.methodLink RX5 45 yX1_init) (by decide +kernel)) (hts (.instanceMethod yX1_init) (by decide +kernel)) rfl (by decide +kernel) ⟨Nat.le_of_ble_eq_true rfl, Nat.le_of_ble_eq_true rfl⟩) rfl hl.1 rfl (Nat.le_of_ble_eq_true rfl) ⟨(by dsimp only [rmX5_init, rmX0_init, rmX1_init, rmX2_init, rmX3_init, rmX4_init]; omega), (by dsimp only [rmX5_init, rmX0_init, rmX1_init, rmX2_init, rmX3_init, rmX4_init]; omega)⟩ (List.append_nil _).symm hP hD hS dX5_init_66 (fun a1 H locs hok hP hD hS => ?_)
  rw [← hok]
  rw [List.append_nil] at hP hD
  have hP : va_P D vwCl ([(o, .inr (5, [.ref (a4 0), .ref (a2 0), .ref (a0 0), .ref h5, .ref (a3 0), .null, .int 0, .int 0]))] ++ wX4 C a4 (fun _ _ => 0) ++ wX2 C a2 a4 (fun _ => 0) z2 ++ wX0 C a0 (fun _ => 0) (fun _ _ => 0) ++ wXH C h5 (fun _ => none) ++ wX3 C a3 (upd (fun _ => 0) 1 40) (fun _ _ => 0) ++ wX1 C a1 hlS hlA) H := hP
  have hD : va_D A ([(o, .inr (5, [.ref (a4 0), .ref (a2 0), .ref (a0 0), .ref h5, .ref (a3 0), .null, .int 0, .int 0]))] ++ wX4 C a4 (fun _ _ => 0) ++ wX2 C a2 a4 (fun _ => 0) z2 ++ wX0 C a0 (fun _ => 0) (fun _ _ => 0) ++ wXH C h5 (fun _ => none) ++ wX3 C a3 (upd (fun _ => 0) 1 40) (fun _ _ => 0) ++ wX1 C a1 hlS hlA) := hD
  refine va_put (D := D) (ci := 5) (v := .ref (a1 0)) (ty := .object "PanoramaHouse$Hall") (C := RX5) (T := TX5) (N := 8) hx hb hts hiX5 tyX5 tyX5_ok nmX5 hown hK hP hD hS 0 rfl rfl 5 (by decide) (hts (.fieldLink RX5 46 "PanoramaHouse" "draft" "LPanoramaHouse$Hall;") (by decide +kernel)) (fun _ h9 => h9) rfl (by decide +kernel) rfl rfl (Nat.le_of_ble_eq_true rfl) dX5_init_69 (fun H locs hP hD hS => ?_)
  have hP : va_P D vwCl ([(o, .inr (5, [.ref (a4 0), .ref (a2 0), .ref (a0 0), .ref h5, .ref (a3 0), .ref (a1 0), .int 0, .int 0]))] ++ wX4 C a4 (fun _ _ => 0) ++ wX2 C a2 a4 (fun _ => 0) z2 ++ wX0 C a0 (fun _ => 0) (fun _ _ => 0) ++ wXH C h5 (fun _ => none) ++ wX3 C a3 (upd (fun _ => 0) 1 40) (fun _ _ => 0) ++ wX1 C a1 hlS hlA) H := hP
  have hD : va_D A ([(o, .inr (5, [.ref (a4 0), .ref (a2 0), .ref (a0 0), .ref h5, .ref (a3 0), .ref (a1 0), .int 0, .int 0]))] ++ wX4 C a4 (fun _ _ => 0) ++ wX2 C a2 a4 (fun _ => 0) z2 ++ wX0 C a0 (fun _ => 0) (fun _ _ => 0) ++ wXH C h5 (fun _ => none) ++ wX3 C a3 (upd (fun _ => 0) 1 40) (fun _ _ => 0) ++ wX1 C a1 hlS hlA) := hD
  refine lv_aload_n hx hb dX5_init_72 rfl (lv_at hl 0 rfl) ?_
  refine lv_iconst (v := 0) hx hb dX5_init_73 (by decide) ?_
  refine va_put (D := D) (ci := 5) (v := .int 0) (ty := .int) (C := RX5) (T := TX5) (N := 8) hx hb hts hiX5 tyX5 tyX5_ok nmX5 hown hK hP hD hS 0 rfl rfl 6 (by decide) (hts (.fieldLink RX5 50 "PanoramaHouse" "hallsMade" "I") (by decide +kernel)) (fun _ h9 => h9) rfl (by decide +kernel) rfl rfl (Nat.le_of_ble_eq_true rfl) dX5_init_74 (fun H locs hP hD hS => ?_)
  have hP : va_P D vwCl ([(o, .inr (5, [.ref (a4 0), .ref (a2 0), .ref (a0 0), .ref h5, .ref (a3 0), .ref (a1 0), .int 0, .int 0]))] ++ wX4 C a4 (fun _ _ => 0) ++ wX2 C a2 a4 (fun _ => 0) z2 ++ wX0 C a0 (fun _ => 0) (fun _ _ => 0) ++ wXH C h5 (fun _ => none) ++ wX3 C a3 (upd (fun _ => 0) 1 40) (fun _ _ => 0) ++ wX1 C a1 hlS hlA) H := hP
  have hD : va_D A ([(o, .inr (5, [.ref (a4 0), .ref (a2 0), .ref (a0 0), .ref h5, .ref (a3 0), .ref (a1 0), .int 0, .int 0]))] ++ wX4 C a4 (fun _ _ => 0) ++ wX2 C a2 a4 (fun _ => 0) z2 ++ wX0 C a0 (fun _ => 0) (fun _ _ => 0) ++ wXH C h5 (fun _ => none) ++ wX3 C a3 (upd (fun _ => 0) 1 40) (fun _ _ => 0) ++ wX1 C a1 hlS hlA) := hD
  refine lv_aload_n hx hb dX5_init_77 rfl (lv_at hl 0 rfl) ?_
  refine lv_iconst (v := -1) hx hb dX5_init_78 (by decide) ?_
  refine va_put (D := D) (ci := 5) (v := .int (-1)) (ty := .int) (C := RX5) (T := TX5) (N := 8) hx hb hts hiX5 tyX5 tyX5_ok nmX5 hown hK hP hD hS 0 rfl rfl 7 (by decide) (hts (.fieldLink RX5 54 "PanoramaHouse" "faultPlace" "I") (by decide +kernel)) (fun _ h9 => h9) rfl (by decide +kernel) rfl rfl (Nat.le_of_ble_eq_true rfl) dX5_init_79 (fun H locs hP hD hS => ?_)
  have hP : va_P D vwCl ([(o, .inr (5, [.ref (a4 0), .ref (a2 0), .ref (a0 0), .ref h5, .ref (a3 0), .ref (a1 0), .int 0, .int (-1)]))] ++ wX4 C a4 (fun _ _ => 0) ++ wX2 C a2 a4 (fun _ => 0) z2 ++ wX0 C a0 (fun _ => 0) (fun _ _ => 0) ++ wXH C h5 (fun _ => none) ++ wX3 C a3 (upd (fun _ => 0) 1 40) (fun _ _ => 0) ++ wX1 C a1 hlS hlA) H := hP
  have hD : va_D A ([(o, .inr (5, [.ref (a4 0), .ref (a2 0), .ref (a0 0), .ref h5, .ref (a3 0), .ref (a1 0), .int 0, .int (-1)]))] ++ wX4 C a4 (fun _ _ => 0) ++ wX2 C a2 a4 (fun _ => 0) z2 ++ wX0 C a0 (fun _ => 0) (fun _ _ => 0) ++ wXH C h5 (fun _ => none) ++ wX3 C a3 (upd (fun _ => 0) 1 40) (fun _ _ => 0) ++ wX1 C a1 hlS hlA) := hD
  exact hret (a4, a2, a0, h5, a3, a1) _ _ _ _ dX5_init_82 trivial hP hD hS
