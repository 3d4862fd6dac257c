/-! String constants: length() and charAt(j) of the k-th of them -/
section CALLR
variable {p : Program} {l : Launch} {e : Env} {R : Room} {s : State} {m : MethodId} {args : Array Value} {below : List Frame} {meth : Method} {c : Code} {H : Heap} {locs : List Loc} {cells slots : Nat} {Q : State → Prop}
variable {y : MethodName} {bytes cc : ByteArray} {maxL nL n index pc : Nat} {ret : Option FieldType} {ws : List Cond} {rm : Room} {Ts : List Cond} {own : String} {b : Addr} {As rest st : List Value} {ls : Array Slot} {K : Kx} {D : va_G} {tys : List (ClassId × FieldType)} {A : Nat → Prop}
/-- a virtual call on a cell outside of the world -/
theorem callR_int {w : va_W} {r : Int32} (S : CallFix p m c cc nL s args Ts own) (hK : va_K D vwCl tys s) (hA : ∀ q, s.heap.size ≤ q → A q) (hZ : Amb K A s s.heap) (hM : MetI l y ws rm K D tys [] (.ref b :: As) [] r) (cw : CallW R s args own y.cls index y bytes maxL ret ws rm 0 0 n)
    (hrec : ∃ cell : Cell, H[b]? = some cell ∧ cell.vm.isStatics = false ∧ s.vm.findClass y.cls = some cell.cls)
    (hn : As.length = n) (hsize : ls.size = nL) (hst : st = As.reverse ++ .ref b :: rest) (hW : (rest.map fun v => v.category).sum ≤ 8) (hf : cells ≤ R.cells ∧ slots ≤ R.slots) (hP : va_P D vwCl w H) (hS : va_S A s.heap H locs) (hdg : decode cc pc = .ok (.invokevirtual index, 3))
    (kk : ∀ (H1 : Heap) (locs1 : List Loc), va_P D vwCl w H1 → va_S A s.heap H1 locs1 → W p l e R s m args below meth c H1 locs1 cells slots Q (F0 m (pc + 3) ls (.int r :: rest))) : W p l e R s m args below meth c H locs cells slots Q (F0 m pc ls st) := by
  have hFc : ∀ q, va_A [] H.size q → A q := fun q h => by
    rcases pA_iff.mp h with ⟨x, hx, _⟩ | h
    · cases hx
    · exact hA q (Nat.le_trans hS.1 h)
  subst hst
  refine va_calli (A1 := va_A [] H.size) (va_runV (b := b) (As := As) (rest := rest) S (hM H.size) cw ⟨pPre_blind K D tys [] _ H.size, hrec, fun U hU hW => ⟨rfl, by rw [hU], pNil, va_K.moved hW.alike hK, pNilD, by rw [hU]; exact ((hZ.kept hS.2.1).narrow hFc).warm hW⟩⟩ rfl hn hsize rfl (lv_room hW) hdg hf) hS (fun q _ h => hFc q h) hFc (fun r1 u t H1 locs1 ht hvm hw hB hz1 hk1 hS1 => ?_)
  rw [hw]
  exact kk H1 locs1 (pJoin0 (A := A) hP hk1) hS1
theorem callS_void {w : va_W} (S : CallFix p m c cc nL s args Ts own) (hK : va_K D vwCl tys s) (hA : ∀ q, s.heap.size ≤ q → A q) (hZ : Amb K A s s.heap) (hM : MetV l y ws rm K D tys [] As []) (cw : CallB R s args own index y bytes maxL ret ws rm 0 0 n ∧ (Cond.static y).before args s = true)
    (hn : As.length = n) (hsize : ls.size = nL) (hst : st = As.reverse ++ rest) (hW : (rest.map fun v => v.category).sum ≤ 8) (hf : cells ≤ R.cells ∧ slots ≤ R.slots) (hP : va_P D vwCl w H) (hS : va_S A s.heap H locs) (hdg : decode cc pc = .ok (.invokestatic index, 3))
    (kk : ∀ (H1 : Heap) (locs1 : List Loc), va_P D vwCl w H1 → va_S A s.heap H1 locs1 → W p l e R s m args below meth c H1 locs1 cells slots Q (F0 m (pc + 3) ls rest)) : W p l e R s m args below meth c H locs cells slots Q (F0 m pc ls st) := by
  have hFc : ∀ q, va_A [] H.size q → A q := fun q h => by
    rcases pA_iff.mp h with ⟨x, hx, _⟩ | h
    · cases hx
    · exact hA q (Nat.le_trans hS.1 h)
  subst hst
  refine va_callv (A1 := va_A [] H.size) (va_runS (As := As) (rest := rest) S (hM H.size) cw ⟨pPre_blind K D tys [] _ H.size, fun U hU hW => ⟨rfl, by rw [hU], pNil, va_K.moved hW.alike hK, pNilD, by rw [hU]; exact ((hZ.kept hS.2.1).narrow hFc).warm hW⟩⟩ rfl hn hsize rfl (lv_room hW) hdg hf) hS (fun q _ h => hFc q h) hFc (fun u t H1 locs1 ht hvm hw hB hz1 hk1 hS1 => ?_)
  exact kk H1 locs1 (pJoin0 (A := A) hP hk1) hS1
end CALLR
abbrev rmS (f n : Nat) : Room := { frames := f, cells := 0, slots := 0, locals := n }
set_option maxRecDepth 100000 in
set_option maxHeartbeats 4000000 in
theorem c_str_coder (l : Launch) (K : Kx) (D : va_G) (tys : List (ClassId × FieldType)) (k : Nat) (hk : k < 8) : MetI l yJ0_coder_7d493 wsJ0_coder_7d493 (rmS 1 32) K D tys [] [.ref (K.1 k)] [] 0 := by
  refine met_int (cc := cJ0_coder_7d493) (maxL := 1) (ty := .byte) (by decide +kernel) rfl (Nat.le_of_ble_eq_true rfl) ?_
  intro p e s m below meth c A Q ls ⟨hx, hb, hml, hown, hts, hK, hA, hZ⟩ hP hD hS hl hret
  have hown : s.vm.findClass RJ0 = some m.cls := hown
  have hl : lv_has ls 1 [(0, .ref (K.1 k))] := hl
  refine va_gets hx hb hZ.cst hS hown (hts (.fieldLink RJ0 38 "java/lang/String" "COMPACT_STRINGS" "Z") (by decide +kernel)) (fun _ h => h) dJ0_coder_7d493_0 ?_
  refine lv_if_eq (tgt := 13) hx hb dJ0_coder_7d493_3 (by decide) (fun c_1 => absurd c_1 (by decide)) (fun _ => ?_)
  refine lv_aload_n hx hb dJ0_coder_7d493_6 rfl (lv_at hl 0 rfl) ?_
  refine vk_getf hx hb (hZ.txt.1 k hk).2.1 hS hown (hts (.fieldLink RJ0 15 "java/lang/String" "coder" "B") (by decide +kernel)) (fun _ h => h) dJ0_coder_7d493_7 ?_
  refine lv_goto (tgt := 14) hx hb dJ0_coder_7d493_10 (by decide) ?_
  exact hret _ _ _ _ dJ0_coder_7d493_14 (by decide) hP hD hS
set_option maxRecDepth 100000 in
set_option maxHeartbeats 4000000 in
theorem c_str_latin (l : Launch) (K : Kx) (D : va_G) (tys : List (ClassId × FieldType)) (k : Nat) (hk : k < 8) : MetI l yJ0_isLatin1_aae02 wsJ0_isLatin1_aae02 (rmS 1 32) K D tys [] [.ref (K.1 k)] [] 1 := by
  refine met_int (cc := cJ0_isLatin1_aae02) (maxL := 1) (ty := .boolean) (by decide +kernel) rfl (Nat.le_of_ble_eq_true rfl) ?_
  intro p e s m below meth c A Q ls ⟨hx, hb, hml, hown, hts, hK, hA, hZ⟩ hP hD hS hl hret
  have hown : s.vm.findClass RJ0 = some m.cls := hown
  have hl : lv_has ls 1 [(0, .ref (K.1 k))] := hl
  refine va_gets hx hb hZ.cst hS hown (hts (.fieldLink RJ0 38 "java/lang/String" "COMPACT_STRINGS" "Z") (by decide +kernel)) (fun _ h => h) dJ0_isLatin1_aae02_0 ?_
  refine lv_if_eq (tgt := 17) hx hb dJ0_isLatin1_aae02_3 (by decide) (fun c_1 => absurd c_1 (by decide)) (fun _ => ?_)
  refine lv_aload_n hx hb dJ0_isLatin1_aae02_6 rfl (lv_at hl 0 rfl) ?_
  refine vk_getf hx hb (hZ.txt.1 k hk).2.1 hS hown (hts (.fieldLink RJ0 15 "java/lang/String" "coder" "B") (by decide +kernel)) (fun _ h => h) dJ0_isLatin1_aae02_7 ?_
  refine lv_if_ne (tgt := 17) hx hb dJ0_isLatin1_aae02_10 (by decide) (fun c_1 => absurd rfl c_1) (fun _ => ?_)
  refine lv_iconst (v := 1) hx hb dJ0_isLatin1_aae02_13 (by decide) ?_
  refine lv_goto (tgt := 18) hx hb dJ0_isLatin1_aae02_14 (by decide) ?_
  exact hret _ _ _ _ dJ0_isLatin1_aae02_18 (by decide) hP hD hS
set_option maxRecDepth 100000 in
set_option maxHeartbeats 4000000 in
theorem c_str_length (l : Launch) (K : Kx) (D : va_G) (tys : List (ClassId × FieldType)) (k : Nat) (hk : k < 8) : MetI l yJ0_length_8abf5 wsJ0_length_8abf5 (rmS 2 64) K D tys [] [.ref (K.1 k)] [] (nI (sLen.getD k 0)) := by
  refine met_int (cc := cJ0_length_8abf5) (maxL := 1) (ty := .int) (by decide +kernel) rfl (Nat.le_of_ble_eq_true rfl) ?_
  intro p e s m below meth c A Q ls ⟨hx, hb, hml, hown, hts, hK, hA, hZ⟩ hP hD hS hl hret
  have hown : s.vm.findClass RJ0 = some m.cls := hown
  have hl : lv_has ls 1 [(0, .ref (K.1 k))] := hl
  refine lv_aload_n hx hb dJ0_length_8abf5_0 rfl (lv_at hl 0 rfl) ?_
  refine vk_getf hx hb (hZ.txt.1 k hk).2.2.1 hS hown (hts (.fieldLink RJ0 9 "java/lang/String" "value" "[B") (by decide +kernel)) (fun _ h => h) dJ0_length_8abf5_1 ?_
  refine va_tlen hx hb (hZ.txt.1 k hk).2.2.2 hS (v := nI (sLen.getD k 0)) rfl dJ0_length_8abf5_4 ?_
  refine lv_aload_n hx hb dJ0_length_8abf5_5 rfl (lv_at hl 0 rfl) ?_
  refine callR_int (As := []) (rest := [.int (nI (sLen.getD k 0))]) ⟨hx, hb, hml, hown, hts⟩ hK hA hZ (c_str_coder l K D tys k hk) (cwV 0 hts gJ0_length_8abf5_J0_coder_7d493 rfl rfl rfl (by decide +kernel) ⟨Nat.le_of_ble_eq_true rfl, Nat.le_of_ble_eq_true rfl⟩) (vk_recv hZ.txt hk hS) rfl hl.1 rfl (Nat.le_of_ble_eq_true rfl) ⟨Nat.zero_le _, Nat.zero_le _⟩ hP hS dJ0_length_8abf5_6 (fun H locs hP hS => ?_)
  refine lv_ishr hx hb dJ0_length_8abf5_9 ?_
  rw [sb_shr0]
  exact hret _ _ _ _ dJ0_length_8abf5_10 rfl hP hD hS
set_option maxRecDepth 100000 in
set_option maxHeartbeats 4000000 in
theorem c_str_check3 (l : Launch) (K : Kx) (D : va_G) (tys : List (ClassId × FieldType)) (i : Int32) (n : Int32) (h0 : ¬ i < 0) (h1 : i < n) (o : Option Nat) : MetI l yJ3_checkIndex_8e157 wsJ3_checkIndex_8e157 (rmS 1 32) K D tys [] [.int i, .int n, va_rf o] [] i := by
  refine met_int (cc := cJ3_checkIndex_8e157) (maxL := 3) (ty := .int) (by decide +kernel) rfl (by cases o <;> exact Nat.le_of_ble_eq_true rfl) ?_
  intro p e s m below meth c A Q ls ⟨hx, hb, hml, hown, hts, hK, hA, hZ⟩ hP hD hS hl hret
  have hl : lv_has ls 3 [(0, .int i), (1, .int n), (2, va_rf o)] := hl
  refine lv_iload_n hx hb dJ3_checkIndex_8e157_0 rfl (lv_at hl 0 rfl) ?_
  refine lv_if_lt (tgt := 9) hx hb dJ3_checkIndex_8e157_1 (by decide) (fun c_1 => absurd c_1 h0) (fun _ => ?_)
  refine lv_iload_n hx hb dJ3_checkIndex_8e157_4 rfl (lv_at hl 0 rfl) ?_
  refine lv_iload_n hx hb dJ3_checkIndex_8e157_5 rfl (lv_at hl 1 rfl) ?_
  refine lv_icmp_lt (tgt := 16) hx hb dJ3_checkIndex_8e157_6 (by decide) (fun _ => ?_) (fun c_1 => absurd h1 c_1)
  refine lv_iload_n hx hb dJ3_checkIndex_8e157_16 rfl (lv_at hl 0 rfl) ?_
  exact hret _ _ _ _ dJ3_checkIndex_8e157_17 rfl hP hD hS
set_option maxRecDepth 100000 in
set_option maxHeartbeats 4000000 in
theorem c_str_check (l : Launch) (K : Kx) (D : va_G) (tys : List (ClassId × FieldType)) (i : Int32) (n : Int32) (h0 : ¬ i < 0) (h1 : i < n) : MetV l yJ0_checkIndex_df160 wsJ0_checkIndex_df160 (rmS 2 64) K D tys [] [.int i, .int n] [] := by
  refine met_void (cc := cJ0_checkIndex_df160) (maxL := 2) (by decide +kernel) rfl (Nat.le_of_ble_eq_true rfl) ?_
  intro p e s m below meth c A Q ls ⟨hx, hb, hml, hown, hts, hK, hA, hZ⟩ hP hD hS hl hret
  have hown : s.vm.findClass RJ0 = some m.cls := hown
  have hl : lv_has ls 2 [(0, .int i), (1, .int n)] := hl
  refine lv_iload_n hx hb dJ0_checkIndex_df160_0 rfl (lv_at hl 0 rfl) ?_
  refine lv_iload_n hx hb dJ0_checkIndex_df160_1 rfl (lv_at hl 1 rfl) ?_
  have key : ∀ o : Option Nat, va_Z "jdk/internal/util/Preconditions" "SIOOBE_FORMATTER" "Ljava/util/function/BiFunction;" (va_rf o) A s s.heap → W p l e (rmS 2 64) s m ([.int i, .int n] : List Value).toArray below meth c s.heap [] 0 0 Q (F0 m 2 ls [.int n, .int i]) := by
    intro o hz
    refine va_gets hx hb hz hS hown (hts (.fieldLink RJ0 1053 "jdk/internal/util/Preconditions" "SIOOBE_FORMATTER" "Ljava/util/function/BiFunction;") (by decide +kernel)) (fun _ h => h) dJ0_checkIndex_df160_2 ?_
    refine callS_int (As := [.int i, .int n, va_rf o]) (rest := []) ⟨hx, hb, hml, hown, hts⟩ hK hA hZ (c_str_check3 l K D tys i n h0 h1 o) (va_cwS 3 hts gJ0_checkIndex_df160_J3_checkIndex_8e157 rfl rfl rfl (by decide +kernel) ⟨Nat.le_of_ble_eq_true rfl, Nat.le_of_ble_eq_true rfl⟩) rfl hl.1 rfl (Nat.le_of_ble_eq_true rfl) ⟨Nat.zero_le _, Nat.zero_le _⟩ hP hS dJ0_checkIndex_df160_5 (fun H locs hP hS => ?_)
    refine lv_pop hx hb dJ0_checkIndex_df160_8 rfl ?_
    exact hret _ _ _ _ dJ0_checkIndex_df160_9 hP hD hS
  rcases hZ.fmt with h | ⟨t, h⟩
  · exact key none h
  · exact key (some t) h
theorem str_conv : ∀ k, k < 8 → ∀ j, j < sLen.getD k 0 → (((((sByt.getD k []).getD j 0) &&& 255 : Int32)).toUInt32 % 65536).toInt32 = (sByt.getD k []).getD j 0 ∧ narrow .char (.int ((sByt.getD k []).getD j 0)) = .int ((sByt.getD k []).getD j 0) := by decide +kernel
theorem str_len : ∀ k, k < 8 → sLen.getD k 0 < 2 ^ 31 := by decide +kernel
theorem vp_in_lt {i : Int32} {n : Nat} (hn : n < 2 ^ 31) (h : vp_in i n) : ¬ i < 0 ∧ i < nI n ∧ i.toNatClampNeg < n := by
  refine ⟨fun h2 => h (Or.inl h2), ?_, Nat.lt_of_not_le (fun h2 => h (Or.inr h2))⟩
  obtain ⟨j, hj, rfl⟩ := vp_in_of h hn
  exact nI_lt hj hn
set_option maxRecDepth 100000 in
set_option maxHeartbeats 4000000 in
theorem c_str_char1 (l : Launch) (K : Kx) (D : va_G) (tys : List (ClassId × FieldType)) (k : Nat) (hk : k < 8) (i : Int32) (hi : vp_in i (sLen.getD k 0)) : MetI l yJ1_charAt_3b067 wsJ1_charAt_3b067 (rmS 3 96) K D tys [] [.ref (K.2 k), .int i] [] ((sByt.getD k []).getD i.toNatClampNeg 0) := by
  refine met_int (cc := cJ1_charAt_3b067) (maxL := 2) (ty := .char) (by decide +kernel) rfl (Nat.le_of_ble_eq_true rfl) ?_
  intro p e s m below meth c A Q ls ⟨hx, hb, hml, hown, hts, hK, hA, hZ⟩ hP hD hS hl hret
  have hown : s.vm.findClass RJ1 = some m.cls := hown
  have hl : lv_has ls 2 [(0, .ref (K.2 k)), (1, .int i)] := hl
  obtain ⟨g0, g1, g2⟩ := vp_in_lt (str_len k hk) hi
  refine lv_iload_n hx hb dJ1_charAt_3b067_0 rfl (lv_at hl 1 rfl) ?_
  refine lv_aload_n hx hb dJ1_charAt_3b067_1 rfl (lv_at hl 0 rfl) ?_
  refine va_tlen hx hb (hZ.txt.1 k hk).2.2.2 hS (v := nI (sLen.getD k 0)) rfl dJ1_charAt_3b067_2 ?_
  refine callS_void (As := [.int i, .int (nI (sLen.getD k 0))]) (rest := []) ⟨hx, hb, hml, hown, hts⟩ hK hA hZ (c_str_check l K D tys i _ g0 g1) (va_cwS 2 hts gJ1_charAt_3b067_J0_checkIndex_df160 rfl rfl rfl (by decide +kernel) ⟨Nat.le_of_ble_eq_true rfl, Nat.le_of_ble_eq_true rfl⟩) rfl hl.1 rfl (Nat.le_of_ble_eq_true rfl) ⟨Nat.zero_le _, Nat.zero_le _⟩ hP hS dJ1_charAt_3b067_3 (fun H locs hP hS => ?_)
  refine lv_aload_n hx hb dJ1_charAt_3b067_6 rfl (lv_at hl 0 rfl) ?_
  refine lv_iload_n hx hb dJ1_charAt_3b067_7 rfl (lv_at hl 1 rfl) ?_
  refine va_tb hx hb (hZ.txt.1 k hk).2.2.2 hS hi (v := .int ((sByt.getD k []).getD i.toNatClampNeg 0)) rfl dJ1_charAt_3b067_8 ?_
  refine lv_sipush (v := 255) hx hb dJ1_charAt_3b067_9 (by decide) ?_
  refine lv_iand hx hb dJ1_charAt_3b067_12 ?_
  refine lv_i2c (v := (sByt.getD k []).getD i.toNatClampNeg 0) hx hb dJ1_charAt_3b067_13 (str_conv k hk _ g2).1 ?_
  exact hret _ _ _ _ dJ1_charAt_3b067_14 (str_conv k hk _ g2).2 hP hD hS
set_option maxRecDepth 100000 in
set_option maxHeartbeats 4000000 in
theorem c_str_charAt (l : Launch) (K : Kx) (D : va_G) (tys : List (ClassId × FieldType)) (k : Nat) (hk : k < 8) (i : Int32) (hi : vp_in i (sLen.getD k 0)) : MetI l yJ0_charAt_5068e wsJ0_charAt_5068e (rmS 4 128) K D tys [] [.ref (K.1 k), .int i] [] ((sByt.getD k []).getD i.toNatClampNeg 0) := by
  refine met_int (cc := cJ0_charAt_5068e) (maxL := 2) (ty := .char) (by decide +kernel) rfl (Nat.le_of_ble_eq_true rfl) ?_
  intro p e s m below meth c A Q ls ⟨hx, hb, hml, hown, hts, hK, hA, hZ⟩ hP hD hS hl hret
  have hown : s.vm.findClass RJ0 = some m.cls := hown
  have hl : lv_has ls 2 [(0, .ref (K.1 k)), (1, .int i)] := hl
  obtain ⟨g0, g1, g2⟩ := vp_in_lt (str_len k hk) hi
  refine lv_aload_n hx hb dJ0_charAt_5068e_0 rfl (lv_at hl 0 rfl) ?_
  refine callR_int (As := []) (rest := []) ⟨hx, hb, hml, hown, hts⟩ hK hA hZ (c_str_latin l K D tys k hk) (cwV 0 hts gJ0_charAt_5068e_J0_isLatin1_aae02 rfl rfl rfl (by decide +kernel) ⟨Nat.le_of_ble_eq_true rfl, Nat.le_of_ble_eq_true rfl⟩) (vk_recv hZ.txt hk hS) rfl hl.1 rfl (Nat.le_of_ble_eq_true rfl) ⟨Nat.zero_le _, Nat.zero_le _⟩ hP hS dJ0_charAt_5068e_1 (fun H locs hP hS => ?_)
  refine lv_if_eq (tgt := 16) hx hb dJ0_charAt_5068e_4 (by decide) (fun c_1 => absurd c_1 (by decide)) (fun _ => ?_)
  refine lv_aload_n hx hb dJ0_charAt_5068e_7 rfl (lv_at hl 0 rfl) ?_
  refine vk_getf hx hb (hZ.txt.1 k hk).2.2.1 hS hown (hts (.fieldLink RJ0 9 "java/lang/String" "value" "[B") (by decide +kernel)) (fun _ h => h) dJ0_charAt_5068e_8 ?_
  refine lv_iload_n hx hb dJ0_charAt_5068e_11 rfl (lv_at hl 1 rfl) ?_
  refine callS_int (As := [.ref (K.2 k), .int i]) (rest := []) ⟨hx, hb, hml, hown, hts⟩ hK hA hZ (c_str_char1 l K D tys k hk i hi) (va_cwS 2 hts gJ0_charAt_5068e_J1_charAt_3b067 rfl rfl rfl (by decide +kernel) ⟨Nat.le_of_ble_eq_true rfl, Nat.le_of_ble_eq_true rfl⟩) rfl hl.1 rfl (Nat.le_of_ble_eq_true rfl) ⟨Nat.zero_le _, Nat.zero_le _⟩ hP hS dJ0_charAt_5068e_12 (fun H locs hP hS => ?_)
  exact hret _ _ _ _ dJ0_charAt_5068e_15 (str_conv k hk _ g2).2 hP hD hS
