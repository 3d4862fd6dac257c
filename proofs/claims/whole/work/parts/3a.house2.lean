/-! the house's methods on halls, and its constructor -/
def wXH (C : Nat → ClassId) (h5 : Nat) (f : Nat → Option Nat) : va_W := [(h5, .inl (C 4, 12, .inr (.inr (.inr (.inr f)))))]
def qQ (D : va_G) (tys : List (ClassId × FieldType)) (w : va_W) (r : Option Nat) (A : Nat → Prop) : Array Value → State → Outcome → State → Prop := va_Qq (fun (x : Option Nat) (_ : Unit) => x = r) (pB D tys w A) A
def MetQ (l : Launch) (y : MethodName) (ws : List Cond) (rm : Room) (K : Kx) (D : va_G) (tys : List (ClassId × FieldType)) (w : va_W) (av : List Value) (w' : va_W) (r : Option Nat) : Prop := ∀ sz : Nat, Met l y ws rm (pPre K D tys w av sz) (qQ D tys w' r (va_A w sz)) 0 0 (va_A w sz)
theorem met_ref {l : Launch} {y : MethodName} {ws ws' : List Cond} {rm : Room} {K : Kx} {D : va_G} {tys : List (ClassId × FieldType)} {w : va_W} {av : List Value} {w' : va_W} {r : Option Nat} {cc : ByteArray} {maxL : Nat} {nm : String} (hy : plainFor y = true) (hw : ws = Cond.code y cc maxL (some (.object nm)) :: ws') (hlen : (lg_sl av).length ≤ maxL)
    (body : ∀ (p : Program) (e : Env) (s : State) (m : MethodId) (below : List Frame) (meth : Method) (c : Code) (A : Nat → Prop) (Q : State → Prop) (ls : Array Slot), Cx p s m c av ws cc y.cls maxL K D tys A → va_P D vwCl w s.heap → va_D A w → va_S A s.heap s.heap [] → lv_has ls maxL (lv_args 0 av) →
      (∀ (H : Heap) (locs : List Loc) (ls : Array Slot) (pc : Nat), decode cc pc = .ok (.areturn, 1) → va_P D vwCl w' H → va_D A w' → va_S A s.heap H locs → W p l e rm s m av.toArray below meth c H locs 0 0 Q (F0 m pc ls [va_rf r])) →
      W p l e rm s m av.toArray below meth c s.heap [] 0 0 Q (F0 m 0 ls [])) : MetQ l y ws rm K D tys w av w' r := by
  intro sz
  refine va_MetF (cc := cc) (maxL := maxL) (ret := some (.object nm)) hy hw ?_
  intro p e s m args below meth c s₁ B hml hv
  obtain ⟨rfl, hsz, hP, hK, hD0, hZ⟩ := hv
  subst hsz
  rw [lg_entry_eq]
  refine body p e s m below meth c (va_A w s.heap.size) _ _ ⟨B.exec, B.bytes, hml, findClass_of_methodNamed B.named, atoms_spec (ws := ws) B.pre, hK, fun q h => Or.inr h, hZ⟩ hP hD0.self va_S.rf (lv_entry av hlen) ?_
  intro H locs ls pc hd hP1 hD1 hS1
  have hlocks := B.notSynchronized
  refine W.aret B.exec B.bytes B.returns (Or.inl ⟨nm, rfl⟩) ?_ (fun t ht hW => ⟨⟨r, (), rfl, rfl, by rw [ht]; exact hP1, va_K.moved hW.alike hK, hD1⟩, hS1.F ht⟩) hS1.2.2 hd
  cases r with
  | none => exact Or.inl rfl
  | some a => exact Or.inr ⟨a, rfl⟩
section CALLQ
variable {p : Program} {l : Launch} {e : Env} {R : Room} {s : State} {m : MethodId} {args : Array Value} {below : List Frame} {meth : Method} {c : Code} {H : Heap} {locs : List Loc} {cells slots : Nat} {Q : State → Prop}
variable {y : MethodName} {bytes cc : ByteArray} {maxL nL n index pc : Nat} {ret : Option FieldType} {ws : List Cond} {rm : Room} {Ts : List Cond} {own : String} {b : Addr} {As rest st : List Value} {ls : Array Slot} {K : Kx} {D : va_G} {tys : List (ClassId × FieldType)} {wc wc' : va_W} {A : Nat → Prop}
theorem callV_ref (X Y : va_W) {r : Option Nat} (S : CallFix p m c cc nL s args Ts own) (hK : va_K D vwCl tys s) (hA : ∀ q, s.heap.size ≤ q → A q) (hZ : Amb K A s s.heap) (hM : MetQ l y ws rm K D tys wc (.ref b :: As) wc' r) (cw : CallW R s args own y.cls index y bytes maxL ret ws rm 0 0 n) (q0 : Nat) {ci : Nat} {fs : List Value} {qc : vw_C} (he : wc[q0]? = some (b, .inr (ci, fs))) (hc : vwCl[ci]? = some qc) (hqc : qc.1 = y.cls)
    (hn : As.length = n) (hsize : ls.size = nL) (hst : st = As.reverse ++ .ref b :: rest) (hW : (rest.map fun v => v.category).sum ≤ 8) (hf : cells ≤ R.cells ∧ slots ≤ R.slots) {w w' : va_W} (hw1 : w = X ++ wc ++ Y) (hw2 : w' = X ++ wc' ++ Y) (hP : va_P D vwCl w H) (hD : va_D A w) (hS : va_S A s.heap H locs) (hdg : decode cc pc = .ok (.invokevirtual index, 3))
    (kk : ∀ (H1 : Heap) (locs1 : List Loc), va_P D vwCl w' H1 → va_D A w' → va_S A s.heap H1 locs1 → W p l e R s m args below meth c H1 locs1 cells slots Q (F0 m (pc + 3) ls (va_rf r :: rest))) : W p l e R s m args below meth c H locs cells slots Q (F0 m pc ls st) := by
  subst hw1 hw2
  have hPc : va_P D vwCl wc H := (pP_app.mp (pP_app.mp hP).1).2
  have hDc : va_D A wc := (pD_app.mp (pD_app.mp hD).1).2.1
  have hFc := pFree hD hS hA
  subst hst
  refine va_callq (A1 := va_A wc H.size) (va_runV (b := b) (As := As) (rest := rest) S (hM H.size) cw ⟨pPre_blind K D tys wc _ H.size, hqc ▸ va_recv hK hPc hc he, fun U hU hW => ⟨rfl, by rw [hU], by rw [hU]; exact hPc, va_K.moved hW.alike hK, hDc.weaken (fun _ _ _ _ => trivial), by rw [hU]; exact ((hZ.kept hS.2.1).narrow hFc).warm hW⟩⟩ rfl hn hsize rfl (lv_room hW) hdg hf) hS (fun q _ h => hFc q h) hFc (fun r1 u t H1 locs1 ht hvm hw hB hz1 hk1 hS1 => ?_)
  obtain ⟨hP1, hK1, hD1⟩ := hB
  rw [ht] at hP1
  obtain ⟨hP2, hD2⟩ := pJoin hP hD hk1 hFc hP1 hD1
  rw [hw]
  exact kk H1 locs1 hP2 hD2 hS1
end CALLQ
/-- an int method that may make cells -/
def qIE {S : Type} (D : va_G) (tys : List (ClassId × FieldType)) (ok : Int32 → S → Prop) (wOf : S → va_W) (A : Nat → Prop) : Array Value → State → Outcome → State → Prop := va_Qi ok (fun u t => va_P D vwCl (wOf u) t.heap ∧ va_K D vwCl tys t ∧ va_D A (wOf u)) A
def MetIE {S : Type} (l : Launch) (y : MethodName) (ws : List Cond) (rm : Room) (K : Kx) (D : va_G) (tys : List (ClassId × FieldType)) (w : va_W) (av : List Value) (ok : Int32 → S → Prop) (wOf : S → va_W) (mc ms : Nat) : Prop := ∀ sz : Nat, Met l y ws rm (pPre K D tys w av sz) (qIE D tys ok wOf (va_A w sz)) mc ms (va_A w sz)
theorem met_intE {S : Type} {l : Launch} {y : MethodName} {ws ws' : List Cond} {rm : Room} {K : Kx} {D : va_G} {tys : List (ClassId × FieldType)} {w : va_W} {av : List Value} {ok : Int32 → S → Prop} {wOf : S → va_W} {mc ms : Nat} {cc : ByteArray} {maxL : Nat} (hy : plainFor y = true) (hw : ws = Cond.code y cc maxL (some .int) :: ws') (hlen : (lg_sl av).length ≤ maxL)
    (body : ∀ (p : Program) (e : Env) (s : State) (m : MethodId) (below : List Frame) (meth : Method) (c : Code) (A : Nat → Prop) (Q : State → Prop) (ls : Array Slot), Cx p s m c av ws cc y.cls maxL K D tys A → va_P D vwCl w s.heap → va_D A w → va_S A s.heap s.heap [] → lv_has ls maxL (lv_args 0 av) →
      (∀ (r : Int32) (u : S) (H : Heap) (locs : List Loc) (ls : Array Slot) (pc : Nat), decode cc pc = .ok (.ireturn, 1) → ok r u → va_P D vwCl (wOf u) H → va_D A (wOf u) → va_S A s.heap H locs → W p l e rm s m av.toArray below meth c H locs mc ms Q (F0 m pc ls [.int r])) →
      W p l e rm s m av.toArray below meth c s.heap [] 0 0 Q (F0 m 0 ls [])) : MetIE l y ws rm K D tys w av ok wOf mc ms := by
  intro sz
  refine va_MetF (cc := cc) (maxL := maxL) (ret := some .int) hy hw ?_
  intro p e s m args below meth c s₁ B hml hv
  obtain ⟨rfl, hsz, hP, hK, hD0, hZ⟩ := hv
  subst hsz
  rw [lg_entry_eq]
  refine body p e s m below meth c (va_A w s.heap.size) _ _ ⟨B.exec, B.bytes, hml, findClass_of_methodNamed B.named, atoms_spec (ws := ws) B.pre, hK, fun q h => Or.inr h, hZ⟩ hP hD0.self va_S.rf (lv_entry av hlen) ?_
  intro r u H locs ls pc hd hok hP1 hD1 hS1
  have hlocks := B.notSynchronized
  exact W.iret B.exec B.bytes B.returns (fun t ht hW => ⟨⟨r, u, rfl, hok, by rw [ht]; exact hP1, va_K.moved hW.alike hK, hD1⟩, hS1.F ht⟩) hS1.2.2 hd
theorem vp_in12 {i : Int32} (h0 : ¬ i < 0) (h1 : ¬ 12 ≤ i) : vp_in i 12 := by
  obtain ⟨j, hj, rfl⟩ := nI_of h0
  have e12 : (12 : Int32) = nI 12 := rfl
  rw [e12, nI_leI (by decide) hj] at h1
  exact vp_in_nI (by omega) (by decide)
abbrev rmX5_hallNumbered : Room := { frames := 1, cells := 0, slots := 0, locals := 32 }
set_option maxRecDepth 100000 in
set_option maxHeartbeats 4000000 in
theorem c_X5_hallNumbered (l : Launch) (K : Kx) (D : va_G) (C : Nat → ClassId) (a5 : Nat → Nat) (S5 : Nat → Int32) (a0 a2 a3 a4 : Nat → Nat) (h5 d5 : Nat) (f : Nat → Option Nat) (p1 : Int32) : MetQ l yX5_hallNumbered wsX5_hallNumbered rmX5_hallNumbered K D (tyV C) (wX5 C a5 a0 a2 a3 a4 h5 d5 S5 ++ wXH C h5 f) [.ref (a5 0), .int p1] (wX5 C a5 a0 a2 a3 a4 h5 d5 S5 ++ wXH C h5 f) (hNo f p1) := by
  refine met_ref (cc := cX5_hallNumbered) (maxL := 2) (nm := "PanoramaHouse$Hall") (by decide +kernel) rfl (Nat.le_of_ble_eq_true rfl) ?_
  intro p e s m below meth c A Q ls ⟨hx, hb, hml, hown, hts, hK, hA, hZ⟩ hP hD hS hl hret
  have hown : s.vm.findClass RX5 = some m.cls := hown
  have hiX5 : ∀ w ∈ u_ws RX5 TX5 8, w ∈ wsX5_hallNumbered := by decide +kernel
  have hl : lv_has ls 2 [(0, .ref (a5 0)), (1, .int p1)] := hl
  unfold hNo at hret
  refine lv_iload_n hx hb dX5_hallNumbered_0 rfl (lv_at hl 1 rfl) ?_
  refine lv_if_lt (tgt := 19) hx hb dX5_hallNumbered_1 (by decide) (fun c1 => ?_) (fun c1 => ?_)
  · rw [if_pos c1] at hret
    refine lv_null hx hb dX5_hallNumbered_19 ?_
    exact hret _ _ _ _ dX5_hallNumbered_20 hP hD hS
  · rw [if_neg c1] at hret
    refine lv_iload_n hx hb dX5_hallNumbered_4 rfl (lv_at hl 1 rfl) ?_
    refine lv_bipush (v := 12) hx hb dX5_hallNumbered_5 (by decide) ?_
    refine lv_icmp_ge (tgt := 19) hx hb dX5_hallNumbered_7 (by decide) (fun c2 => ?_) (fun c2 => ?_)
    · rw [if_pos c2] at hret
      refine lv_null hx hb dX5_hallNumbered_19 ?_
      exact hret _ _ _ _ dX5_hallNumbered_20 hP hD hS
    · rw [if_neg c2] at hret
      refine lv_aload_n hx hb dX5_hallNumbered_10 rfl (lv_at hl 0 rfl) ?_
      refine va_get (D := D) (ci := 5) (v := .ref h5) (C := RX5) (T := TX5) (N := 8) hx hb hts hiX5 hown hK hP 0 rfl rfl 3 (by decide) (hts (.fieldLink RX5 34 "PanoramaHouse" "halls" "[LPanoramaHouse$Hall;") (by decide +kernel)) (fun _ h9 => h9) rfl dX5_hallNumbered_11 ?_
      refine lv_iload_n hx hb dX5_hallNumbered_14 rfl (lv_at hl 1 rfl) ?_
      refine va_aldq hx hb hK hP 1 4 rfl rfl (vp_in12 c1 c2) dX5_hallNumbered_15 ?_
      refine lv_goto (tgt := 20) hx hb dX5_hallNumbered_16 (by decide) ?_
      exact hret _ _ _ _ dX5_hallNumbered_20 hP hD hS
abbrev rmX5_week : Room := { frames := 6, cells := 0, slots := 0, locals := 150 }
set_option maxRecDepth 100000 in
set_option maxHeartbeats 4000000 in
theorem c_X5_week_none (l : Launch) (K : Kx) (D : va_G) (C : Nat → ClassId) (a5 : Nat → Nat) (S5 : Nat → Int32) (a0 a2 a3 a4 : Nat → Nat) (h5 d5 : Nat) (f : Nat → Option Nat) (p1 p2 p3 : Int32) (hno : hNo f p1 = none) : MetI l yX5_week wsX5_week rmX5_week K D (tyV C) (wX5 C a5 a0 a2 a3 a4 h5 d5 S5 ++ wXH C h5 f) [.ref (a5 0), .int p1, .int p2, .int p3] (wX5 C a5 a0 a2 a3 a4 h5 d5 S5 ++ wXH C h5 f) (-1) := by
  refine met_int (cc := cX5_week) (maxL := 5) (ty := .int) (by decide +kernel) rfl (Nat.le_of_ble_eq_true rfl) ?_
  intro p e s m below meth c A Q ls ⟨hx, hb, hml, hown, hts, hK, hA, hZ⟩ hP hD hS hl hret
  have hown : s.vm.findClass RX5 = some m.cls := hown
  have hl : lv_has ls 5 [(0, .ref (a5 0)), (1, .int p1), (2, .int p2), (3, .int p3)] := hl
  refine lv_aload_n hx hb dX5_week_0 rfl (lv_at hl 0 rfl) ?_
  refine lv_iload_n hx hb dX5_week_1 rfl (lv_at hl 1 rfl) ?_
  refine callV_ref ([]) ([]) (w' := wX5 C a5 a0 a2 a3 a4 h5 d5 S5 ++ wXH C h5 f) (As := [.int p1]) (rest := []) ⟨hx, hb, hml, hown, hts⟩ hK hA hZ (hno ▸ c_X5_hallNumbered l K D C a5 S5 a0 a2 a3 a4 h5 d5 f p1) (cwV 1 hts gX5_week_X5_hallNumbered rfl rfl rfl (by decide +kernel) ⟨Nat.le_of_ble_eq_true rfl, Nat.le_of_ble_eq_true rfl⟩) 0 rfl rfl rfl rfl hl.1 rfl (Nat.le_of_ble_eq_true rfl) ⟨Nat.zero_le _, Nat.zero_le _⟩ (by simp only [List.append_assoc, List.append_nil, List.nil_append]) (by simp only [List.append_assoc, List.append_nil, List.nil_append]) hP hD hS dX5_week_2 (fun H locs hP hD hS => ?_)
  refine lv_astoreN (lv' := [(4, .null), (0, .ref (a5 0)), (1, .int p1), (2, .int p2), (3, .int p3)]) hx hb dX5_week_5 hl (by decide) rfl (fun ls hl => ?_)
  refine lv_aloadN hx hb dX5_week_7 (lv_at hl 0 rfl) ?_
  refine lv_ifnullN (tgt := 26) hx hb dX5_week_9 (by decide) ?_
  refine lv_iconst (v := -1) hx hb dX5_week_26 (by decide) ?_
  exact hret _ _ _ _ dX5_week_27 rfl hP hD hS
set_option maxRecDepth 100000 in
set_option maxHeartbeats 4000000 in
theorem c_X5_week_some (l : Launch) (K : Kx) (D : va_G) (C : Nat → ClassId) (a5 : Nat → Nat) (S5 : Nat → Int32) (a0 a2 a3 a4 : Nat → Nat) (h5 d5 : Nat) (f : Nat → Option Nat) (a1 : Nat → Nat) (S1 : Nat → Int32) (A1 : Nat → Nat → Int32) (p1 p2 p3 : Int32) (hno : hNo f p1 = some (a1 0)) (z : Int32 × (Nat → Int32)) (hF : F_X5_week S1 A1 p2 p3 = some z) : MetI l yX5_week wsX5_week rmX5_week K D (tyV C) (wX5 C a5 a0 a2 a3 a4 h5 d5 S5 ++ wXH C h5 f ++ wX1 C a1 S1 A1) [.ref (a5 0), .int p1, .int p2, .int p3] (wX5 C a5 a0 a2 a3 a4 h5 d5 S5 ++ wXH C h5 f ++ wX1 C a1 z.2 A1) z.1 := by
  refine met_int (cc := cX5_week) (maxL := 5) (ty := .int) (by decide +kernel) rfl (Nat.le_of_ble_eq_true rfl) ?_
  intro p e s m below meth c A Q ls ⟨hx, hb, hml, hown, hts, hK, hA, hZ⟩ hP hD hS hl hret
  have hown : s.vm.findClass RX5 = some m.cls := hown
  have hl : lv_has ls 5 [(0, .ref (a5 0)), (1, .int p1), (2, .int p2), (3, .int p3)] := hl
  unfold F_X5_week at hF
  refine lv_aload_n hx hb dX5_week_0 rfl (lv_at hl 0 rfl) ?_
  refine lv_iload_n hx hb dX5_week_1 rfl (lv_at hl 1 rfl) ?_
  refine callV_ref ([]) (wX1 C a1 S1 A1) (w' := wX5 C a5 a0 a2 a3 a4 h5 d5 S5 ++ wXH C h5 f ++ wX1 C a1 S1 A1) (As := [.int p1]) (rest := []) ⟨hx, hb, hml, hown, hts⟩ hK hA hZ (hno ▸ c_X5_hallNumbered l K D C a5 S5 a0 a2 a3 a4 h5 d5 f p1) (cwV 1 hts gX5_week_X5_hallNumbered rfl rfl rfl (by decide +kernel) ⟨Nat.le_of_ble_eq_true rfl, Nat.le_of_ble_eq_true rfl⟩) 0 rfl rfl rfl rfl hl.1 rfl (Nat.le_of_ble_eq_true rfl) ⟨Nat.zero_le _, Nat.zero_le _⟩ (by simp only [List.append_assoc, List.append_nil, List.nil_append]) (by simp only [List.append_assoc, List.append_nil, List.nil_append]) hP hD hS dX5_week_2 (fun H locs hP hD hS => ?_)
  refine lv_astore (lv' := [(4, .ref (a1 0)), (0, .ref (a5 0)), (1, .int p1), (2, .int p2), (3, .int p3)]) hx hb dX5_week_5 hl (by decide) rfl (fun ls hl => ?_)
  refine lv_aload hx hb dX5_week_7 (lv_at hl 0 rfl) ?_
  refine lv_ifnull hx hb dX5_week_9 ?_
  refine lv_iload_n hx hb dX5_week_12 rfl (lv_at hl 3 rfl) ?_
  obtain ⟨z1, fz1, hF⟩ := bd_at hF
  refine callS_int (As := [.int p2]) (rest := []) ⟨hx, hb, hml, hown, hts⟩ hK hA hZ (c_X5_isTold l K D C p2 z1 fz1) (va_cwS 1 hts gX5_week_X5_isTold rfl rfl rfl (by decide +kernel) ⟨Nat.le_of_ble_eq_true rfl, Nat.le_of_ble_eq_true rfl⟩) rfl hl.1 rfl (Nat.le_of_ble_eq_true rfl) ⟨Nat.zero_le _, Nat.zero_le _⟩ hP hS dX5_week_13 (fun H locs hP hS => ?_)
  refine lv_if_eq (tgt := 26) hx hb dX5_week_16 (by decide) (fun c1 => ?_) (fun c1 => ?_)
  · have hF := ifp hF c1
    refine lv_iconst (v := -1) hx hb dX5_week_26 (by decide) ?_
    cases hF
    exact hret _ _ _ _ dX5_week_27 rfl hP hD hS
  have hF := ifn hF c1
  refine lv_iload_n hx hb dX5_week_19 rfl (lv_at hl 4 rfl) ?_
  obtain ⟨z2, fz2, hF⟩ := bd_at hF
  refine callS_int (As := [.int p3]) (rest := []) ⟨hx, hb, hml, hown, hts⟩ hK hA hZ (c_X5_isTold l K D C p3 z2 fz2) (va_cwS 1 hts gX5_week_X5_isTold rfl rfl rfl (by decide +kernel) ⟨Nat.le_of_ble_eq_true rfl, Nat.le_of_ble_eq_true rfl⟩) rfl hl.1 rfl (Nat.le_of_ble_eq_true rfl) ⟨Nat.zero_le _, Nat.zero_le _⟩ hP hS dX5_week_20 (fun H locs hP hS => ?_)
  refine lv_if_ne (tgt := 28) hx hb dX5_week_23 (by decide) (fun c2 => ?_) (fun c2 => ?_)
  · have hF := ifn hF c2
    refine lv_aload hx hb dX5_week_28 (lv_at hl 0 rfl) ?_
    refine lv_iload_n hx hb dX5_week_30 rfl (lv_at hl 3 rfl) ?_
    refine lv_iload_n hx hb dX5_week_31 rfl (lv_at hl 4 rfl) ?_
    refine callV_int (wX5 C a5 a0 a2 a3 a4 h5 d5 S5 ++ wXH C h5 f) ([]) (w' := wX5 C a5 a0 a2 a3 a4 h5 d5 S5 ++ wXH C h5 f ++ wX1 C a1 z.2 A1) (As := [.int p2, .int p3]) (rest := []) ⟨hx, hb, hml, hown, hts⟩ hK hA hZ (c_X1_passWeek l K D C a1 S1 A1 p2 p3 z hF) (cwV 2 hts gX5_week_X1_passWeek rfl rfl rfl (by decide +kernel) ⟨Nat.le_of_ble_eq_true rfl, Nat.le_of_ble_eq_true rfl⟩) 0 rfl rfl rfl rfl hl.1 rfl (Nat.le_of_ble_eq_true rfl) ⟨Nat.zero_le _, Nat.zero_le _⟩ (by simp only [List.append_assoc, List.append_nil, List.nil_append]) (by simp only [List.append_assoc, List.append_nil, List.nil_append]) hP hD hS dX5_week_32 (fun H locs hP hD hS => ?_)
    exact hret _ _ _ _ dX5_week_35 rfl hP hD hS
  · have hF := ifp hF c2
    refine lv_iconst (v := -1) hx hb dX5_week_26 (by decide) ?_
    cases hF
    exact hret _ _ _ _ dX5_week_27 rfl hP hD hS
abbrev rmX5_hallOf : Room := { frames := 2, cells := 0, slots := 0, locals := 64 }
set_option maxRecDepth 100000 in
set_option maxHeartbeats 4000000 in
theorem c_X5_hallOf_none (l : Launch) (K : Kx) (D : va_G) (C : Nat → ClassId) (a5 : Nat → Nat) (S5 : Nat → Int32) (a0 a2 a3 a4 : Nat → Nat) (h5 d5 : Nat) (f : Nat → Option Nat) (p1 p2 : Int32) (hno : hNo f p1 = none) : MetI l yX5_hallOf wsX5_hallOf rmX5_hallOf K D (tyV C) (wX5 C a5 a0 a2 a3 a4 h5 d5 S5 ++ wXH C h5 f) [.ref (a5 0), .int p1, .int p2] (wX5 C a5 a0 a2 a3 a4 h5 d5 S5 ++ wXH C h5 f) (-1) := by
  refine met_int (cc := cX5_hallOf) (maxL := 4) (ty := .int) (by decide +kernel) rfl (Nat.le_of_ble_eq_true rfl) ?_
  intro p e s m below meth c A Q ls ⟨hx, hb, hml, hown, hts, hK, hA, hZ⟩ hP hD hS hl hret
  have hown : s.vm.findClass RX5 = some m.cls := hown
  have hl : lv_has ls 4 [(0, .ref (a5 0)), (1, .int p1), (2, .int p2)] := hl
  refine lv_aload_n hx hb dX5_hallOf_0 rfl (lv_at hl 0 rfl) ?_
  refine lv_iload_n hx hb dX5_hallOf_1 rfl (lv_at hl 1 rfl) ?_
  refine callV_ref ([]) ([]) (w' := wX5 C a5 a0 a2 a3 a4 h5 d5 S5 ++ wXH C h5 f) (As := [.int p1]) (rest := []) ⟨hx, hb, hml, hown, hts⟩ hK hA hZ (hno ▸ c_X5_hallNumbered l K D C a5 S5 a0 a2 a3 a4 h5 d5 f p1) (cwV 1 hts gX5_hallOf_X5_hallNumbered rfl rfl rfl (by decide +kernel) ⟨Nat.le_of_ble_eq_true rfl, Nat.le_of_ble_eq_true rfl⟩) 0 rfl rfl rfl rfl hl.1 rfl (Nat.le_of_ble_eq_true rfl) ⟨Nat.zero_le _, Nat.zero_le _⟩ (by simp only [List.append_assoc, List.append_nil, List.nil_append]) (by simp only [List.append_assoc, List.append_nil, List.nil_append]) hP hD hS dX5_hallOf_2 (fun H locs hP hD hS => ?_)
  refine lv_astore_nN (lv' := [(3, .null), (0, .ref (a5 0)), (1, .int p1), (2, .int p2)]) hx hb dX5_hallOf_5 rfl hl (by decide) rfl (fun ls hl => ?_)
  refine lv_aload_nN hx hb dX5_hallOf_6 rfl (lv_at hl 0 rfl) ?_
  refine lv_ifnonnullN hx hb dX5_hallOf_7 ?_
  refine lv_iconst (v := -1) hx hb dX5_hallOf_10 (by decide) ?_
  refine lv_goto (tgt := 19) hx hb dX5_hallOf_11 (by decide) ?_
  exact hret _ _ _ _ dX5_hallOf_19 rfl hP hD hS
set_option maxRecDepth 100000 in
set_option maxHeartbeats 4000000 in
theorem c_X5_hallOf_some (l : Launch) (K : Kx) (D : va_G) (C : Nat → ClassId) (a5 : Nat → Nat) (S5 : Nat → Int32) (a0 a2 a3 a4 : Nat → Nat) (h5 d5 : Nat) (f : Nat → Option Nat) (a1 : Nat → Nat) (S1 : Nat → Int32) (A1 : Nat → Nat → Int32) (p1 p2 : Int32) (hno : hNo f p1 = some (a1 0)) (z : Int32) (hF : F_X1_tell S1 p2 = some z) : MetI l yX5_hallOf wsX5_hallOf rmX5_hallOf K D (tyV C) (wX5 C a5 a0 a2 a3 a4 h5 d5 S5 ++ wXH C h5 f ++ wX1 C a1 S1 A1) [.ref (a5 0), .int p1, .int p2] (wX5 C a5 a0 a2 a3 a4 h5 d5 S5 ++ wXH C h5 f ++ wX1 C a1 S1 A1) z := by
  refine met_int (cc := cX5_hallOf) (maxL := 4) (ty := .int) (by decide +kernel) rfl (Nat.le_of_ble_eq_true rfl) ?_
  intro p e s m below meth c A Q ls ⟨hx, hb, hml, hown, hts, hK, hA, hZ⟩ hP hD hS hl hret
  have hown : s.vm.findClass RX5 = some m.cls := hown
  have hl : lv_has ls 4 [(0, .ref (a5 0)), (1, .int p1), (2, .int p2)] := hl
  refine lv_aload_n hx hb dX5_hallOf_0 rfl (lv_at hl 0 rfl) ?_
  refine lv_iload_n hx hb dX5_hallOf_1 rfl (lv_at hl 1 rfl) ?_
  refine callV_ref ([]) (wX1 C a1 S1 A1) (w' := wX5 C a5 a0 a2 a3 a4 h5 d5 S5 ++ wXH C h5 f ++ wX1 C a1 S1 A1) (As := [.int p1]) (rest := []) ⟨hx, hb, hml, hown, hts⟩ hK hA hZ (hno ▸ c_X5_hallNumbered l K D C a5 S5 a0 a2 a3 a4 h5 d5 f p1) (cwV 1 hts gX5_hallOf_X5_hallNumbered rfl rfl rfl (by decide +kernel) ⟨Nat.le_of_ble_eq_true rfl, Nat.le_of_ble_eq_true rfl⟩) 0 rfl rfl rfl rfl hl.1 rfl (Nat.le_of_ble_eq_true rfl) ⟨Nat.zero_le _, Nat.zero_le _⟩ (by simp only [List.append_assoc, List.append_nil, List.nil_append]) (by simp only [List.append_assoc, List.append_nil, List.nil_append]) hP hD hS dX5_hallOf_2 (fun H locs hP hD hS => ?_)
  refine lv_astore_n (lv' := [(3, .ref (a1 0)), (0, .ref (a5 0)), (1, .int p1), (2, .int p2)]) hx hb dX5_hallOf_5 rfl hl (by decide) rfl (fun ls hl => ?_)
  refine lv_aload_n hx hb dX5_hallOf_6 rfl (lv_at hl 0 rfl) ?_
  refine lv_ifnonnull (tgt := 14) hx hb dX5_hallOf_7 (by decide) ?_
  refine lv_aload_n hx hb dX5_hallOf_14 rfl (lv_at hl 0 rfl) ?_
  refine lv_iload_n hx hb dX5_hallOf_15 rfl (lv_at hl 3 rfl) ?_
  refine callV_int (wX5 C a5 a0 a2 a3 a4 h5 d5 S5 ++ wXH C h5 f) ([]) (w' := wX5 C a5 a0 a2 a3 a4 h5 d5 S5 ++ wXH C h5 f ++ wX1 C a1 S1 A1) (As := [.int p2]) (rest := []) ⟨hx, hb, hml, hown, hts⟩ hK hA hZ (c_X1_tell l K D C a1 S1 A1 p2 z hF) (cwV 1 hts gX5_hallOf_X1_tell rfl rfl rfl (by decide +kernel) ⟨Nat.le_of_ble_eq_true rfl, Nat.le_of_ble_eq_true rfl⟩) 0 rfl rfl rfl rfl hl.1 rfl (Nat.le_of_ble_eq_true rfl) ⟨Nat.zero_le _, Nat.zero_le _⟩ (by simp only [List.append_assoc, List.append_nil, List.nil_append]) (by simp only [List.append_assoc, List.append_nil, List.nil_append]) hP hD hS dX5_hallOf_16 (fun H locs hP hD hS => ?_)
  exact hret _ _ _ _ dX5_hallOf_19 rfl hP hD hS
