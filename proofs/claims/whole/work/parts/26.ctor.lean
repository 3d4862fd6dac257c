/-! constructors: the object's cell is there, with its defaults; behind it its arrays lie at addresses u -/
def qE {S : Type} (D : va_G) (tys : List (ClassId × FieldType)) (ok : S → Prop) (wOf : S → va_W) (A : Nat → Prop) : Array Value → State → Outcome → State → Prop := va_Qv ok (fun u t => va_P D vwCl (wOf u) t.heap ∧ va_K D vwCl tys t ∧ va_D A (wOf u)) A
def MetC {S : Type} (l : Launch) (y : MethodName) (ws : List Cond) (rm : Room) (K : Kx) (D : va_G) (tys : List (ClassId × FieldType)) (w : va_W) (av : List Value) (ok : S → Prop) (wOf : S → va_W) (mc ms : Nat) : Prop := ∀ sz : Nat, Met l y ws rm (pPre K D tys w av sz) (qE D tys ok wOf (va_A w sz)) mc ms (va_A w sz)
theorem met_ctor {S : Type} {l : Launch} {y : MethodName} {ws ws' : List Cond} {rm : Room} {K : Kx} {D : va_G} {tys : List (ClassId × FieldType)} {w : va_W} {av : List Value} {ok : S → Prop} {wOf : S → va_W} {mc ms : Nat} {cc : ByteArray} {maxL : Nat} (hy : plainFor y = true) (hw : ws = Cond.code y cc maxL none :: ws') (hlen : (lg_sl av).length ≤ maxL)
    (body : ∀ (p : Program) (e : Env) (s : State) (m : MethodId) (below : List Frame) (meth : Method) (c : Code) (A : Nat → Prop) (Q : State → Prop) (ls : Array Slot), Cx p s m c av ws cc y.cls maxL K D tys A → meth.name = y.name → va_P D vwCl w s.heap → va_D A w → va_S A s.heap s.heap [] → lv_has ls maxL (lv_args 0 av) →
      (∀ (u : S) (H : Heap) (locs : List Loc) (ls : Array Slot) (pc : Nat), decode cc pc = .ok (.return_, 1) → ok u → va_P D vwCl (wOf u) H → va_D A (wOf u) → va_S A s.heap H locs → W p l e rm s m av.toArray below meth c H locs mc ms Q (F0 m pc ls [])) →
      W p l e rm s m av.toArray below meth c s.heap [] 0 0 Q (F0 m 0 ls [])) : MetC l y ws rm K D tys w av ok wOf mc ms := by
  intro sz
  refine va_MetF (cc := cc) (maxL := maxL) (ret := none) hy hw ?_
  intro p e s m args below meth c s₁ B hml hv
  obtain ⟨rfl, hsz, hP, hK, hD0, hZ⟩ := hv
  subst hsz
  rw [lg_entry_eq]
  refine body p e s m below meth c (va_A w s.heap.size) _ _ ⟨B.exec, B.bytes, hml, findClass_of_methodNamed B.named, atoms_spec (ws := ws) B.pre, hK, fun q h => Or.inr h, hZ⟩ (name_of_methodNamed B.named B.method).1 hP hD0.self va_S.rf (lv_entry av hlen) ?_
  intro u H locs ls pc hd hok hP1 hD1 hS1
  have hlocks := B.notSynchronized
  exact W.vret B.exec B.bytes B.returns (fun t ht hW => ⟨⟨u, rfl, hok, by rw [ht]; exact hP1, va_K.moved hW.alike hK, hD1⟩, hS1.F ht⟩) hS1.2.2 hd
section CALLI
variable {p : Program} {l : Launch} {e : Env} {R : Room} {s : State} {m : MethodId} {args : Array Value} {below : List Frame} {meth : Method} {c : Code} {H : Heap} {locs : List Loc} {cells slots : Nat} {Q : State → Prop}
variable {y : MethodName} {bytes cc : ByteArray} {maxL nL n index pc mc ms : Nat} {ws : List Cond} {rm : Room} {Ts : List Cond} {own host : String} {b : Addr} {As rest st : List Value} {ls : Array Slot} {K : Kx} {D : va_G} {tys : List (ClassId × FieldType)} {wc : va_W} {A : Nat → Prop}
theorem callI_ctor {S : Type} {ok : S → Prop} {wOf : S → va_W} (X Y : va_W) (Sx : CallFix p m c cc nL s args Ts own) (hK : va_K D vwCl tys s) (hA : ∀ q, s.heap.size ≤ q → A q) (hZ : Amb K A s s.heap) (hM : MetC l y ws rm K D tys wc (.ref b :: As) ok wOf mc ms) (cw : CallB R s args own index y bytes maxL none ws rm mc ms n ∧ y.name = "<init>" ∧ (Cond.instanceMethod y).before args s = true)
    (hn : As.length = n) (hsize : ls.size = nL) (hst : st = As.reverse ++ .ref b :: rest) (hW : (rest.map fun v => v.category).sum ≤ 8) (hf : cells + mc ≤ R.cells ∧ slots + ms ≤ R.slots) {w : va_W} (hw1 : w = X ++ wc ++ Y) (hP : va_P D vwCl w H) (hD : va_D A w) (hS : va_S A s.heap H locs) (hdg : decode cc pc = .ok (.invokespecial index, 3))
    (kk : ∀ (u : S) (H1 : Heap) (locs1 : List Loc), ok u → va_P D vwCl (X ++ wOf u ++ Y) H1 → va_D A (X ++ wOf u ++ Y) → va_S A s.heap H1 locs1 → W p l e R s m args below meth c H1 locs1 (cells + mc) (slots + ms) Q (F0 m (pc + 3) ls rest)) : W p l e R s m args below meth c H locs cells slots Q (F0 m pc ls st) := by
  subst hw1
  have hPc : va_P D vwCl wc H := (pP_app.mp (pP_app.mp hP).1).2
  have hDc : va_D A wc := (pD_app.mp (pD_app.mp hD).1).2.1
  have hFc := pFree hD hS hA
  subst hst
  refine va_callv (A1 := va_A wc H.size) (va_runI (b := b) (As := As) (rest := rest) Sx (hM H.size) cw ⟨pPre_blind K D tys wc _ H.size, fun U hU hW => ⟨rfl, by rw [hU], by rw [hU]; exact hPc, va_K.moved hW.alike hK, hDc.weaken (fun _ _ _ _ => trivial), by rw [hU]; exact ((hZ.kept hS.2.1).narrow hFc).warm hW⟩⟩ rfl hn hsize rfl (lv_room hW) hdg hf) hS (fun q _ h => hFc q h) hFc (fun u t H1 locs1 ht hvm hw hB hz1 hk1 hS1 => ?_)
  obtain ⟨hP1, hK1, hD1⟩ := hB
  rw [ht] at hP1
  obtain ⟨hP2, hD2⟩ := pJoin hP hD hk1 hFc hP1 hD1
  exact kk u H1 locs1 hw hP2 hD2 hS1
theorem callIN_ctor {S : Type} {ok : S → Prop} {wOf : S → va_W} (X Y : va_W) (Sx : CallFix p m c cc nL s args Ts own) (hK : va_K D vwCl tys s) (hA : ∀ q, s.heap.size ≤ q → A q) (hZ : Amb K A s s.heap) (hM : MetC l y ws rm K D tys wc (.ref b :: As) ok wOf mc ms) (cw : va_CN R s args own index y host bytes maxL none ws rm mc ms n ∧ y.name = "<init>" ∧ (Cond.instanceMethod y).before args s = true)
    (hn : As.length = n) (hsize : ls.size = nL) (hst : st = As.reverse ++ .ref b :: rest) (hW : (rest.map fun v => v.category).sum ≤ 8) (hf : cells + mc ≤ R.cells ∧ slots + ms ≤ R.slots) {w : va_W} (hw1 : w = X ++ wc ++ Y) (hP : va_P D vwCl w H) (hD : va_D A w) (hS : va_S A s.heap H locs) (hdg : decode cc pc = .ok (.invokespecial index, 3))
    (kk : ∀ (u : S) (H1 : Heap) (locs1 : List Loc), ok u → va_P D vwCl (X ++ wOf u ++ Y) H1 → va_D A (X ++ wOf u ++ Y) → va_S A s.heap H1 locs1 → W p l e R s m args below meth c H1 locs1 (cells + mc) (slots + ms) Q (F0 m (pc + 3) ls rest)) : W p l e R s m args below meth c H locs cells slots Q (F0 m pc ls st) := by
  subst hw1
  have hPc : va_P D vwCl wc H := (pP_app.mp (pP_app.mp hP).1).2
  have hDc : va_D A wc := (pD_app.mp (pD_app.mp hD).1).2.1
  have hFc := pFree hD hS hA
  subst hst
  refine va_callv (A1 := va_A wc H.size) (va_runIN (b := b) (As := As) (rest := rest) Sx (hM H.size) cw ⟨pPre_blind K D tys wc _ H.size, fun U hU hW => ⟨rfl, by rw [hU], by rw [hU]; exact hPc, va_K.moved hW.alike hK, hDc.weaken (fun _ _ _ _ => trivial), by rw [hU]; exact ((hZ.kept hS.2.1).narrow hFc).warm hW⟩⟩ rfl hn hsize rfl (lv_room hW) hdg hf) hS (fun q _ h => hFc q h) hFc (fun u t H1 locs1 ht hvm hw hB hz1 hk1 hS1 => ?_)
  obtain ⟨hP1, hK1, hD1⟩ := hB
  rw [ht] at hP1
  obtain ⟨hP2, hD2⟩ := pJoin hP hD hk1 hFc hP1 hD1
  exact kk u H1 locs1 hw hP2 hD2 hS1
end CALLI
theorem tyE0 {C : Nat → ClassId} {D : va_G} {s : State} {cA : ClassId} (hK : va_K D vwCl (tyV C) s) (h : va_K D vwCl (tyV C ++ [(cA, .int)]) s) : cA = C 0 := Option.some.inj ((h.2 5 (cA, .int) rfl).2.symm.trans (hK.2 0 (C 0, .int) rfl).2)
theorem tyE1 {C : Nat → ClassId} {D : va_G} {s : State} {cA : ClassId} (hK : va_K D vwCl (tyV C) s) (h : va_K D vwCl (tyV C ++ [(cA, .byte)]) s) : cA = C 1 := Option.some.inj ((h.2 5 (cA, .byte) rfl).2.symm.trans (hK.2 1 (C 1, .byte) rfl).2)
theorem tyE2 {C : Nat → ClassId} {D : va_G} {s : State} {cA : ClassId} (hK : va_K D vwCl (tyV C) s) (h : va_K D vwCl (tyV C ++ [(cA, .boolean)]) s) : cA = C 2 := Option.some.inj ((h.2 5 (cA, .boolean) rfl).2.symm.trans (hK.2 2 (C 2, .boolean) rfl).2)
theorem tyE3 {C : Nat → ClassId} {D : va_G} {s : State} {cA : ClassId} (hK : va_K D vwCl (tyV C) s) (h : va_K D vwCl (tyV C ++ [(cA, .long)]) s) : cA = C 3 := Option.some.inj ((h.2 5 (cA, .long) rfl).2.symm.trans (hK.2 3 (C 3, .long) rfl).2)
theorem tyE4 {C : Nat → ClassId} {D : va_G} {s : State} {cA : ClassId} (hK : va_K D vwCl (tyV C) s) (h : va_K D vwCl (tyV C ++ [(cA, .object "PanoramaHouse$Hall")]) s) : cA = C 4 := by
  obtain ⟨k1, c1, h1, h2, h3, h4⟩ := (h.2 5 (cA, .object "PanoramaHouse$Hall") rfl).2
  obtain ⟨k2, c2, g1, g2, g3, g4⟩ := (hK.2 4 (C 4, .object "PanoramaHouse$Hall") rfl).2
  exact Option.some.inj (h4.symm.trans g4)
theorem haI (n : Nat) : ∀ cA : ClassId, vp_cell cA (n, .inl (fun _ => 0)) = arrV cA n (fun _ => defaultValue .int) := fun _ => rfl
theorem haB (n : Nat) : ∀ cA : ClassId, vp_cell cA (n, .inl (fun _ => 0)) = arrV cA n (fun _ => defaultValue .byte) := fun _ => rfl
theorem haZ (n : Nat) : ∀ cA : ClassId, vp_cell cA (n, .inl (fun _ => 0)) = arrV cA n (fun _ => defaultValue .boolean) := fun _ => rfl
theorem haJ (n : Nat) : ∀ cA : ClassId, vp_cell cA (n, .inr (.inl (fun _ => 0))) = arrV cA n (fun _ => defaultValue .long) := fun _ => rfl
