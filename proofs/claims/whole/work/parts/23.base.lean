/-- the array classes, by number -/
abbrev tyV (C : Nat → ClassId) : List (ClassId × FieldType) := [(C 0, .int), (C 1, .byte), (C 2, .boolean), (C 3, .long), (C 4, .object "PanoramaHouse$Hall")]
def pPre (K : Kx) (D : va_G) (tys : List (ClassId × FieldType)) (w : va_W) (av : List Value) (sz : Nat) : Array Value → State → Prop := va_Pc av (fun U => U.heap.size = sz ∧ va_P D vwCl w U.heap ∧ va_K D vwCl tys U ∧ va_D (fun _ => True) w ∧ Amb K (va_A w sz) U U.heap)
def pB (D : va_G) (tys : List (ClassId × FieldType)) (w : va_W) (A : Nat → Prop) : Unit → State → Prop := fun _ t => va_P D vwCl w t.heap ∧ va_K D vwCl tys t ∧ va_D A w
def qI (D : va_G) (tys : List (ClassId × FieldType)) (w : va_W) (r : Int32) (A : Nat → Prop) : Array Value → State → Outcome → State → Prop := va_Qi (fun (x : Int32) (_ : Unit) => x = r) (pB D tys w A) A
def qL (D : va_G) (tys : List (ClassId × FieldType)) (w : va_W) (r : Int64) (A : Nat → Prop) : Array Value → State → Outcome → State → Prop := va_Ql (fun (x : Int64) (_ : Unit) => x = r) (pB D tys w A) A
def qV (D : va_G) (tys : List (ClassId × FieldType)) (w : va_W) (A : Nat → Prop) : Array Value → State → Outcome → State → Prop := va_Qv (fun (_ : Unit) => True) (pB D tys w A) A
def MetI (l : Launch) (y : MethodName) (ws : List Cond) (rm : Room) (K : Kx) (D : va_G) (tys : List (ClassId × FieldType)) (w : va_W) (av : List Value) (w' : va_W) (r : Int32) : Prop := ∀ sz : Nat, Met l y ws rm (pPre K D tys w av sz) (qI D tys w' r (va_A w sz)) 0 0 (va_A w sz)
def MetL (l : Launch) (y : MethodName) (ws : List Cond) (rm : Room) (K : Kx) (D : va_G) (tys : List (ClassId × FieldType)) (w : va_W) (av : List Value) (w' : va_W) (r : Int64) : Prop := ∀ sz : Nat, Met l y ws rm (pPre K D tys w av sz) (qL D tys w' r (va_A w sz)) 0 0 (va_A w sz)
def MetV (l : Launch) (y : MethodName) (ws : List Cond) (rm : Room) (K : Kx) (D : va_G) (tys : List (ClassId × FieldType)) (w : va_W) (av : List Value) (w' : va_W) : Prop := ∀ sz : Nat, Met l y ws rm (pPre K D tys w av sz) (qV D tys w' (va_A w sz)) 0 0 (va_A w sz)
/-- what a method's walk begins with -/
def Cx (p : Program) (s : State) (m : MethodId) (c : Code) (av : List Value) (ws : List Cond) (cc : ByteArray) (own : String) (n : Nat) (K : Kx) (D : va_G) (tys : List (ClassId × FieldType)) (A : Nat → Prop) : Prop :=
  p.tables.exec = Jvm.exec ∧ c.code = cc ∧ c.maxLocals = n ∧ s.vm.findClass own = some m.cls ∧ (∀ w ∈ ws, w.before av.toArray s = true) ∧ va_K D vwCl tys s ∧ (∀ q : Nat, s.heap.size ≤ q → A q) ∧ Amb K A s s.heap
theorem met_int {l : Launch} {y : MethodName} {ws ws' : List Cond} {rm : Room} {K : Kx} {D : va_G} {tys : List (ClassId × FieldType)} {w : va_W} {av : List Value} {w' : va_W} {r : Int32} {cc : ByteArray} {maxL : Nat} {ty : FieldType} (hy : plainFor y = true) (hw : ws = Cond.code y cc maxL (some ty) :: ws') (hlen : (lg_sl av).length ≤ maxL)
    (body : ∀ (p : Program) (e : Env) (s : State) (m : MethodId) (below : List Frame) (meth : Method) (c : Code) (A : Nat → Prop) (Q : State → Prop) (ls : Array Slot), Cx p s m c av ws cc y.cls maxL K D tys A → va_P D vwCl w s.heap → va_D A w → va_S A s.heap s.heap [] → lv_has ls maxL (lv_args 0 av) →
      (∀ (H : Heap) (locs : List Loc) (ls : Array Slot) (pc : Nat), decode cc pc = .ok (.ireturn, 1) → narrow ty (.int r) = .int r → va_P D vwCl w' H → va_D A w' → va_S A s.heap H locs → W p l e rm s m av.toArray below meth c H locs 0 0 Q (F0 m pc ls [.int r])) →
      W p l e rm s m av.toArray below meth c s.heap [] 0 0 Q (F0 m 0 ls [])) : MetI l y ws rm K D tys w av w' r := by
  intro sz
  refine va_MetF (cc := cc) (maxL := maxL) (ret := some ty) hy hw ?_
  intro p e s m args below meth c s₁ B hml hv
  obtain ⟨rfl, hsz, hP, hK, hD0, hZ⟩ := hv
  subst hsz
  rw [lg_entry_eq]
  refine body p e s m below meth c (va_A w s.heap.size) _ _ ⟨B.exec, B.bytes, hml, findClass_of_methodNamed B.named, atoms_spec (ws := ws) B.pre, hK, fun q h => Or.inr h, hZ⟩ hP hD0.self va_S.rf (lv_entry av hlen) ?_
  intro H locs ls pc hd hn hP1 hD1 hS1
  have hlocks := B.notSynchronized
  exact W.zret B.exec B.bytes B.returns hn (fun t ht hW => ⟨⟨r, (), rfl, rfl, by rw [ht]; exact hP1, va_K.moved hW.alike hK, hD1⟩, hS1.F ht⟩) hS1.2.2 hd
theorem met_long {l : Launch} {y : MethodName} {ws ws' : List Cond} {rm : Room} {K : Kx} {D : va_G} {tys : List (ClassId × FieldType)} {w : va_W} {av : List Value} {w' : va_W} {r : Int64} {cc : ByteArray} {maxL : Nat} (hy : plainFor y = true) (hw : ws = Cond.code y cc maxL (some .long) :: ws') (hlen : (lg_sl av).length ≤ maxL)
    (body : ∀ (p : Program) (e : Env) (s : State) (m : MethodId) (below : List Frame) (meth : Method) (c : Code) (A : Nat → Prop) (Q : State → Prop) (ls : Array Slot), Cx p s m c av ws cc y.cls maxL K D tys A → va_P D vwCl w s.heap → va_D A w → va_S A s.heap s.heap [] → lv_has ls maxL (lv_args 0 av) →
      (∀ (H : Heap) (locs : List Loc) (ls : Array Slot) (pc : Nat), decode cc pc = .ok (.lreturn, 1) → va_P D vwCl w' H → va_D A w' → va_S A s.heap H locs → W p l e rm s m av.toArray below meth c H locs 0 0 Q (F0 m pc ls [.long r])) →
      W p l e rm s m av.toArray below meth c s.heap [] 0 0 Q (F0 m 0 ls [])) : MetL l y ws rm K D tys w av w' r := by
  intro sz
  refine va_MetF (cc := cc) (maxL := maxL) (ret := some .long) hy hw ?_
  intro p e s m args below meth c s₁ B hml hv
  obtain ⟨rfl, hsz, hP, hK, hD0, hZ⟩ := hv
  subst hsz
  rw [lg_entry_eq]
  refine body p e s m below meth c (va_A w s.heap.size) _ _ ⟨B.exec, B.bytes, hml, findClass_of_methodNamed B.named, atoms_spec (ws := ws) B.pre, hK, fun q h => Or.inr h, hZ⟩ hP hD0.self va_S.rf (lv_entry av hlen) ?_
  intro H locs ls pc hd hP1 hD1 hS1
  have hlocks := B.notSynchronized
  exact W.lret B.exec B.bytes B.returns (fun t ht hW => ⟨⟨r, (), rfl, rfl, by rw [ht]; exact hP1, va_K.moved hW.alike hK, hD1⟩, hS1.F ht⟩) hS1.2.2 hd
theorem met_void {l : Launch} {y : MethodName} {ws ws' : List Cond} {rm : Room} {K : Kx} {D : va_G} {tys : List (ClassId × FieldType)} {w : va_W} {av : List Value} {w' : va_W} {cc : ByteArray} {maxL : Nat} (hy : plainFor y = true) (hw : ws = Cond.code y cc maxL none :: ws') (hlen : (lg_sl av).length ≤ maxL)
    (body : ∀ (p : Program) (e : Env) (s : State) (m : MethodId) (below : List Frame) (meth : Method) (c : Code) (A : Nat → Prop) (Q : State → Prop) (ls : Array Slot), Cx p s m c av ws cc y.cls maxL K D tys A → va_P D vwCl w s.heap → va_D A w → va_S A s.heap s.heap [] → lv_has ls maxL (lv_args 0 av) →
      (∀ (H : Heap) (locs : List Loc) (ls : Array Slot) (pc : Nat), decode cc pc = .ok (.return_, 1) → va_P D vwCl w' H → va_D A w' → va_S A s.heap H locs → W p l e rm s m av.toArray below meth c H locs 0 0 Q (F0 m pc ls [])) →
      W p l e rm s m av.toArray below meth c s.heap [] 0 0 Q (F0 m 0 ls [])) : MetV l y ws rm K D tys w av w' := by
  intro sz
  refine va_MetF (cc := cc) (maxL := maxL) (ret := none) hy hw ?_
  intro p e s m args below meth c s₁ B hml hv
  obtain ⟨rfl, hsz, hP, hK, hD0, hZ⟩ := hv
  subst hsz
  rw [lg_entry_eq]
  refine body p e s m below meth c (va_A w s.heap.size) _ _ ⟨B.exec, B.bytes, hml, findClass_of_methodNamed B.named, atoms_spec (ws := ws) B.pre, hK, fun q h => Or.inr h, hZ⟩ hP hD0.self va_S.rf (lv_entry av hlen) ?_
  intro H locs ls pc hd hP1 hD1 hS1
  have hlocks := B.notSynchronized
  exact W.vret B.exec B.bytes B.returns (fun t ht hW => ⟨⟨(), rfl, trivial, by rw [ht]; exact hP1, va_K.moved hW.alike hK, hD1⟩, hS1.F ht⟩) hS1.2.2 hd
theorem pPre_blind (K : Kx) (D : va_G) (tys : List (ClassId × FieldType)) (w : va_W) (av : List Value) (sz : Nat) : FrameBlind (pPre K D tys w av sz) := fun a U g mk q => by
  obtain ⟨q0, q1, qP, qK, qD, qZ⟩ := q
  exact ⟨q0, q1, qP, va_K.moved (u := U) (U := U.calling g mk a) (Vm.Alike.refl U.vm) qK, qD, Amb.same (u := U) (U := U.calling g mk a) rfl qZ⟩
/-- worlds by their members -/
theorem pP_iff {D : va_G} {cl : List vw_C} {w : va_W} {H : Heap} : va_P D cl w H ↔ ∀ q ∈ w, va_at D cl q H := by
  constructor
  · intro h q hq
    obtain ⟨k, hk⟩ := List.getElem?_of_mem hq
    exact h k q hk
  · intro h k q hk
    exact h q (List.mem_of_getElem? hk)
theorem pP_app {D : va_G} {cl : List vw_C} {x y : va_W} {H : Heap} : va_P D cl (x ++ y) H ↔ va_P D cl x H ∧ va_P D cl y H := by
  rw [pP_iff, pP_iff, pP_iff]
  constructor
  · intro h
    exact ⟨fun q hq => h q (List.mem_append_left _ hq), fun q hq => h q (List.mem_append_right _ hq)⟩
  · intro h q hq
    rcases List.mem_append.mp hq with h1 | h1
    · exact h.1 q h1
    · exact h.2 q h1
theorem pD_app {A : Nat → Prop} {x y : va_W} : va_D A (x ++ y) ↔ va_D A x ∧ va_D A y ∧ ∀ p ∈ x, ∀ q ∈ y, p.1 ≠ q.1 := by
  constructor
  · intro h
    refine ⟨⟨fun i j p q hp hq e => ?_, fun k q hk => ?_⟩, ⟨fun i j p q hp hq e => ?_, fun k q hk => ?_⟩, fun p hp q hq e => ?_⟩
    · have hi : i < x.length := (List.getElem?_eq_some_iff.mp hp).1
      have hj : j < x.length := (List.getElem?_eq_some_iff.mp hq).1
      exact h.1 i j p q (by rw [List.getElem?_append_left hi]; exact hp) (by rw [List.getElem?_append_left hj]; exact hq) e
    · have hk' : k < x.length := (List.getElem?_eq_some_iff.mp hk).1
      exact h.2 k q (by rw [List.getElem?_append_left hk']; exact hk)
    · have := h.1 (x.length + i) (x.length + j) p q (by rw [List.getElem?_append_right (Nat.le_add_right _ _)]; simpa using hp) (by rw [List.getElem?_append_right (Nat.le_add_right _ _)]; simpa using hq) e
      omega
    · exact h.2 (x.length + k) q (by rw [List.getElem?_append_right (Nat.le_add_right _ _)]; simpa using hk)
    · obtain ⟨i, hi⟩ := List.getElem?_of_mem hp
      obtain ⟨j, hj⟩ := List.getElem?_of_mem hq
      have hi' : i < x.length := (List.getElem?_eq_some_iff.mp hi).1
      have := h.1 i (x.length + j) p q (by rw [List.getElem?_append_left hi']; exact hi) (by rw [List.getElem?_append_right (Nat.le_add_right _ _)]; simpa using hj) e
      omega
  · intro h
    exact va_D.app h.1 h.2.1 (fun i j p q hp hq => h.2.2 p (List.mem_of_getElem? hp) q (List.mem_of_getElem? hq))
theorem pA_iff {w : va_W} {sz a : Nat} : va_A w sz a ↔ (∃ q ∈ w, q.1 = a) ∨ sz ≤ a := by
  constructor
  · intro h
    rcases h with ⟨k, e, hk⟩ | h
    · exact Or.inl ⟨_, List.mem_of_getElem? hk, rfl⟩
    · exact Or.inr h
  · intro h
    rcases h with ⟨q, hq, rfl⟩ | h
    · obtain ⟨k, hk⟩ := List.getElem?_of_mem hq
      exact Or.inl ⟨k, q.2, hk⟩
    · exact Or.inr h
theorem pD_mem {A : Nat → Prop} {w : va_W} (h : va_D A w) : ∀ q ∈ w, A q.1 := fun q hq => by
  obtain ⟨k, hk⟩ := List.getElem?_of_mem hq
  exact h.2 k q hk
/-- the callee's cells go into the caller's own -/
theorem pFree {A : Nat → Prop} {X wc Y : va_W} {H0 H : Heap} {locs : List Loc} (hD : va_D A (X ++ wc ++ Y)) (hS : va_S A H0 H locs) (hA : ∀ q, H0.size ≤ q → A q) : ∀ q, va_A wc H.size q → A q := by
  intro q h
  rcases pA_iff.mp h with ⟨e, he, rfl⟩ | h
  · exact pD_mem hD e (List.mem_append_left _ (List.mem_append_right _ he))
  · exact hA q (Nat.le_trans hS.1 h)
theorem pJoin {D : va_G} {A : Nat → Prop} {X wc Y w1 : va_W} {H H1 : Heap} (hP : va_P D vwCl (X ++ wc ++ Y) H) (hD : va_D A (X ++ wc ++ Y))
    (hk : ∀ q : Nat, q < H.size → ¬ va_A wc H.size q → H1[q]? = H[q]?) (hF : ∀ q, va_A wc H.size q → A q) (hP1 : va_P D vwCl w1 H1) (hD1 : va_D (va_A wc H.size) w1) : va_P D vwCl (X ++ w1 ++ Y) H1 ∧ va_D A (X ++ w1 ++ Y) := by
  obtain ⟨hPXc, hPY⟩ := pP_app.mp hP
  obtain ⟨hPX, hPc⟩ := pP_app.mp hPXc
  obtain ⟨hDXc, hDY, hxy⟩ := pD_app.mp hD
  obtain ⟨hDX, hDc, hxc⟩ := pD_app.mp hDXc
  have nX : ∀ q ∈ X, q.1 < H.size ∧ ¬ va_A wc H.size q.1 := by
    intro q hq
    have hl := (pP_iff.mp hPX q hq).lt
    refine ⟨hl, fun h => ?_⟩
    rcases pA_iff.mp h with ⟨r, hr, e⟩ | h
    · exact hxc q hq r hr e.symm
    · omega
  have nY : ∀ q ∈ Y, q.1 < H.size ∧ ¬ va_A wc H.size q.1 := by
    intro q hq
    have hl := (pP_iff.mp hPY q hq).lt
    refine ⟨hl, fun h => ?_⟩
    rcases pA_iff.mp h with ⟨r, hr, e⟩ | h
    · exact hxy r (List.mem_append_right _ hr) q hq e
    · omega
  have m1 : ∀ q ∈ w1, va_A wc H.size q.1 := pD_mem hD1
  refine ⟨pP_app.mpr ⟨pP_app.mpr ⟨pP_iff.mpr fun q hq => ?_, hP1⟩, pP_iff.mpr fun q hq => ?_⟩, pD_app.mpr ⟨pD_app.mpr ⟨hDX, ⟨hD1.1, fun k q h => hF _ (hD1.2 k q h)⟩, fun p hp q hq e => ?_⟩, hDY, fun p hp q hq e => ?_⟩⟩
  · exact (pP_iff.mp hPX q hq).kept (hk q.1 (nX q hq).1 (nX q hq).2)
  · exact (pP_iff.mp hPY q hq).kept (hk q.1 (nY q hq).1 (nY q hq).2)
  · exact (nX p hp).2 (by rw [e]; exact m1 q hq)
  · rcases List.mem_append.mp hp with h | h
    · exact hxy p (List.mem_append_left _ h) q hq e
    · exact (nY q hq).2 (by rw [← e]; exact m1 p h)
section CALLS
variable {p : Program} {l : Launch} {e : Env} {R : Room} {s : State} {m : MethodId} {args : Array Value} {below : List Frame} {meth : Method} {c : Code} {H : Heap} {locs : List Loc} {cells slots : Nat} {Q : State → Prop}
variable {y : MethodName} {bytes cc : ByteArray} {maxL nL n index pc : Nat} {ret : Option FieldType} {ws : List Cond} {rm : Room} {Ts : List Cond} {own : String} {b : Addr} {As rest st : List Value} {ls : Array Slot} {K : Kx} {D : va_G} {tys : List (ClassId × FieldType)} {wc wc' : va_W} {A : Nat → Prop}
theorem callV_int (X Y : va_W) {r : Int32} (S : CallFix p m c cc nL s args Ts own) (hK : va_K D vwCl tys s) (hA : ∀ q, s.heap.size ≤ q → A q) (hZ : Amb K A s s.heap) (hM : MetI l y ws rm K D tys wc (.ref b :: As) wc' r) (cw : CallW R s args own y.cls index y bytes maxL ret ws rm 0 0 n) (q0 : Nat) {ci : Nat} {fs : List Value} {qc : vw_C} (he : wc[q0]? = some (b, .inr (ci, fs))) (hc : vwCl[ci]? = some qc) (hqc : qc.1 = y.cls)
    (hn : As.length = n) (hsize : ls.size = nL) (hst : st = As.reverse ++ .ref b :: rest) (hW : (rest.map fun v => v.category).sum ≤ 8) (hf : cells ≤ R.cells ∧ slots ≤ R.slots) {w w' : va_W} (hw1 : w = X ++ wc ++ Y) (hw2 : w' = X ++ wc' ++ Y) (hP : va_P D vwCl w H) (hD : va_D A w) (hS : va_S A s.heap H locs) (hdg : decode cc pc = .ok (.invokevirtual index, 3))
    (kk : ∀ (H1 : Heap) (locs1 : List Loc), va_P D vwCl w' H1 → va_D A w' → va_S A s.heap H1 locs1 → W p l e R s m args below meth c H1 locs1 cells slots Q (F0 m (pc + 3) ls (.int r :: rest))) : W p l e R s m args below meth c H locs cells slots Q (F0 m pc ls st) := by
  subst hw1 hw2
  have hPc : va_P D vwCl wc H := (pP_app.mp (pP_app.mp hP).1).2
  have hDc : va_D A wc := (pD_app.mp (pD_app.mp hD).1).2.1
  have hFc := pFree hD hS hA
  subst hst
  refine va_calli (A1 := va_A wc H.size) (va_runV (b := b) (As := As) (rest := rest) S (hM H.size) cw ⟨pPre_blind K D tys wc _ H.size, hqc ▸ va_recv hK hPc hc he, fun U hU hW => ⟨rfl, by rw [hU], by rw [hU]; exact hPc, va_K.moved hW.alike hK, hDc.weaken (fun _ _ _ _ => trivial), by rw [hU]; exact ((hZ.kept hS.2.1).narrow hFc).warm hW⟩⟩ rfl hn hsize rfl (lv_room hW) hdg hf) hS (fun q _ h => hFc q h) hFc (fun r1 u t H1 locs1 ht hvm hw hB hz1 hk1 hS1 => ?_)
  obtain ⟨hP1, hK1, hD1⟩ := hB
  rw [ht] at hP1
  obtain ⟨hP2, hD2⟩ := pJoin hP hD hk1 hFc hP1 hD1
  rw [hw]
  exact kk H1 locs1 hP2 hD2 hS1
theorem callV_long (X Y : va_W) {r : Int64} (S : CallFix p m c cc nL s args Ts own) (hK : va_K D vwCl tys s) (hA : ∀ q, s.heap.size ≤ q → A q) (hZ : Amb K A s s.heap) (hM : MetL l y ws rm K D tys wc (.ref b :: As) wc' r) (cw : CallW R s args own y.cls index y bytes maxL ret ws rm 0 0 n) (q0 : Nat) {ci : Nat} {fs : List Value} {qc : vw_C} (he : wc[q0]? = some (b, .inr (ci, fs))) (hc : vwCl[ci]? = some qc) (hqc : qc.1 = y.cls)
    (hn : As.length = n) (hsize : ls.size = nL) (hst : st = As.reverse ++ .ref b :: rest) (hW : (rest.map fun v => v.category).sum ≤ 8) (hf : cells ≤ R.cells ∧ slots ≤ R.slots) {w w' : va_W} (hw1 : w = X ++ wc ++ Y) (hw2 : w' = X ++ wc' ++ Y) (hP : va_P D vwCl w H) (hD : va_D A w) (hS : va_S A s.heap H locs) (hdg : decode cc pc = .ok (.invokevirtual index, 3))
    (kk : ∀ (H1 : Heap) (locs1 : List Loc), va_P D vwCl w' H1 → va_D A w' → va_S A s.heap H1 locs1 → W p l e R s m args below meth c H1 locs1 cells slots Q (F0 m (pc + 3) ls (.long r :: rest))) : W p l e R s m args below meth c H locs cells slots Q (F0 m pc ls st) := by
  subst hw1 hw2
  have hPc : va_P D vwCl wc H := (pP_app.mp (pP_app.mp hP).1).2
  have hDc : va_D A wc := (pD_app.mp (pD_app.mp hD).1).2.1
  have hFc := pFree hD hS hA
  subst hst
  refine va_calll (A1 := va_A wc H.size) (va_runV (b := b) (As := As) (rest := rest) S (hM H.size) cw ⟨pPre_blind K D tys wc _ H.size, hqc ▸ va_recv hK hPc hc he, fun U hU hW => ⟨rfl, by rw [hU], by rw [hU]; exact hPc, va_K.moved hW.alike hK, hDc.weaken (fun _ _ _ _ => trivial), by rw [hU]; exact ((hZ.kept hS.2.1).narrow hFc).warm hW⟩⟩ rfl hn hsize rfl (lv_room hW) hdg hf) hS (fun q _ h => hFc q h) hFc (fun r1 u t H1 locs1 ht hvm hw hB hz1 hk1 hS1 => ?_)
  obtain ⟨hP1, hK1, hD1⟩ := hB
  rw [ht] at hP1
  obtain ⟨hP2, hD2⟩ := pJoin hP hD hk1 hFc hP1 hD1
  rw [hw]
  exact kk H1 locs1 hP2 hD2 hS1
theorem callV_void (X Y : va_W) (S : CallFix p m c cc nL s args Ts own) (hK : va_K D vwCl tys s) (hA : ∀ q, s.heap.size ≤ q → A q) (hZ : Amb K A s s.heap) (hM : MetV l y ws rm K D tys wc (.ref b :: As) wc') (cw : CallW R s args own y.cls index y bytes maxL ret ws rm 0 0 n) (q0 : Nat) {ci : Nat} {fs : List Value} {qc : vw_C} (he : wc[q0]? = some (b, .inr (ci, fs))) (hc : vwCl[ci]? = some qc) (hqc : qc.1 = y.cls)
    (hn : As.length = n) (hsize : ls.size = nL) (hst : st = As.reverse ++ .ref b :: rest) (hW : (rest.map fun v => v.category).sum ≤ 8) (hf : cells ≤ R.cells ∧ slots ≤ R.slots) {w w' : va_W} (hw1 : w = X ++ wc ++ Y) (hw2 : w' = X ++ wc' ++ Y) (hP : va_P D vwCl w H) (hD : va_D A w) (hS : va_S A s.heap H locs) (hdg : decode cc pc = .ok (.invokevirtual index, 3))
    (kk : ∀ (H1 : Heap) (locs1 : List Loc), va_P D vwCl w' H1 → va_D A w' → va_S A s.heap H1 locs1 → W p l e R s m args below meth c H1 locs1 cells slots Q (F0 m (pc + 3) ls rest)) : W p l e R s m args below meth c H locs cells slots Q (F0 m pc ls st) := by
  subst hw1 hw2
  have hPc : va_P D vwCl wc H := (pP_app.mp (pP_app.mp hP).1).2
  have hDc : va_D A wc := (pD_app.mp (pD_app.mp hD).1).2.1
  have hFc := pFree hD hS hA
  subst hst
  refine va_callv (A1 := va_A wc H.size) (va_runV (b := b) (As := As) (rest := rest) S (hM H.size) cw ⟨pPre_blind K D tys wc _ H.size, hqc ▸ va_recv hK hPc hc he, fun U hU hW => ⟨rfl, by rw [hU], by rw [hU]; exact hPc, va_K.moved hW.alike hK, hDc.weaken (fun _ _ _ _ => trivial), by rw [hU]; exact ((hZ.kept hS.2.1).narrow hFc).warm hW⟩⟩ rfl hn hsize rfl (lv_room hW) hdg hf) hS (fun q _ h => hFc q h) hFc (fun u t H1 locs1 ht hvm hw hB hz1 hk1 hS1 => ?_)
  obtain ⟨hP1, hK1, hD1⟩ := hB
  rw [ht] at hP1
  obtain ⟨hP2, hD2⟩ := pJoin hP hD hk1 hFc hP1 hD1
  exact kk H1 locs1 hP2 hD2 hS1
/-- a static method that touches no cell -/
theorem pJoin0 {D : va_G} {A : Nat → Prop} {w : va_W} {H H1 : Heap} (hP : va_P D vwCl w H) (hk : ∀ q : Nat, q < H.size → ¬ va_A [] H.size q → H1[q]? = H[q]?) : va_P D vwCl w H1 :=
  pP_iff.mpr fun q hq => by
    have hl := (pP_iff.mp hP q hq).lt
    exact (pP_iff.mp hP q hq).kept (hk q.1 hl (fun h => by
      rcases pA_iff.mp h with ⟨r, hr, _⟩ | h
      · cases hr
      · omega))
theorem pNil {D : va_G} {H : Heap} : va_P D vwCl [] H := fun k q h => by simp at h
theorem pNilD {A : Nat → Prop} : va_D A [] := ⟨fun i j p q h => by simp at h, fun k q h => by simp at h⟩
theorem callS_int {w : va_W} {r : Int32} (S : CallFix p m c cc nL s args Ts own) (hK : va_K D vwCl tys s) (hA : ∀ q, s.heap.size ≤ q → A q) (hZ : Amb K A s s.heap) (hM : MetI l y ws rm K D tys [] As [] r) (cw : CallB R s args own index y bytes maxL ret ws rm 0 0 n ∧ (Cond.static y).before args s = true)
    (hn : As.length = n) (hsize : ls.size = nL) (hst : st = As.reverse ++ rest) (hW : (rest.map fun v => v.category).sum ≤ 8) (hf : cells ≤ R.cells ∧ slots ≤ R.slots) (hP : va_P D vwCl w H) (hS : va_S A s.heap H locs) (hdg : decode cc pc = .ok (.invokestatic index, 3))
    (kk : ∀ (H1 : Heap) (locs1 : List Loc), va_P D vwCl w H1 → va_S A s.heap H1 locs1 → W p l e R s m args below meth c H1 locs1 cells slots Q (F0 m (pc + 3) ls (.int r :: rest))) : W p l e R s m args below meth c H locs cells slots Q (F0 m pc ls st) := by
  have hFc : ∀ q, va_A [] H.size q → A q := fun q h => by
    rcases pA_iff.mp h with ⟨x, hx, _⟩ | h
    · cases hx
    · exact hA q (Nat.le_trans hS.1 h)
  subst hst
  refine va_calli (A1 := va_A [] H.size) (va_runS (As := As) (rest := rest) S (hM H.size) cw ⟨pPre_blind K D tys [] _ H.size, fun U hU hW => ⟨rfl, by rw [hU], pNil, va_K.moved hW.alike hK, pNilD, by rw [hU]; exact ((hZ.kept hS.2.1).narrow hFc).warm hW⟩⟩ rfl hn hsize rfl (lv_room hW) hdg hf) hS (fun q _ h => hFc q h) hFc (fun r1 u t H1 locs1 ht hvm hw hB hz1 hk1 hS1 => ?_)
  rw [hw]
  exact kk H1 locs1 (pJoin0 (A := A) hP hk1) hS1
theorem callSN_int {host : String} {w : va_W} {r : Int32} (S : CallFix p m c cc nL s args Ts own) (hK : va_K D vwCl tys s) (hA : ∀ q, s.heap.size ≤ q → A q) (hZ : Amb K A s s.heap) (hM : MetI l y ws rm K D tys [] As [] r) (cw : va_CN R s args own index y host bytes maxL ret ws rm 0 0 n ∧ (Cond.static y).before args s = true ∧ True)
    (hn : As.length = n) (hsize : ls.size = nL) (hst : st = As.reverse ++ rest) (hW : (rest.map fun v => v.category).sum ≤ 8) (hf : cells ≤ R.cells ∧ slots ≤ R.slots) (hP : va_P D vwCl w H) (hS : va_S A s.heap H locs) (hdg : decode cc pc = .ok (.invokestatic index, 3))
    (kk : ∀ (H1 : Heap) (locs1 : List Loc), va_P D vwCl w H1 → va_S A s.heap H1 locs1 → W p l e R s m args below meth c H1 locs1 cells slots Q (F0 m (pc + 3) ls (.int r :: rest))) : W p l e R s m args below meth c H locs cells slots Q (F0 m pc ls st) := by
  have hFc : ∀ q, va_A [] H.size q → A q := fun q h => by
    rcases pA_iff.mp h with ⟨x, hx, _⟩ | h
    · cases hx
    · exact hA q (Nat.le_trans hS.1 h)
  subst hst
  refine va_calli (A1 := va_A [] H.size) (va_runSN (As := As) (rest := rest) S (hM H.size) cw ⟨pPre_blind K D tys [] _ H.size, fun U hU hW => ⟨rfl, by rw [hU], pNil, va_K.moved hW.alike hK, pNilD, by rw [hU]; exact ((hZ.kept hS.2.1).narrow hFc).warm hW⟩⟩ rfl hn hsize rfl (lv_room hW) hdg hf) hS (fun q _ h => hFc q h) hFc (fun r1 u t H1 locs1 ht hvm hw hB hz1 hk1 hS1 => ?_)
  rw [hw]
  exact kk H1 locs1 (pJoin0 (A := A) hP hk1) hS1
end CALLS
