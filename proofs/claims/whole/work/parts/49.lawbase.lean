/-! for the law: worlds in another order, halls in any number, a call that may make cells -/
theorem pP_perm {D : va_G} {w1 w2 : va_W} {H : Heap} (h : List.Perm w1 w2) (hP : va_P D vwCl w1 H) : va_P D vwCl w2 H := pP_iff.mpr fun q hq => pP_iff.mp hP q (h.mem_iff.mpr hq)
theorem pD_nodup {A : Nat → Prop} {w : va_W} : va_D A w ↔ (w.map (fun q => q.1)).Nodup ∧ ∀ q ∈ w, A q.1 := by
  constructor
  · intro h
    refine ⟨?_, pD_mem h⟩
    rw [List.nodup_iff_pairwise_ne, List.pairwise_iff_getElem]
    intro i j hi hj hij e
    have hi' : i < w.length := by simpa using hi
    have hj' : j < w.length := by simpa using hj
    have := h.1 i j w[i] w[j] (List.getElem?_eq_getElem hi') (List.getElem?_eq_getElem hj') (by simpa using e)
    omega
  · intro h
    refine ⟨fun i j p q hp hq e => ?_, fun k q hk => h.2 q (List.mem_of_getElem? hk)⟩
    have hi : i < w.length := (List.getElem?_eq_some_iff.mp hp).1
    have hj : j < w.length := (List.getElem?_eq_some_iff.mp hq).1
    have ei : w[i] = p := (List.getElem?_eq_some_iff.mp hp).2
    have ej : w[j] = q := (List.getElem?_eq_some_iff.mp hq).2
    have hnd := h.1
    rw [List.nodup_iff_pairwise_ne, List.pairwise_iff_getElem] at hnd
    rcases Nat.lt_trichotomy i j with hl | hl | hl
    · exact (hnd i j (by simpa using hi) (by simpa using hj) hl (by simp only [List.getElem_map, ei, ej]; exact e)).elim
    · exact hl
    · exact (hnd j i (by simpa using hj) (by simpa using hi) hl (by simp only [List.getElem_map, ei, ej]; exact e.symm)).elim
theorem pD_perm {A : Nat → Prop} {w1 w2 : va_W} (h : List.Perm w1 w2) (hD : va_D A w1) : va_D A w2 := by
  rw [pD_nodup] at hD ⊢
  exact ⟨((h.map (fun q => q.1)).nodup_iff).mp hD.1, fun q hq => hD.2 q (h.mem_iff.mpr hq)⟩
abbrev HLt : Type := List ((Nat → Nat) × (Nat → Int32) × (Nat → Nat → Int32))
def hlW (C : Nat → ClassId) (HL : HLt) : va_W := HL.flatMap (fun h => wX1 C h.1 h.2.1 h.2.2)
theorem hlW_app (C : Nat → ClassId) (x y : HLt) : hlW C (x ++ y) = hlW C x ++ hlW C y := by simp [hlW, List.flatMap_append]
theorem hlW_one (C : Nat → ClassId) (h : (Nat → Nat) × (Nat → Int32) × (Nat → Nat → Int32)) : hlW C [h] = wX1 C h.1 h.2.1 h.2.2 := by simp [hlW]
section CALLE
variable {p : Program} {l : Launch} {e : Env} {R : Room} {s : State} {m : MethodId} {args : Array Value} {below : List Frame} {meth : Method} {c : Code} {H : Heap} {locs : List Loc} {cells slots : Nat} {Q : State → Prop}
variable {y : MethodName} {bytes cc : ByteArray} {maxL nL n index pc mc ms : Nat} {ret : Option FieldType} {ws : List Cond} {rm : Room} {Ts : List Cond} {own : String} {b : Addr} {As rest st : List Value} {ls : Array Slot} {K : Kx} {D : va_G} {tys : List (ClassId × FieldType)} {wc : va_W} {A : Nat → Prop}
theorem callV_intE {S : Type} {ok : Int32 → S → Prop} {wOf : S → va_W} (X Y : va_W) (Sx : CallFix p m c cc nL s args Ts own) (hK : va_K D vwCl tys s) (hA : ∀ q, s.heap.size ≤ q → A q) (hZ : Amb K A s s.heap) (hM : MetIE l y ws rm K D tys wc (.ref b :: As) ok wOf mc ms) (cw : CallW R s args own y.cls index y bytes maxL ret ws rm mc ms n) (q0 : Nat) {ci : Nat} {fs : List Value} {qc : vw_C} (he : wc[q0]? = some (b, .inr (ci, fs))) (hc : vwCl[ci]? = some qc) (hqc : qc.1 = y.cls)
    (hn : As.length = n) (hsize : ls.size = nL) (hst : st = As.reverse ++ .ref b :: rest) (hW : (rest.map fun v => v.category).sum ≤ 8) (hf : cells + mc ≤ R.cells ∧ slots + ms ≤ R.slots) {w : va_W} (hw1 : w = X ++ wc ++ Y) (hP : va_P D vwCl w H) (hD : va_D A w) (hS : va_S A s.heap H locs) (hdg : decode cc pc = .ok (.invokevirtual index, 3))
    (kk : ∀ (r : Int32) (u : S) (H1 : Heap) (locs1 : List Loc), ok r u → va_P D vwCl (X ++ wOf u ++ Y) H1 → va_D A (X ++ wOf u ++ Y) → va_S A s.heap H1 locs1 → W p l e R s m args below meth c H1 locs1 (cells + mc) (slots + ms) Q (F0 m (pc + 3) ls (.int r :: rest))) : W p l e R s m args below meth c H locs cells slots Q (F0 m pc ls st) := by
  subst hw1
  have hPc : va_P D vwCl wc H := (pP_app.mp (pP_app.mp hP).1).2
  have hDc : va_D A wc := (pD_app.mp (pD_app.mp hD).1).2.1
  have hFc := pFree hD hS hA
  subst hst
  refine va_calli (A1 := va_A wc H.size) (va_runV (b := b) (As := As) (rest := rest) Sx (hM H.size) cw ⟨pPre_blind K D tys wc _ H.size, hqc ▸ va_recv hK hPc hc he, fun U hU hW => ⟨rfl, by rw [hU], by rw [hU]; exact hPc, va_K.moved hW.alike hK, hDc.weaken (fun _ _ _ _ => trivial), by rw [hU]; exact ((hZ.kept hS.2.1).narrow hFc).warm hW⟩⟩ rfl hn hsize rfl (lv_room hW) hdg hf) hS (fun q _ h => hFc q h) hFc (fun r u t H1 locs1 ht hvm hw hB hz1 hk1 hS1 => ?_)
  obtain ⟨hP1, hK1, hD1⟩ := hB
  rw [ht] at hP1
  obtain ⟨hP2, hD2⟩ := pJoin hP hD hk1 hFc hP1 hD1
  exact kk r u H1 locs1 hw hP2 hD2 hS1
end CALLE
