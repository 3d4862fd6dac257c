section
-- ===== PART A: goes FIRST, ahead of the names: the tables' words, and 'selects' of the private methods out of them =====
/-- a private method of a class that the tables say can be made, by its rows of tables_1 -/
def lw_okq (q : MethodName × Nat) : Prop := (q.1.cls ≠ "java/lang/invoke/MethodHandle" ∧ q.1.cls ≠ "java/lang/invoke/VarHandle") ∧ Cond.instantiable q.1.cls q.2 ∈ tables_1 ∧ Cond.privateMethod q.1 ∈ tables_1 ∧ Cond.instanceMethod q.1 ∈ tables_1
theorem lw_p0 : lw_okq (⟨"PanoramaHouse$Round", "colourShown", "(III)I"⟩, 2) := ⟨⟨by decide +kernel, by decide +kernel⟩, List.mem_of_getElem? (i := 22) (by decide +kernel), List.mem_of_getElem? (i := 235) (by decide +kernel), List.mem_of_getElem? (i := 236) (by decide +kernel)⟩
theorem lw_p1 : lw_okq (⟨"PanoramaHouse$Round", "colourInStrip", "(III)I"⟩, 2) := ⟨⟨by decide +kernel, by decide +kernel⟩, List.mem_of_getElem? (i := 22) (by decide +kernel), List.mem_of_getElem? (i := 239) (by decide +kernel), List.mem_of_getElem? (i := 240) (by decide +kernel)⟩
theorem lw_p2 : lw_okq (⟨"PanoramaHouse$Paintwork", "isGang", "(I)Z"⟩, 12) := ⟨⟨by decide +kernel, by decide +kernel⟩, List.mem_of_getElem? (i := 37) (by decide +kernel), List.mem_of_getElem? (i := 323) (by decide +kernel), List.mem_of_getElem? (i := 324) (by decide +kernel)⟩
theorem lw_p3 : lw_okq (⟨"PanoramaHouse$Paintwork", "firstCoatWork", "(I)I"⟩, 12) := ⟨⟨by decide +kernel, by decide +kernel⟩, List.mem_of_getElem? (i := 37) (by decide +kernel), List.mem_of_getElem? (i := 328) (by decide +kernel), List.mem_of_getElem? (i := 329) (by decide +kernel)⟩
theorem lw_p4 : lw_okq (⟨"PanoramaHouse$Paintwork", "workADay", "(II)V"⟩, 12) := ⟨⟨by decide +kernel, by decide +kernel⟩, List.mem_of_getElem? (i := 37) (by decide +kernel), List.mem_of_getElem? (i := 345) (by decide +kernel), List.mem_of_getElem? (i := 346) (by decide +kernel)⟩
theorem lw_p5 : lw_okq (⟨"PanoramaHouse$Paintwork", "endCoat", "(II)V"⟩, 12) := ⟨⟨by decide +kernel, by decide +kernel⟩, List.mem_of_getElem? (i := 37) (by decide +kernel), List.mem_of_getElem? (i := 349) (by decide +kernel), List.mem_of_getElem? (i := 350) (by decide +kernel)⟩
theorem lw_p6 : lw_okq (⟨"PanoramaHouse$Paintwork", "leastBelow", "(IIII)I"⟩, 12) := ⟨⟨by decide +kernel, by decide +kernel⟩, List.mem_of_getElem? (i := 37) (by decide +kernel), List.mem_of_getElem? (i := 370) (by decide +kernel), List.mem_of_getElem? (i := 371) (by decide +kernel)⟩
theorem lw_p7 : lw_okq (⟨"PanoramaHouse$Paintwork", "mostDays", "(I)I"⟩, 12) := ⟨⟨by decide +kernel, by decide +kernel⟩, List.mem_of_getElem? (i := 37) (by decide +kernel), List.mem_of_getElem? (i := 374) (by decide +kernel), List.mem_of_getElem? (i := 375) (by decide +kernel)⟩
theorem lw_p8 : lw_okq (⟨"PanoramaHouse$Paintwork", "daysOf", "(I)I"⟩, 12) := ⟨⟨by decide +kernel, by decide +kernel⟩, List.mem_of_getElem? (i := 37) (by decide +kernel), List.mem_of_getElem? (i := 378) (by decide +kernel), List.mem_of_getElem? (i := 379) (by decide +kernel)⟩
theorem lw_p9 : lw_okq (⟨"PanoramaHouse$ContractReader", "takeFour", "(I)V"⟩, 6) := ⟨⟨by decide +kernel, by decide +kernel⟩, List.mem_of_getElem? (i := 80) (by decide +kernel), List.mem_of_getElem? (i := 391) (by decide +kernel), List.mem_of_getElem? (i := 392) (by decide +kernel)⟩
theorem lw_p10 : lw_okq (⟨"PanoramaHouse$ContractReader", "advance", "()V"⟩, 6) := ⟨⟨by decide +kernel, by decide +kernel⟩, List.mem_of_getElem? (i := 80) (by decide +kernel), List.mem_of_getElem? (i := 412) (by decide +kernel), List.mem_of_getElem? (i := 413) (by decide +kernel)⟩
theorem lw_p11 : lw_okq (⟨"PanoramaHouse$ContractReader", "byteAt", "(I)I"⟩, 6) := ⟨⟨by decide +kernel, by decide +kernel⟩, List.mem_of_getElem? (i := 80) (by decide +kernel), List.mem_of_getElem? (i := 416) (by decide +kernel), List.mem_of_getElem? (i := 417) (by decide +kernel)⟩
theorem lw_p12 : lw_okq (⟨"PanoramaHouse$ContractReader", "readStatement", "(LPanoramaHouse$Hall;)Z"⟩, 6) := ⟨⟨by decide +kernel, by decide +kernel⟩, List.mem_of_getElem? (i := 80) (by decide +kernel), List.mem_of_getElem? (i := 423) (by decide +kernel), List.mem_of_getElem? (i := 424) (by decide +kernel)⟩
theorem lw_p13 : lw_okq (⟨"PanoramaHouse$ContractReader", "isWord", "(Ljava/lang/String;)Z"⟩, 6) := ⟨⟨by decide +kernel, by decide +kernel⟩, List.mem_of_getElem? (i := 80) (by decide +kernel), List.mem_of_getElem? (i := 428) (by decide +kernel), List.mem_of_getElem? (i := 429) (by decide +kernel)⟩
theorem lw_p14 : lw_okq (⟨"PanoramaHouse$ContractReader", "numberHere", "(I)I"⟩, 6) := ⟨⟨by decide +kernel, by decide +kernel⟩, List.mem_of_getElem? (i := 80) (by decide +kernel), List.mem_of_getElem? (i := 483) (by decide +kernel), List.mem_of_getElem? (i := 484) (by decide +kernel)⟩
theorem lw_p15 : lw_okq (⟨"PanoramaHouse$ContractReader", "readTests", "(LPanoramaHouse$Hall;)Z"⟩, 6) := ⟨⟨by decide +kernel, by decide +kernel⟩, List.mem_of_getElem? (i := 80) (by decide +kernel), List.mem_of_getElem? (i := 499) (by decide +kernel), List.mem_of_getElem? (i := 500) (by decide +kernel)⟩
def lw_privs_1 : List (MethodName × Nat) := [(⟨"PanoramaHouse$Round", "colourShown", "(III)I"⟩, 2), (⟨"PanoramaHouse$Round", "colourInStrip", "(III)I"⟩, 2), (⟨"PanoramaHouse$Paintwork", "isGang", "(I)Z"⟩, 12), (⟨"PanoramaHouse$Paintwork", "firstCoatWork", "(I)I"⟩, 12), (⟨"PanoramaHouse$Paintwork", "workADay", "(II)V"⟩, 12), (⟨"PanoramaHouse$Paintwork", "endCoat", "(II)V"⟩, 12), (⟨"PanoramaHouse$Paintwork", "leastBelow", "(IIII)I"⟩, 12), (⟨"PanoramaHouse$Paintwork", "mostDays", "(I)I"⟩, 12), (⟨"PanoramaHouse$Paintwork", "daysOf", "(I)I"⟩, 12), (⟨"PanoramaHouse$ContractReader", "takeFour", "(I)V"⟩, 6), (⟨"PanoramaHouse$ContractReader", "advance", "()V"⟩, 6), (⟨"PanoramaHouse$ContractReader", "byteAt", "(I)I"⟩, 6), (⟨"PanoramaHouse$ContractReader", "readStatement", "(LPanoramaHouse$Hall;)Z"⟩, 6), (⟨"PanoramaHouse$ContractReader", "isWord", "(Ljava/lang/String;)Z"⟩, 6), (⟨"PanoramaHouse$ContractReader", "numberHere", "(I)I"⟩, 6), (⟨"PanoramaHouse$ContractReader", "readTests", "(LPanoramaHouse$Hall;)Z"⟩, 6)]
theorem lw_r1 : ∀ q ∈ lw_privs_1, lw_okq q := List.forall_mem_cons.mpr ⟨lw_p0, List.forall_mem_cons.mpr ⟨lw_p1, List.forall_mem_cons.mpr ⟨lw_p2, List.forall_mem_cons.mpr ⟨lw_p3, List.forall_mem_cons.mpr ⟨lw_p4, List.forall_mem_cons.mpr ⟨lw_p5, List.forall_mem_cons.mpr ⟨lw_p6, List.forall_mem_cons.mpr ⟨lw_p7, List.forall_mem_cons.mpr ⟨lw_p8, List.forall_mem_cons.mpr ⟨lw_p9, List.forall_mem_cons.mpr ⟨lw_p10, List.forall_mem_cons.mpr ⟨lw_p11, List.forall_mem_cons.mpr ⟨lw_p12, List.forall_mem_cons.mpr ⟨lw_p13, List.forall_mem_cons.mpr ⟨lw_p14, List.forall_mem_cons.mpr ⟨lw_p15, fun _ h => absurd h List.not_mem_nil⟩⟩⟩⟩⟩⟩⟩⟩⟩⟩⟩⟩⟩⟩⟩⟩
theorem lw_p16 : lw_okq (⟨"PanoramaHouse$ContractReader", "readTest", "(LPanoramaHouse$Hall;)Z"⟩, 6) := ⟨⟨by decide +kernel, by decide +kernel⟩, List.mem_of_getElem? (i := 80) (by decide +kernel), List.mem_of_getElem? (i := 504) (by decide +kernel), List.mem_of_getElem? (i := 505) (by decide +kernel)⟩
theorem lw_p17 : lw_okq (⟨"PanoramaHouse$ContractReader", "subjectHere", "()I"⟩, 6) := ⟨⟨by decide +kernel, by decide +kernel⟩, List.mem_of_getElem? (i := 80) (by decide +kernel), List.mem_of_getElem? (i := 508) (by decide +kernel), List.mem_of_getElem? (i := 509) (by decide +kernel)⟩
theorem lw_p18 : lw_okq (⟨"PanoramaHouse$ContractReader", "signHere", "()I"⟩, 6) := ⟨⟨by decide +kernel, by decide +kernel⟩, List.mem_of_getElem? (i := 80) (by decide +kernel), List.mem_of_getElem? (i := 515) (by decide +kernel), List.mem_of_getElem? (i := 516) (by decide +kernel)⟩
theorem lw_p19 : lw_okq (⟨"PanoramaHouse", "hallNumbered", "(I)LPanoramaHouse$Hall;"⟩, 8) := ⟨⟨by decide +kernel, by decide +kernel⟩, List.mem_of_getElem? (i := 14) (by decide +kernel), List.mem_of_getElem? (i := 532) (by decide +kernel), List.mem_of_getElem? (i := 533) (by decide +kernel)⟩
theorem lw_p20 : lw_okq (⟨"PanoramaHouse$Hall", "shareFor", "(II)I"⟩, 12) := ⟨⟨by decide +kernel, by decide +kernel⟩, List.mem_of_getElem? (i := 134) (by decide +kernel), List.mem_of_getElem? (i := 545) (by decide +kernel), List.mem_of_getElem? (i := 546) (by decide +kernel)⟩
theorem lw_p21 : lw_okq (⟨"PanoramaHouse$Hall", "allHold", "(III)Z"⟩, 12) := ⟨⟨by decide +kernel, by decide +kernel⟩, List.mem_of_getElem? (i := 134) (by decide +kernel), List.mem_of_getElem? (i := 549) (by decide +kernel), List.mem_of_getElem? (i := 550) (by decide +kernel)⟩
theorem lw_p22 : lw_okq (⟨"PanoramaHouse$Hall", "holds", "(III)Z"⟩, 12) := ⟨⟨by decide +kernel, by decide +kernel⟩, List.mem_of_getElem? (i := 134) (by decide +kernel), List.mem_of_getElem? (i := 553) (by decide +kernel), List.mem_of_getElem? (i := 554) (by decide +kernel)⟩
theorem lw_p23 : lw_okq (⟨"PanoramaHouse$Hall", "valueOf", "(III)I"⟩, 12) := ⟨⟨by decide +kernel, by decide +kernel⟩, List.mem_of_getElem? (i := 134) (by decide +kernel), List.mem_of_getElem? (i := 557) (by decide +kernel), List.mem_of_getElem? (i := 558) (by decide +kernel)⟩
theorem lw_p24 : lw_okq (⟨"PanoramaHouseModel", "puts", "(IIII)V"⟩, 42) := ⟨⟨by decide +kernel, by decide +kernel⟩, List.mem_of_getElem? (i := 616) (by decide +kernel), List.mem_of_getElem? (i := 762) (by decide +kernel), List.mem_of_getElem? (i := 763) (by decide +kernel)⟩
theorem lw_p25 : lw_okq (⟨"PanoramaHouseModel", "viewAt", "(I)I"⟩, 42) := ⟨⟨by decide +kernel, by decide +kernel⟩, List.mem_of_getElem? (i := 616) (by decide +kernel), List.mem_of_getElem? (i := 791) (by decide +kernel), List.mem_of_getElem? (i := 792) (by decide +kernel)⟩
theorem lw_p26 : lw_okq (⟨"PanoramaHouseModel", "colourIn", "(II)I"⟩, 42) := ⟨⟨by decide +kernel, by decide +kernel⟩, List.mem_of_getElem? (i := 616) (by decide +kernel), List.mem_of_getElem? (i := 795) (by decide +kernel), List.mem_of_getElem? (i := 796) (by decide +kernel)⟩
theorem lw_p27 : lw_okq (⟨"PanoramaHouseModel", "work", "(I)I"⟩, 42) := ⟨⟨by decide +kernel, by decide +kernel⟩, List.mem_of_getElem? (i := 616) (by decide +kernel), List.mem_of_getElem? (i := 819) (by decide +kernel), List.mem_of_getElem? (i := 820) (by decide +kernel)⟩
theorem lw_p28 : lw_okq (⟨"PanoramaHouseModel", "four", "(I)V"⟩, 42) := ⟨⟨by decide +kernel, by decide +kernel⟩, List.mem_of_getElem? (i := 616) (by decide +kernel), List.mem_of_getElem? (i := 839) (by decide +kernel), List.mem_of_getElem? (i := 840) (by decide +kernel)⟩
theorem lw_p29 : lw_okq (⟨"PanoramaHouseModel", "blanks", "()V"⟩, 42) := ⟨⟨by decide +kernel, by decide +kernel⟩, List.mem_of_getElem? (i := 616) (by decide +kernel), List.mem_of_getElem? (i := 847) (by decide +kernel), List.mem_of_getElem? (i := 848) (by decide +kernel)⟩
theorem lw_p30 : lw_okq (⟨"PanoramaHouseModel", "statement", "(I)Z"⟩, 42) := ⟨⟨by decide +kernel, by decide +kernel⟩, List.mem_of_getElem? (i := 616) (by decide +kernel), List.mem_of_getElem? (i := 851) (by decide +kernel), List.mem_of_getElem? (i := 852) (by decide +kernel)⟩
theorem lw_p31 : lw_okq (⟨"PanoramaHouseModel", "takes", "(J)Z"⟩, 42) := ⟨⟨by decide +kernel, by decide +kernel⟩, List.mem_of_getElem? (i := 616) (by decide +kernel), List.mem_of_getElem? (i := 856) (by decide +kernel), List.mem_of_getElem? (i := 857) (by decide +kernel)⟩
def lw_privs_2 : List (MethodName × Nat) := [(⟨"PanoramaHouse$ContractReader", "readTest", "(LPanoramaHouse$Hall;)Z"⟩, 6), (⟨"PanoramaHouse$ContractReader", "subjectHere", "()I"⟩, 6), (⟨"PanoramaHouse$ContractReader", "signHere", "()I"⟩, 6), (⟨"PanoramaHouse", "hallNumbered", "(I)LPanoramaHouse$Hall;"⟩, 8), (⟨"PanoramaHouse$Hall", "shareFor", "(II)I"⟩, 12), (⟨"PanoramaHouse$Hall", "allHold", "(III)Z"⟩, 12), (⟨"PanoramaHouse$Hall", "holds", "(III)Z"⟩, 12), (⟨"PanoramaHouse$Hall", "valueOf", "(III)I"⟩, 12), (⟨"PanoramaHouseModel", "puts", "(IIII)V"⟩, 42), (⟨"PanoramaHouseModel", "viewAt", "(I)I"⟩, 42), (⟨"PanoramaHouseModel", "colourIn", "(II)I"⟩, 42), (⟨"PanoramaHouseModel", "work", "(I)I"⟩, 42), (⟨"PanoramaHouseModel", "four", "(I)V"⟩, 42), (⟨"PanoramaHouseModel", "blanks", "()V"⟩, 42), (⟨"PanoramaHouseModel", "statement", "(I)Z"⟩, 42), (⟨"PanoramaHouseModel", "takes", "(J)Z"⟩, 42)]
theorem lw_r2 : ∀ q ∈ lw_privs_2, lw_okq q := List.forall_mem_cons.mpr ⟨lw_p16, List.forall_mem_cons.mpr ⟨lw_p17, List.forall_mem_cons.mpr ⟨lw_p18, List.forall_mem_cons.mpr ⟨lw_p19, List.forall_mem_cons.mpr ⟨lw_p20, List.forall_mem_cons.mpr ⟨lw_p21, List.forall_mem_cons.mpr ⟨lw_p22, List.forall_mem_cons.mpr ⟨lw_p23, List.forall_mem_cons.mpr ⟨lw_p24, List.forall_mem_cons.mpr ⟨lw_p25, List.forall_mem_cons.mpr ⟨lw_p26, List.forall_mem_cons.mpr ⟨lw_p27, List.forall_mem_cons.mpr ⟨lw_p28, List.forall_mem_cons.mpr ⟨lw_p29, List.forall_mem_cons.mpr ⟨lw_p30, List.forall_mem_cons.mpr ⟨lw_p31, fun _ h => absurd h List.not_mem_nil⟩⟩⟩⟩⟩⟩⟩⟩⟩⟩⟩⟩⟩⟩⟩⟩
theorem lw_p32 : lw_okq (⟨"PanoramaHouseModel", "word", "()J"⟩, 42) := ⟨⟨by decide +kernel, by decide +kernel⟩, List.mem_of_getElem? (i := 616) (by decide +kernel), List.mem_of_getElem? (i := 860) (by decide +kernel), List.mem_of_getElem? (i := 861) (by decide +kernel)⟩
theorem lw_p33 : lw_okq (⟨"PanoramaHouseModel", "takesNumber", "(I)Z"⟩, 42) := ⟨⟨by decide +kernel, by decide +kernel⟩, List.mem_of_getElem? (i := 616) (by decide +kernel), List.mem_of_getElem? (i := 867) (by decide +kernel), List.mem_of_getElem? (i := 868) (by decide +kernel)⟩
theorem lw_p34 : lw_okq (⟨"PanoramaHouseModel", "test", "(I)Z"⟩, 42) := ⟨⟨by decide +kernel, by decide +kernel⟩, List.mem_of_getElem? (i := 616) (by decide +kernel), List.mem_of_getElem? (i := 872) (by decide +kernel), List.mem_of_getElem? (i := 873) (by decide +kernel)⟩
theorem lw_p35 : lw_okq (⟨"PanoramaHouseModel", "lastOf", "(III)I"⟩, 42) := ⟨⟨by decide +kernel, by decide +kernel⟩, List.mem_of_getElem? (i := 616) (by decide +kernel), List.mem_of_getElem? (i := 888) (by decide +kernel), List.mem_of_getElem? (i := 889) (by decide +kernel)⟩
theorem lw_p36 : lw_okq (⟨"PanoramaHouseModel", "partOf", "(IIII)I"⟩, 42) := ⟨⟨by decide +kernel, by decide +kernel⟩, List.mem_of_getElem? (i := 616) (by decide +kernel), List.mem_of_getElem? (i := 892) (by decide +kernel), List.mem_of_getElem? (i := 893) (by decide +kernel)⟩
def lw_privs_3 : List (MethodName × Nat) := [(⟨"PanoramaHouseModel", "word", "()J"⟩, 42), (⟨"PanoramaHouseModel", "takesNumber", "(I)Z"⟩, 42), (⟨"PanoramaHouseModel", "test", "(I)Z"⟩, 42), (⟨"PanoramaHouseModel", "lastOf", "(III)I"⟩, 42), (⟨"PanoramaHouseModel", "partOf", "(IIII)I"⟩, 42)]
theorem lw_r3 : ∀ q ∈ lw_privs_3, lw_okq q := List.forall_mem_cons.mpr ⟨lw_p32, List.forall_mem_cons.mpr ⟨lw_p33, List.forall_mem_cons.mpr ⟨lw_p34, List.forall_mem_cons.mpr ⟨lw_p35, List.forall_mem_cons.mpr ⟨lw_p36, fun _ h => absurd h List.not_mem_nil⟩⟩⟩⟩⟩
def lw_privs : List (MethodName × Nat) := lw_privs_1 ++ (lw_privs_2 ++ (lw_privs_3))
def lw_tbl : List Cond := k2_sels lw_privs ++ tables_1
theorem lw_privs_ok : ∀ q ∈ lw_privs, lw_okq q := by
  show ∀ q ∈ lw_privs_1 ++ (lw_privs_2 ++ (lw_privs_3)), lw_okq q
  exact List.forall_mem_append.mpr ⟨lw_r1, List.forall_mem_append.mpr ⟨lw_r2, lw_r3⟩⟩
end
section
/-! ===== BEGIN words of one list among another's, by their places ===== -/
theorem goodIn_r {big : List Cond} (ws : List Cond) (ps : List Nat) (hp : ws = ps.filterMap (fun i => big[i]?)) (h : ws.all goodWord = true) : GoodIn big ws := by
  intro w hw
  have h1 := List.all_eq_true.mp h w hw
  rw [hp] at hw
  obtain ⟨i, -, hi⟩ := List.mem_filterMap.mp hw
  have hm : w ∈ big := by first | exact List.mem_of_getElem? hi | exact List.getElem?_mem hi
  exact ⟨hm, good_of_word h1⟩
theorem goodIn_app {big a b : List Cond} (ha : GoodIn big a) (hb : GoodIn big b) : GoodIn big (a ++ b) := fun w h => (List.mem_append.mp h).elim (ha w) (hb w)
theorem goodIn_ca {big a b : List Cond} {c : Cond} (ha : GoodIn big (c :: a)) (hb : GoodIn big b) : GoodIn big (c :: (a ++ b)) := fun w h => (List.mem_cons.mp h).elim (fun e => ha w (List.mem_cons.mpr (Or.inl e))) (fun h => (List.mem_append.mp h).elim (fun h => ha w (List.mem_cons.mpr (Or.inr h))) (hb w))
theorem goodIn_sub {big ws : List Cond} (hm : ∀ w ∈ ws, w ∈ big) (h : ws.all goodWord = true) : GoodIn big ws := fun w hw => ⟨hm w hw, good_of_word (List.all_eq_true.mp h w hw)⟩
/-! ===== END ===== -/

/-! ===== BEGIN printed: names, fields, word lists, decode rows ===== -/
def RX0 : String := "PanoramaHouse$ContractReader"
def TX0 : u_T := fun k => match k with
  | 0 => ("PanoramaHouse$ContractReader", "tape", "[I", true)
  | 1 => ("PanoramaHouse$ContractReader", "bytesOnTape", "I", false)
  | 2 => ("PanoramaHouse$ContractReader", "length", "I", false)
  | 3 => ("PanoramaHouse$ContractReader", "kind", "I", false)
  | 4 => ("PanoramaHouse$ContractReader", "start", "I", false)
  | _ => ("PanoramaHouse$ContractReader", "end", "I", false)
def tyX0 : Nat → FieldType := fun k => match k with
  | 0 => .array .int
  | 1 => .int
  | 2 => .int
  | 3 => .int
  | 4 => .int
  | _ => .int
abbrev wsX00 : List Cond := u_ws RX0 TX0 6
theorem nmX0 : ∀ a, a < 6 → ∀ b, b < 6 → a ≠ b → (TX0 a).2.1 ≠ (TX0 b).2.1 := by decide +kernel
theorem tyX0_ok : ∀ k, k < 6 → parseFieldDescriptor (TX0 k).2.2.1 = some (tyX0 k) := by decide +kernel
abbrev cX0_init : ByteArray := prog_2_method_1_code
def yX0_init : MethodName := ⟨RX0, "<init>", "()V"⟩
abbrev cX0_bytes : ByteArray := prog_2_method_2_code
def yX0_bytes : MethodName := ⟨RX0, "bytes", "()I"⟩
abbrev cX0_takeBytes : ByteArray := prog_2_method_3_code
def yX0_takeBytes : MethodName := ⟨RX0, "takeBytes", "(IIIII)I"⟩
abbrev cX0_takeFour : ByteArray := prog_2_method_4_code
def yX0_takeFour : MethodName := ⟨RX0, "takeFour", "(I)V"⟩
abbrev cX0_readContract : ByteArray := prog_2_method_5_code
def yX0_readContract : MethodName := ⟨RX0, "readContract", "(ILPanoramaHouse$Hall;)I"⟩
abbrev cX0_readStatement : ByteArray := prog_2_method_6_code
def yX0_readStatement : MethodName := ⟨RX0, "readStatement", "(LPanoramaHouse$Hall;)Z"⟩
abbrev cX0_readTests : ByteArray := prog_2_method_7_code
def yX0_readTests : MethodName := ⟨RX0, "readTests", "(LPanoramaHouse$Hall;)Z"⟩
abbrev cX0_readTest : ByteArray := prog_2_method_8_code
def yX0_readTest : MethodName := ⟨RX0, "readTest", "(LPanoramaHouse$Hall;)Z"⟩
abbrev cX0_subjectHere : ByteArray := prog_2_method_9_code
def yX0_subjectHere : MethodName := ⟨RX0, "subjectHere", "()I"⟩
abbrev cX0_signHere : ByteArray := prog_2_method_10_code
def yX0_signHere : MethodName := ⟨RX0, "signHere", "()I"⟩
abbrev cX0_numberHere : ByteArray := prog_2_method_11_code
def yX0_numberHere : MethodName := ⟨RX0, "numberHere", "(I)I"⟩
abbrev cX0_isWord : ByteArray := prog_2_method_12_code
def yX0_isWord : MethodName := ⟨RX0, "isWord", "(Ljava/lang/String;)Z"⟩
abbrev cX0_advance : ByteArray := prog_2_method_13_code
def yX0_advance : MethodName := ⟨RX0, "advance", "()V"⟩
abbrev cX0_kindOf : ByteArray := prog_2_method_14_code
def yX0_kindOf : MethodName := ⟨RX0, "kindOf", "(I)I"⟩
abbrev cX0_byteAt : ByteArray := prog_2_method_15_code
def yX0_byteAt : MethodName := ⟨RX0, "byteAt", "(I)I"⟩
def RX1 : String := "PanoramaHouse$Hall"
def TX1 : u_T := fun k => match k with
  | 0 => ("PanoramaHouse$Hall", "shareOfPart", "[I", true)
  | 1 => ("PanoramaHouse$Hall", "testsOfPart", "[I", true)
  | 2 => ("PanoramaHouse$Hall", "subjectOfTest", "[I", true)
  | 3 => ("PanoramaHouse$Hall", "signOfTest", "[I", true)
  | 4 => ("PanoramaHouse$Hall", "numberOfTest", "[I", true)
  | 5 => ("PanoramaHouse$Hall", "parts", "I", false)
  | 6 => ("PanoramaHouse$Hall", "weeks", "I", false)
  | 7 => ("PanoramaHouse$Hall", "rent", "I", false)
  | 8 => ("PanoramaHouse$Hall", "weeksGone", "I", false)
  | 9 => ("PanoramaHouse$Hall", "toHouse", "I", false)
  | 10 => ("PanoramaHouse$Hall", "toHall", "I", false)
  | _ => ("PanoramaHouse$Hall", "visitors", "I", false)
def tyX1 : Nat → FieldType := fun k => match k with
  | 0 => .array .int
  | 1 => .array .int
  | 2 => .array .int
  | 3 => .array .int
  | 4 => .array .int
  | 5 => .int
  | 6 => .int
  | 7 => .int
  | 8 => .int
  | 9 => .int
  | 10 => .int
  | _ => .int
abbrev wsX10 : List Cond := u_ws RX1 TX1 12
theorem nmX1 : ∀ a, a < 12 → ∀ b, b < 12 → a ≠ b → (TX1 a).2.1 ≠ (TX1 b).2.1 := by decide +kernel
theorem tyX1_ok : ∀ k, k < 12 → parseFieldDescriptor (TX1 k).2.2.1 = some (tyX1 k) := by decide +kernel
abbrev cX1_init : ByteArray := prog_3_method_1_code
def yX1_init : MethodName := ⟨RX1, "<init>", "()V"⟩
abbrev cX1_clearContract : ByteArray := prog_3_method_2_code
def yX1_clearContract : MethodName := ⟨RX1, "clearContract", "()V"⟩
abbrev cX1_setWeeks : ByteArray := prog_3_method_3_code
def yX1_setWeeks : MethodName := ⟨RX1, "setWeeks", "(I)V"⟩
abbrev cX1_setRent : ByteArray := prog_3_method_4_code
def yX1_setRent : MethodName := ⟨RX1, "setRent", "(I)V"⟩
abbrev cX1_addPart : ByteArray := prog_3_method_5_code
def yX1_addPart : MethodName := ⟨RX1, "addPart", "(I)V"⟩
abbrev cX1_addTest : ByteArray := prog_3_method_6_code
def yX1_addTest : MethodName := ⟨RX1, "addTest", "(III)V"⟩
abbrev cX1_passWeek : ByteArray := prog_3_method_7_code
def yX1_passWeek : MethodName := ⟨RX1, "passWeek", "(II)I"⟩
abbrev cX1_shareFor : ByteArray := prog_3_method_8_code
def yX1_shareFor : MethodName := ⟨RX1, "shareFor", "(II)I"⟩
abbrev cX1_allHold : ByteArray := prog_3_method_9_code
def yX1_allHold : MethodName := ⟨RX1, "allHold", "(III)Z"⟩
abbrev cX1_holds : ByteArray := prog_3_method_10_code
def yX1_holds : MethodName := ⟨RX1, "holds", "(III)Z"⟩
abbrev cX1_valueOf : ByteArray := prog_3_method_11_code
def yX1_valueOf : MethodName := ⟨RX1, "valueOf", "(III)I"⟩
abbrev cX1_tell : ByteArray := prog_3_method_12_code
def yX1_tell : MethodName := ⟨RX1, "tell", "(I)I"⟩
def RX2 : String := "PanoramaHouse$Paintwork"
def TX2 : u_T := fun k => match k with
  | 0 => ("PanoramaHouse$Paintwork", "round", "LPanoramaHouse$Round;", true)
  | 1 => ("PanoramaHouse$Paintwork", "skillOf", "[I", true)
  | 2 => ("PanoramaHouse$Paintwork", "squareOfGang", "[I", true)
  | 3 => ("PanoramaHouse$Paintwork", "coatsDone", "[I", true)
  | 4 => ("PanoramaHouse$Paintwork", "gangOn", "[I", true)
  | 5 => ("PanoramaHouse$Paintwork", "workLeft", "[I", true)
  | 6 => ("PanoramaHouse$Paintwork", "firstDoneOn", "[I", true)
  | 7 => ("PanoramaHouse$Paintwork", "secondDoneOn", "[I", true)
  | 8 => ("PanoramaHouse$Paintwork", "lastGang", "[I", true)
  | 9 => ("PanoramaHouse$Paintwork", "workGiven", "[I", true)
  | 10 => ("PanoramaHouse$Paintwork", "gangsHired", "I", false)
  | _ => ("PanoramaHouse$Paintwork", "daysGone", "I", false)
def tyX2 : Nat → FieldType := fun k => match k with
  | 0 => .object "PanoramaHouse$Round"
  | 1 => .array .int
  | 2 => .array .int
  | 3 => .array .int
  | 4 => .array .int
  | 5 => .array .int
  | 6 => .array .int
  | 7 => .array .int
  | 8 => .array .int
  | 9 => .array .int
  | 10 => .int
  | _ => .int
abbrev wsX20 : List Cond := u_ws RX2 TX2 12
theorem nmX2 : ∀ a, a < 12 → ∀ b, b < 12 → a ≠ b → (TX2 a).2.1 ≠ (TX2 b).2.1 := by decide +kernel
theorem tyX2_ok : ∀ k, k < 12 → parseFieldDescriptor (TX2 k).2.2.1 = some (tyX2 k) := by decide +kernel
abbrev cX2_init : ByteArray := prog_4_method_1_code
def yX2_init : MethodName := ⟨RX2, "<init>", "(LPanoramaHouse$Round;)V"⟩
abbrev cX2_today : ByteArray := prog_4_method_2_code
def yX2_today : MethodName := ⟨RX2, "today", "()I"⟩
abbrev cX2_gangs : ByteArray := prog_4_method_3_code
def yX2_gangs : MethodName := ⟨RX2, "gangs", "()I"⟩
abbrev cX2_finishedSquares : ByteArray := prog_4_method_4_code
def yX2_finishedSquares : MethodName := ⟨RX2, "finishedSquares", "()I"⟩
abbrev cX2_hire : ByteArray := prog_4_method_5_code
def yX2_hire : MethodName := ⟨RX2, "hire", "(I)I"⟩
abbrev cX2_isGang : ByteArray := prog_4_method_6_code
def yX2_isGang : MethodName := ⟨RX2, "isGang", "(I)Z"⟩
abbrev cX2_firstCoatWork : ByteArray := prog_4_method_7_code
def yX2_firstCoatWork : MethodName := ⟨RX2, "firstCoatWork", "(I)I"⟩
abbrev cX2_beginCoat : ByteArray := prog_4_method_8_code
def yX2_beginCoat : MethodName := ⟨RX2, "beginCoat", "(II)I"⟩
abbrev cX2_passDay : ByteArray := prog_4_method_9_code
def yX2_passDay : MethodName := ⟨RX2, "passDay", "()I"⟩
abbrev cX2_workADay : ByteArray := prog_4_method_10_code
def yX2_workADay : MethodName := ⟨RX2, "workADay", "(II)V"⟩
abbrev cX2_endCoat : ByteArray := prog_4_method_11_code
def yX2_endCoat : MethodName := ⟨RX2, "endCoat", "(II)V"⟩
abbrev cX2_tellSquare : ByteArray := prog_4_method_12_code
def yX2_tellSquare : MethodName := ⟨RX2, "tellSquare", "(II)I"⟩
abbrev cX2_leastDays : ByteArray := prog_4_method_13_code
def yX2_leastDays : MethodName := ⟨RX2, "leastDays", "(III)I"⟩
abbrev cX2_leastBelow : ByteArray := prog_4_method_14_code
def yX2_leastBelow : MethodName := ⟨RX2, "leastBelow", "(IIII)I"⟩
abbrev cX2_mostDays : ByteArray := prog_4_method_15_code
def yX2_mostDays : MethodName := ⟨RX2, "mostDays", "(I)I"⟩
abbrev cX2_daysOf : ByteArray := prog_4_method_16_code
def yX2_daysOf : MethodName := ⟨RX2, "daysOf", "(I)I"⟩
def RX3 : String := "PanoramaHouse$Platform"
def TX3 : u_T := fun k => match k with
  | 0 => ("PanoramaHouse$Platform", "wentUp", "[I", true)
  | 1 => ("PanoramaHouse$Platform", "most", "I", false)
  | 2 => ("PanoramaHouse$Platform", "there", "I", false)
  | 3 => ("PanoramaHouse$Platform", "waiting", "I", false)
  | 4 => ("PanoramaHouse$Platform", "left", "I", false)
  | 5 => ("PanoramaHouse$Platform", "minutes", "I", false)
  | _ => ("PanoramaHouse$Platform", "mostEver", "I", false)
def tyX3 : Nat → FieldType := fun k => match k with
  | 0 => .array .int
  | 1 => .int
  | 2 => .int
  | 3 => .int
  | 4 => .int
  | 5 => .int
  | _ => .int
abbrev wsX30 : List Cond := u_ws RX3 TX3 7
theorem nmX3 : ∀ a, a < 7 → ∀ b, b < 7 → a ≠ b → (TX3 a).2.1 ≠ (TX3 b).2.1 := by decide +kernel
theorem tyX3_ok : ∀ k, k < 7 → parseFieldDescriptor (TX3 k).2.2.1 = some (tyX3 k) := by decide +kernel
abbrev cX3_init : ByteArray := prog_5_method_1_code
def yX3_init : MethodName := ⟨RX3, "<init>", "()V"⟩
abbrev cX3_setRoom : ByteArray := prog_5_method_2_code
def yX3_setRoom : MethodName := ⟨RX3, "setRoom", "(I)Z"⟩
abbrev cX3_passMinute : ByteArray := prog_5_method_3_code
def yX3_passMinute : MethodName := ⟨RX3, "passMinute", "(I)I"⟩
abbrev cX3_tell : ByteArray := prog_5_method_4_code
def yX3_tell : MethodName := ⟨RX3, "tell", "(I)I"⟩
def RX4 : String := "PanoramaHouse$Round"
def TX4 : u_T := fun k => match k with
  | 0 => ("PanoramaHouse$Round", "marks", "[B", true)
  | _ => ("PanoramaHouse$Round", "colouredOfSquare", "[I", true)
def tyX4 : Nat → FieldType := fun k => match k with
  | 0 => .array .byte
  | _ => .array .int
abbrev wsX40 : List Cond := u_ws RX4 TX4 2
theorem nmX4 : ∀ a, a < 2 → ∀ b, b < 2 → a ≠ b → (TX4 a).2.1 ≠ (TX4 b).2.1 := by decide +kernel
theorem tyX4_ok : ∀ k, k < 2 → parseFieldDescriptor (TX4 k).2.2.1 = some (tyX4 k) := by decide +kernel
abbrev cX4_init : ByteArray := prog_6_method_1_code
def yX4_init : MethodName := ⟨RX4, "<init>", "()V"⟩
abbrev cX4_isMark : ByteArray := prog_6_method_2_code
def yX4_isMark : MethodName := ⟨RX4, "isMark", "(III)Z"⟩
abbrev cX4_isPlace : ByteArray := prog_6_method_3_code
def yX4_isPlace : MethodName := ⟨RX4, "isPlace", "(II)Z"⟩
abbrev cX4_isColour : ByteArray := prog_6_method_4_code
def yX4_isColour : MethodName := ⟨RX4, "isColour", "(I)Z"⟩
abbrev cX4_columnOf : ByteArray := prog_6_method_5_code
def yX4_columnOf : MethodName := ⟨RX4, "columnOf", "(II)I"⟩
abbrev cX4_rowOf : ByteArray := prog_6_method_6_code
def yX4_rowOf : MethodName := ⟨RX4, "rowOf", "(II)I"⟩
abbrev cX4_offsetOf : ByteArray := prog_6_method_7_code
def yX4_offsetOf : MethodName := ⟨RX4, "offsetOf", "(I)I"⟩
abbrev cX4_stretchOf : ByteArray := prog_6_method_8_code
def yX4_stretchOf : MethodName := ⟨RX4, "stretchOf", "(I)I"⟩
abbrev cX4_squareOf : ByteArray := prog_6_method_9_code
def yX4_squareOf : MethodName := ⟨RX4, "squareOf", "(II)I"⟩
abbrev cX4_placeInMarks : ByteArray := prog_6_method_10_code
def yX4_placeInMarks : MethodName := ⟨RX4, "placeInMarks", "(III)I"⟩
abbrev cX4_setMark : ByteArray := prog_6_method_11_code
def yX4_setMark : MethodName := ⟨RX4, "setMark", "(IIII)Z"⟩
abbrev cX4_drawLine : ByteArray := prog_6_method_12_code
def yX4_drawLine : MethodName := ⟨RX4, "drawLine", "(IIIIII)I"⟩
abbrev cX4_partOfWay : ByteArray := prog_6_method_13_code
def yX4_partOfWay : MethodName := ⟨RX4, "partOfWay", "(III)I"⟩
abbrev cX4_colourAt : ByteArray := prog_6_method_14_code
def yX4_colourAt : MethodName := ⟨RX4, "colourAt", "(II)I"⟩
abbrev cX4_viewAt : ByteArray := prog_6_method_15_code
def yX4_viewAt : MethodName := ⟨RX4, "viewAt", "(II)I"⟩
abbrev cX4_quarrelsBehind : ByteArray := prog_6_method_16_code
def yX4_quarrelsBehind : MethodName := ⟨RX4, "quarrelsBehind", "(I)I"⟩
abbrev cX4_colourShown : ByteArray := prog_6_method_17_code
def yX4_colourShown : MethodName := ⟨RX4, "colourShown", "(III)I"⟩
abbrev cX4_colourInStrip : ByteArray := prog_6_method_18_code
def yX4_colourInStrip : MethodName := ⟨RX4, "colourInStrip", "(III)I"⟩
abbrev cX4_colouredIn : ByteArray := prog_6_method_19_code
def yX4_colouredIn : MethodName := ⟨RX4, "colouredIn", "(I)I"⟩
abbrev cX4_colouredPlaces : ByteArray := prog_6_method_20_code
def yX4_colouredPlaces : MethodName := ⟨RX4, "colouredPlaces", "()I"⟩
def RX5 : String := "PanoramaHouse"
def TX5 : u_T := fun k => match k with
  | 0 => ("PanoramaHouse", "round", "LPanoramaHouse$Round;", true)
  | 1 => ("PanoramaHouse", "paintwork", "LPanoramaHouse$Paintwork;", true)
  | 2 => ("PanoramaHouse", "reader", "LPanoramaHouse$ContractReader;", true)
  | 3 => ("PanoramaHouse", "halls", "[LPanoramaHouse$Hall;", true)
  | 4 => ("PanoramaHouse", "platform", "LPanoramaHouse$Platform;", true)
  | 5 => ("PanoramaHouse", "draft", "LPanoramaHouse$Hall;", false)
  | 6 => ("PanoramaHouse", "hallsMade", "I", false)
  | _ => ("PanoramaHouse", "faultPlace", "I", false)
def tyX5 : Nat → FieldType := fun k => match k with
  | 0 => .object "PanoramaHouse$Round"
  | 1 => .object "PanoramaHouse$Paintwork"
  | 2 => .object "PanoramaHouse$ContractReader"
  | 3 => .array (.object "PanoramaHouse$Hall")
  | 4 => .object "PanoramaHouse$Platform"
  | 5 => .object "PanoramaHouse$Hall"
  | 6 => .int
  | _ => .int
abbrev wsX50 : List Cond := u_ws RX5 TX5 8
theorem nmX5 : ∀ a, a < 8 → ∀ b, b < 8 → a ≠ b → (TX5 a).2.1 ≠ (TX5 b).2.1 := by decide +kernel
theorem tyX5_ok : ∀ k, k < 8 → parseFieldDescriptor (TX5 k).2.2.1 = some (tyX5 k) := by decide +kernel
abbrev cX5_init : ByteArray := prog_1_method_1_code
def yX5_init : MethodName := ⟨RX5, "<init>", "()V"⟩
abbrev cX5_mark : ByteArray := prog_1_method_2_code
def yX5_mark : MethodName := ⟨RX5, "mark", "(IIII)Z"⟩
abbrev cX5_line : ByteArray := prog_1_method_3_code
def yX5_line : MethodName := ⟨RX5, "line", "(IIIIII)I"⟩
abbrev cX5_stands : ByteArray := prog_1_method_4_code
def yX5_stands : MethodName := ⟨RX5, "stands", "(IIII)I"⟩
abbrev cX5_colour : ByteArray := prog_1_method_5_code
def yX5_colour : MethodName := ⟨RX5, "colour", "(II)I"⟩
abbrev cX5_from : ByteArray := prog_1_method_6_code
def yX5_from : MethodName := ⟨RX5, "from", "(II)I"⟩
abbrev cX5_seam : ByteArray := prog_1_method_7_code
def yX5_seam : MethodName := ⟨RX5, "seam", "(I)I"⟩
abbrev cX5_gang : ByteArray := prog_1_method_8_code
def yX5_gang : MethodName := ⟨RX5, "gang", "(I)I"⟩
abbrev cX5_put : ByteArray := prog_1_method_9_code
def yX5_put : MethodName := ⟨RX5, "put", "(II)I"⟩
abbrev cX5_day : ByteArray := prog_1_method_10_code
def yX5_day : MethodName := ⟨RX5, "day", "()I"⟩
abbrev cX5_square : ByteArray := prog_1_method_11_code
def yX5_square : MethodName := ⟨RX5, "square", "(II)I"⟩
abbrev cX5_least : ByteArray := prog_1_method_12_code
def yX5_least : MethodName := ⟨RX5, "least", "(III)I"⟩
abbrev cX5_feed : ByteArray := prog_1_method_13_code
def yX5_feed : MethodName := ⟨RX5, "feed", "(IIIII)I"⟩
abbrev cX5_hall : ByteArray := prog_1_method_14_code
def yX5_hall : MethodName := ⟨RX5, "hall", "(I)I"⟩
abbrev cX5_fault : ByteArray := prog_1_method_15_code
def yX5_fault : MethodName := ⟨RX5, "fault", "()I"⟩
abbrev cX5_week : ByteArray := prog_1_method_16_code
def yX5_week : MethodName := ⟨RX5, "week", "(III)I"⟩
abbrev cX5_hallOf : ByteArray := prog_1_method_17_code
def yX5_hallOf : MethodName := ⟨RX5, "hallOf", "(II)I"⟩
abbrev cX5_room : ByteArray := prog_1_method_18_code
def yX5_room : MethodName := ⟨RX5, "room", "(I)Z"⟩
abbrev cX5_minute : ByteArray := prog_1_method_19_code
def yX5_minute : MethodName := ⟨RX5, "minute", "(I)I"⟩
abbrev cX5_crowd : ByteArray := prog_1_method_20_code
def yX5_crowd : MethodName := ⟨RX5, "crowd", "(I)I"⟩
abbrev cX5_count : ByteArray := prog_1_method_21_code
def yX5_count : MethodName := ⟨RX5, "count", "(I)I"⟩
abbrev cX5_hallNumbered : ByteArray := prog_1_method_22_code
def yX5_hallNumbered : MethodName := ⟨RX5, "hallNumbered", "(I)LPanoramaHouse$Hall;"⟩
abbrev cX5_isTold : ByteArray := prog_1_method_23_code
def yX5_isTold : MethodName := ⟨RX5, "isTold", "(I)Z"⟩
abbrev cX5_isSquare : ByteArray := prog_1_method_24_code
def yX5_isSquare : MethodName := ⟨RX5, "isSquare", "(I)Z"⟩
def RX6 : String := "PanoramaHouseModel"
def TX6 : u_T := fun k => match k with
  | 0 => ("PanoramaHouseModel", "marks", "[B", true)
  | 1 => ("PanoramaHouseModel", "laid", "[B", true)
  | 2 => ("PanoramaHouseModel", "isLaid", "[Z", true)
  | 3 => ("PanoramaHouseModel", "today", "I", false)
  | 4 => ("PanoramaHouseModel", "gangs", "I", false)
  | 5 => ("PanoramaHouseModel", "skill", "[I", true)
  | 6 => ("PanoramaHouseModel", "busy", "[I", true)
  | 7 => ("PanoramaHouseModel", "coats", "[I", true)
  | 8 => ("PanoramaHouseModel", "gangOn", "[I", true)
  | 9 => ("PanoramaHouseModel", "left", "[I", true)
  | 10 => ("PanoramaHouseModel", "firstDone", "[I", true)
  | 11 => ("PanoramaHouseModel", "secondDone", "[I", true)
  | 12 => ("PanoramaHouseModel", "lastGang", "[I", true)
  | 13 => ("PanoramaHouseModel", "works", "[I", true)
  | 14 => ("PanoramaHouseModel", "load", "[I", true)
  | 15 => ("PanoramaHouseModel", "tape", "[B", true)
  | 16 => ("PanoramaHouseModel", "text", "[B", true)
  | 17 => ("PanoramaHouseModel", "taped", "I", false)
  | 18 => ("PanoramaHouseModel", "size", "I", false)
  | 19 => ("PanoramaHouseModel", "at", "I", false)
  | 20 => ("PanoramaHouseModel", "fault", "I", false)
  | 21 => ("PanoramaHouseModel", "halls", "I", false)
  | 22 => ("PanoramaHouseModel", "statements", "[I", true)
  | 23 => ("PanoramaHouseModel", "kind", "[I", true)
  | 24 => ("PanoramaHouseModel", "gives", "[I", true)
  | 25 => ("PanoramaHouseModel", "testMany", "[I", true)
  | 26 => ("PanoramaHouseModel", "testName", "[I", true)
  | 27 => ("PanoramaHouseModel", "testSign", "[I", true)
  | 28 => ("PanoramaHouseModel", "testNumber", "[I", true)
  | 29 => ("PanoramaHouseModel", "gone", "[I", true)
  | 30 => ("PanoramaHouseModel", "people", "[I", true)
  | 31 => ("PanoramaHouseModel", "house", "[J", true)
  | 32 => ("PanoramaHouseModel", "others", "[J", true)
  | 33 => ("PanoramaHouseModel", "wordEnd", "I", false)
  | 34 => ("PanoramaHouseModel", "number", "I", false)
  | 35 => ("PanoramaHouseModel", "most", "I", false)
  | 36 => ("PanoramaHouseModel", "waiting", "I", false)
  | 37 => ("PanoramaHouseModel", "there", "I", false)
  | 38 => ("PanoramaHouseModel", "gones", "I", false)
  | 39 => ("PanoramaHouseModel", "minutes", "I", false)
  | 40 => ("PanoramaHouseModel", "greatest", "I", false)
  | _ => ("PanoramaHouseModel", "up", "[I", true)
def tyX6 : Nat → FieldType := fun k => match k with
  | 0 => .array .byte
  | 1 => .array .byte
  | 2 => .array .boolean
  | 3 => .int
  | 4 => .int
  | 5 => .array .int
  | 6 => .array .int
  | 7 => .array .int
  | 8 => .array .int
  | 9 => .array .int
  | 10 => .array .int
  | 11 => .array .int
  | 12 => .array .int
  | 13 => .array .int
  | 14 => .array .int
  | 15 => .array .byte
  | 16 => .array .byte
  | 17 => .int
  | 18 => .int
  | 19 => .int
  | 20 => .int
  | 21 => .int
  | 22 => .array .int
  | 23 => .array .int
  | 24 => .array .int
  | 25 => .array .int
  | 26 => .array .int
  | 27 => .array .int
  | 28 => .array .int
  | 29 => .array .int
  | 30 => .array .int
  | 31 => .array .long
  | 32 => .array .long
  | 33 => .int
  | 34 => .int
  | 35 => .int
  | 36 => .int
  | 37 => .int
  | 38 => .int
  | 39 => .int
  | 40 => .int
  | _ => .array .int
abbrev wsX60 : List Cond := u_ws RX6 TX6 42
theorem nmX6 : ∀ a, a < 42 → ∀ b, b < 42 → a ≠ b → (TX6 a).2.1 ≠ (TX6 b).2.1 := by decide +kernel
theorem tyX6_ok : ∀ k, k < 42 → parseFieldDescriptor (TX6 k).2.2.1 = some (tyX6 k) := by decide +kernel
abbrev cX6_init : ByteArray := prog_8_method_1_code
def yX6_init : MethodName := ⟨RX6, "<init>", "()V"⟩
abbrev cX6_isIn : ByteArray := prog_8_method_2_code
def yX6_isIn : MethodName := ⟨RX6, "isIn", "(III)Z"⟩
abbrev cX6_isMark : ByteArray := prog_8_method_3_code
def yX6_isMark : MethodName := ⟨RX6, "isMark", "(III)Z"⟩
abbrev cX6_puts : ByteArray := prog_8_method_4_code
def yX6_puts : MethodName := ⟨RX6, "puts", "(IIII)V"⟩
abbrev cX6_mark : ByteArray := prog_8_method_5_code
def yX6_mark : MethodName := ⟨RX6, "mark", "(IIII)Z"⟩
abbrev cX6_line : ByteArray := prog_8_method_6_code
def yX6_line : MethodName := ⟨RX6, "line", "(IIIIII)I"⟩
abbrev cX6_column : ByteArray := prog_8_method_7_code
def yX6_column : MethodName := ⟨RX6, "column", "(II)I"⟩
abbrev cX6_row : ByteArray := prog_8_method_8_code
def yX6_row : MethodName := ⟨RX6, "row", "(II)I"⟩
abbrev cX6_stands : ByteArray := prog_8_method_9_code
def yX6_stands : MethodName := ⟨RX6, "stands", "(IIII)I"⟩
abbrev cX6_colourIn : ByteArray := prog_8_method_10_code
def yX6_colourIn : MethodName := ⟨RX6, "colourIn", "(II)I"⟩
abbrev cX6_viewAt : ByteArray := prog_8_method_11_code
def yX6_viewAt : MethodName := ⟨RX6, "viewAt", "(I)I"⟩
abbrev cX6_isPlace : ByteArray := prog_8_method_12_code
def yX6_isPlace : MethodName := ⟨RX6, "isPlace", "(II)Z"⟩
abbrev cX6_colour : ByteArray := prog_8_method_13_code
def yX6_colour : MethodName := ⟨RX6, "colour", "(II)I"⟩
abbrev cX6_from : ByteArray := prog_8_method_14_code
def yX6_from : MethodName := ⟨RX6, "from", "(II)I"⟩
abbrev cX6_seam : ByteArray := prog_8_method_15_code
def yX6_seam : MethodName := ⟨RX6, "seam", "(I)I"⟩
abbrev cX6_isSquare : ByteArray := prog_8_method_16_code
def yX6_isSquare : MethodName := ⟨RX6, "isSquare", "(I)Z"⟩
abbrev cX6_work : ByteArray := prog_8_method_17_code
def yX6_work : MethodName := ⟨RX6, "work", "(I)I"⟩
abbrev cX6_gang : ByteArray := prog_8_method_18_code
def yX6_gang : MethodName := ⟨RX6, "gang", "(I)I"⟩
abbrev cX6_put : ByteArray := prog_8_method_19_code
def yX6_put : MethodName := ⟨RX6, "put", "(II)I"⟩
abbrev cX6_day : ByteArray := prog_8_method_20_code
def yX6_day : MethodName := ⟨RX6, "day", "()I"⟩
abbrev cX6_square : ByteArray := prog_8_method_21_code
def yX6_square : MethodName := ⟨RX6, "square", "(II)I"⟩
abbrev cX6_least : ByteArray := prog_8_method_22_code
def yX6_least : MethodName := ⟨RX6, "least", "(III)I"⟩
abbrev cX6_feed : ByteArray := prog_8_method_23_code
def yX6_feed : MethodName := ⟨RX6, "feed", "(IIIII)I"⟩
abbrev cX6_four : ByteArray := prog_8_method_24_code
def yX6_four : MethodName := ⟨RX6, "four", "(I)V"⟩
abbrev cX6_blanks : ByteArray := prog_8_method_25_code
def yX6_blanks : MethodName := ⟨RX6, "blanks", "()V"⟩
abbrev cX6_word : ByteArray := prog_8_method_26_code
def yX6_word : MethodName := ⟨RX6, "word", "()J"⟩
abbrev cX6_takes : ByteArray := prog_8_method_27_code
def yX6_takes : MethodName := ⟨RX6, "takes", "(J)Z"⟩
abbrev cX6_takesNumber : ByteArray := prog_8_method_28_code
def yX6_takesNumber : MethodName := ⟨RX6, "takesNumber", "(I)Z"⟩
abbrev cX6_test : ByteArray := prog_8_method_29_code
def yX6_test : MethodName := ⟨RX6, "test", "(I)Z"⟩
abbrev cX6_statement : ByteArray := prog_8_method_30_code
def yX6_statement : MethodName := ⟨RX6, "statement", "(I)Z"⟩
abbrev cX6_hall : ByteArray := prog_8_method_31_code
def yX6_hall : MethodName := ⟨RX6, "hall", "(I)I"⟩
abbrev cX6_fault : ByteArray := prog_8_method_32_code
def yX6_fault : MethodName := ⟨RX6, "fault", "()I"⟩
abbrev cX6_lastOf : ByteArray := prog_8_method_33_code
def yX6_lastOf : MethodName := ⟨RX6, "lastOf", "(III)I"⟩
abbrev cX6_partOf : ByteArray := prog_8_method_34_code
def yX6_partOf : MethodName := ⟨RX6, "partOf", "(IIII)I"⟩
abbrev cX6_week : ByteArray := prog_8_method_35_code
def yX6_week : MethodName := ⟨RX6, "week", "(III)I"⟩
abbrev cX6_hallOf : ByteArray := prog_8_method_36_code
def yX6_hallOf : MethodName := ⟨RX6, "hallOf", "(II)I"⟩
abbrev cX6_room : ByteArray := prog_8_method_37_code
def yX6_room : MethodName := ⟨RX6, "room", "(I)Z"⟩
abbrev cX6_minute : ByteArray := prog_8_method_38_code
def yX6_minute : MethodName := ⟨RX6, "minute", "(I)I"⟩
abbrev cX6_crowd : ByteArray := prog_8_method_39_code
def yX6_crowd : MethodName := ⟨RX6, "crowd", "(I)I"⟩
abbrev cX6_count : ByteArray := prog_8_method_40_code
def yX6_count : MethodName := ⟨RX6, "count", "(I)I"⟩
def RJ9 : String := "java/lang/Math"
def TJ9 : u_T := fun k => match k with
  | _ => ("", "", "", false)
def tyJ9 : Nat → FieldType := fun k => match k with
  | _ => .int
abbrev wsJ90 : List Cond := u_ws RJ9 TJ9 0
theorem nmJ9 : ∀ a, a < 0 → ∀ b, b < 0 → a ≠ b → (TJ9 a).2.1 ≠ (TJ9 b).2.1 := by decide +kernel
theorem tyJ9_ok : ∀ k, k < 0 → parseFieldDescriptor (TJ9 k).2.2.1 = some (tyJ9 k) := by decide +kernel
abbrev cJ9_floorDiv_7cf53 : ByteArray := prog_9_method_47_code
def yJ9_floorDiv_7cf53 : MethodName := ⟨RJ9, "floorDiv", "(II)I"⟩
abbrev cJ9_floorMod_7cf53 : ByteArray := prog_9_method_50_code
def yJ9_floorMod_7cf53 : MethodName := ⟨RJ9, "floorMod", "(II)I"⟩
abbrev cJ9_abs_0f7a4 : ByteArray := prog_9_method_59_code
def yJ9_abs_0f7a4 : MethodName := ⟨RJ9, "abs", "(I)I"⟩
abbrev cJ9_max_7cf53 : ByteArray := prog_9_method_65_code
def yJ9_max_7cf53 : MethodName := ⟨RJ9, "max", "(II)I"⟩
abbrev cJ9_min_7cf53 : ByteArray := prog_9_method_69_code
def yJ9_min_7cf53 : MethodName := ⟨RJ9, "min", "(II)I"⟩
def RJ0 : String := "java/lang/String"
def TJ0 : u_T := fun k => match k with
  | _ => ("", "", "", false)
def tyJ0 : Nat → FieldType := fun k => match k with
  | _ => .int
abbrev wsJ00 : List Cond := u_ws RJ0 TJ0 0
theorem nmJ0 : ∀ a, a < 0 → ∀ b, b < 0 → a ≠ b → (TJ0 a).2.1 ≠ (TJ0 b).2.1 := by decide +kernel
theorem tyJ0_ok : ∀ k, k < 0 → parseFieldDescriptor (TJ0 k).2.2.1 = some (tyJ0 k) := by decide +kernel
abbrev cJ0_length_8abf5 : ByteArray := prog_10_method_54_code
def yJ0_length_8abf5 : MethodName := ⟨RJ0, "length", "()I"⟩
abbrev cJ0_charAt_5068e : ByteArray := prog_10_method_56_code
def yJ0_charAt_5068e : MethodName := ⟨RJ0, "charAt", "(I)C"⟩
abbrev cJ0_coder_7d493 : ByteArray := prog_10_method_152_code
def yJ0_coder_7d493 : MethodName := ⟨RJ0, "coder", "()B"⟩
abbrev cJ0_isLatin1_aae02 : ByteArray := prog_10_method_154_code
def yJ0_isLatin1_aae02 : MethodName := ⟨RJ0, "isLatin1", "()Z"⟩
abbrev cJ0_checkIndex_df160 : ByteArray := prog_10_method_155_code
def yJ0_checkIndex_df160 : MethodName := ⟨RJ0, "checkIndex", "(II)V"⟩
def RJ1 : String := "java/lang/StringLatin1"
def TJ1 : u_T := fun k => match k with
  | _ => ("", "", "", false)
def tyJ1 : Nat → FieldType := fun k => match k with
  | _ => .int
abbrev wsJ10 : List Cond := u_ws RJ1 TJ1 0
theorem nmJ1 : ∀ a, a < 0 → ∀ b, b < 0 → a ≠ b → (TJ1 a).2.1 ≠ (TJ1 b).2.1 := by decide +kernel
theorem tyJ1_ok : ∀ k, k < 0 → parseFieldDescriptor (TJ1 k).2.2.1 = some (tyJ1 k) := by decide +kernel
abbrev cJ1_charAt_3b067 : ByteArray := prog_11_method_2_code
def yJ1_charAt_3b067 : MethodName := ⟨RJ1, "charAt", "([BI)C"⟩
def RJ2 : String := "java/lang/StringUTF16"
def TJ2 : u_T := fun k => match k with
  | _ => ("", "", "", false)
def tyJ2 : Nat → FieldType := fun k => match k with
  | _ => .int
abbrev wsJ20 : List Cond := u_ws RJ2 TJ2 0
theorem nmJ2 : ∀ a, a < 0 → ∀ b, b < 0 → a ≠ b → (TJ2 a).2.1 ≠ (TJ2 b).2.1 := by decide +kernel
theorem tyJ2_ok : ∀ k, k < 0 → parseFieldDescriptor (TJ2 k).2.2.1 = some (tyJ2 k) := by decide +kernel
abbrev cJ2_getChar_3b067 : ByteArray := prog_12_method_5_code
def yJ2_getChar_3b067 : MethodName := ⟨RJ2, "getChar", "([BI)C"⟩
abbrev cJ2_length_9d52b : ByteArray := prog_12_method_6_code
def yJ2_length_9d52b : MethodName := ⟨RJ2, "length", "([B)I"⟩
abbrev cJ2_charAt_3b067 : ByteArray := prog_12_method_83_code
def yJ2_charAt_3b067 : MethodName := ⟨RJ2, "charAt", "([BI)C"⟩
abbrev cJ2_checkIndex_2214a : ByteArray := prog_12_method_91_code
def yJ2_checkIndex_2214a : MethodName := ⟨RJ2, "checkIndex", "(I[B)V"⟩
def RJ3 : String := "jdk/internal/util/Preconditions"
def TJ3 : u_T := fun k => match k with
  | _ => ("", "", "", false)
def tyJ3 : Nat → FieldType := fun k => match k with
  | _ => .int
abbrev wsJ30 : List Cond := u_ws RJ3 TJ3 0
theorem nmJ3 : ∀ a, a < 0 → ∀ b, b < 0 → a ≠ b → (TJ3 a).2.1 ≠ (TJ3 b).2.1 := by decide +kernel
theorem tyJ3_ok : ∀ k, k < 0 → parseFieldDescriptor (TJ3 k).2.2.1 = some (tyJ3 k) := by decide +kernel
abbrev cJ3_checkIndex_8e157 : ByteArray := prog_13_method_11_code
def yJ3_checkIndex_8e157 : MethodName := ⟨RJ3, "checkIndex", "(IILjava/util/function/BiFunction;)I"⟩
def RL : String := "PanoramaHouseLaw"
abbrev cL_law : ByteArray := code
def yL_law : MethodName := ⟨RL, "law", "([I)Z"⟩
def wsX0_init : List Cond := .code yX0_init cX0_init 1 none :: ([.methodLink RX0 3 objectInit, .instanceMethod objectInit, .code objectInit ⟨#[0xb1]⟩ 1 none, .arrayClass .int, .fieldLink RX0 9 "PanoramaHouse$ContractReader" "tape" "[I"] ++ wsX00)
def wsX0_bytes : List Cond := .code yX0_bytes cX0_bytes 1 (some .int) :: ([.fieldLink RX0 15 "PanoramaHouse$ContractReader" "bytesOnTape" "I"] ++ wsX00)
def wsX0_takeFour : List Cond := .code yX0_takeFour cX0_takeFour 3 none :: ([.fieldLink RX0 15 "PanoramaHouse$ContractReader" "bytesOnTape" "I", .fieldLink RX0 9 "PanoramaHouse$ContractReader" "tape" "[I"] ++ wsX00)
def wsX0_takeBytes : List Cond := .code yX0_takeBytes cX0_takeBytes 6 (some .int) :: ([.fieldLink RX0 15 "PanoramaHouse$ContractReader" "bytesOnTape" "I", .methodLink RX0 19 yX0_takeFour, .instanceMethod yX0_takeFour, .selects RX0 yX0_takeFour yX0_takeFour, .initialized RX0, .code yX0_takeFour cX0_takeFour 3 none, .fieldLink RX0 9 "PanoramaHouse$ContractReader" "tape" "[I"] ++ wsX00)
def wsX1_clearContract : List Cond := .code yX1_clearContract cX1_clearContract 1 none :: ([.fieldLink RX1 31 "PanoramaHouse$Hall" "parts" "I", .fieldLink RX1 27 "PanoramaHouse$Hall" "weeks" "I", .fieldLink RX1 34 "PanoramaHouse$Hall" "rent" "I"] ++ wsX10)
def wsX0_byteAt : List Cond := .code yX0_byteAt cX0_byteAt 2 (some .int) :: ([.fieldLink RX0 34 "PanoramaHouse$ContractReader" "length" "I", .fieldLink RX0 9 "PanoramaHouse$ContractReader" "tape" "[I"] ++ wsX00)
def wsX0_kindOf : List Cond := .code yX0_kindOf cX0_kindOf 1 (some .int) :: ([])
def wsX0_advance : List Cond := .code yX0_advance cX0_advance 2 none :: ([.fieldLink RX0 37 "PanoramaHouse$ContractReader" "end" "I", .fieldLink RX0 50 "PanoramaHouse$ContractReader" "start" "I", .fieldLink RX0 34 "PanoramaHouse$ContractReader" "length" "I", .fieldLink RX0 43 "PanoramaHouse$ContractReader" "kind" "I", .methodLink RX0 104 yX0_byteAt, .instanceMethod yX0_byteAt, .selects RX0 yX0_byteAt yX0_byteAt, .initialized RX0, .code yX0_byteAt cX0_byteAt 2 (some .int), .fieldLink RX0 9 "PanoramaHouse$ContractReader" "tape" "[I", .methodLink RX0 115 yX0_kindOf, .static yX0_kindOf, .code yX0_kindOf cX0_kindOf 1 (some .int)] ++ wsX00)
def wsJ0_coder_7d493 : List Cond := .code yJ0_coder_7d493 cJ0_coder_7d493 1 (some .byte) :: ([.fieldLink RJ0 38 "java/lang/String" "COMPACT_STRINGS" "Z", .fieldLink RJ0 15 "java/lang/String" "coder" "B"])
def wsJ0_length_8abf5 : List Cond := .code yJ0_length_8abf5 cJ0_length_8abf5 1 (some .int) :: ([.fieldLink RJ0 9 "java/lang/String" "value" "[B", .methodLink RJ0 335 yJ0_coder_7d493, .instanceMethod yJ0_coder_7d493, .selects RJ0 yJ0_coder_7d493 yJ0_coder_7d493, .initialized RJ0, .code yJ0_coder_7d493 cJ0_coder_7d493 1 (some .byte), .fieldLink RJ0 38 "java/lang/String" "COMPACT_STRINGS" "Z", .fieldLink RJ0 15 "java/lang/String" "coder" "B"])
def wsJ0_isLatin1_aae02 : List Cond := .code yJ0_isLatin1_aae02 cJ0_isLatin1_aae02 1 (some .boolean) :: ([.fieldLink RJ0 38 "java/lang/String" "COMPACT_STRINGS" "Z", .fieldLink RJ0 15 "java/lang/String" "coder" "B"])
def wsJ3_checkIndex_8e157 : List Cond := .code yJ3_checkIndex_8e157 cJ3_checkIndex_8e157 3 (some .int) :: ([])
def wsJ0_checkIndex_df160 : List Cond := .code yJ0_checkIndex_df160 cJ0_checkIndex_df160 2 none :: ([.fieldLink RJ0 1053 "jdk/internal/util/Preconditions" "SIOOBE_FORMATTER" "Ljava/util/function/BiFunction;", .methodLink RJ0 1059 yJ3_checkIndex_8e157, .static yJ3_checkIndex_8e157, .initialized RJ3, .code yJ3_checkIndex_8e157 cJ3_checkIndex_8e157 3 (some .int)])
def wsJ1_charAt_3b067 : List Cond := .code yJ1_charAt_3b067 cJ1_charAt_3b067 2 (some .char) :: ([.methodLink RJ1 9 yJ0_checkIndex_df160, .static yJ0_checkIndex_df160, .initialized RJ0, .code yJ0_checkIndex_df160 cJ0_checkIndex_df160 2 none, .fieldLink RJ0 1053 "jdk/internal/util/Preconditions" "SIOOBE_FORMATTER" "Ljava/util/function/BiFunction;", .methodLink RJ0 1059 yJ3_checkIndex_8e157, .static yJ3_checkIndex_8e157, .initialized RJ3, .code yJ3_checkIndex_8e157 cJ3_checkIndex_8e157 3 (some .int)])
def wsJ2_length_9d52b : List Cond := .code yJ2_length_9d52b cJ2_length_9d52b 1 (some .int) :: ([])
def wsJ2_checkIndex_2214a : List Cond := .code yJ2_checkIndex_2214a cJ2_checkIndex_2214a 2 none :: ([.methodLink RJ2 48 yJ2_length_9d52b, .static yJ2_length_9d52b, .initialized RJ2, .code yJ2_length_9d52b cJ2_length_9d52b 1 (some .int), .methodLink RJ2 414 yJ0_checkIndex_df160, .static yJ0_checkIndex_df160, .initialized RJ0, .code yJ0_checkIndex_df160 cJ0_checkIndex_df160 2 none, .fieldLink RJ0 1053 "jdk/internal/util/Preconditions" "SIOOBE_FORMATTER" "Ljava/util/function/BiFunction;", .methodLink RJ0 1059 yJ3_checkIndex_8e157, .static yJ3_checkIndex_8e157, .initialized RJ3, .code yJ3_checkIndex_8e157 cJ3_checkIndex_8e157 3 (some .int)])
def wsJ2_getChar_3b067 : List Cond := .code yJ2_getChar_3b067 cJ2_getChar_3b067 2 (some .char) :: ([.fieldLink RJ2 44 "java/lang/StringUTF16" "$assertionsDisabled" "Z", .fieldLink RJ2 59 "java/lang/StringUTF16" "HI_BYTE_SHIFT" "I", .fieldLink RJ2 63 "java/lang/StringUTF16" "LO_BYTE_SHIFT" "I", .methodLink RJ2 48 yJ2_length_9d52b, .static yJ2_length_9d52b, .initialized RJ2, .code yJ2_length_9d52b cJ2_length_9d52b 1 (some .int)])
def wsJ2_charAt_3b067 : List Cond := .code yJ2_charAt_3b067 cJ2_charAt_3b067 2 (some .char) :: ([.methodLink RJ2 67 yJ2_checkIndex_2214a, .static yJ2_checkIndex_2214a, .initialized RJ2, .code yJ2_checkIndex_2214a cJ2_checkIndex_2214a 2 none, .methodLink RJ2 48 yJ2_length_9d52b, .static yJ2_length_9d52b, .code yJ2_length_9d52b cJ2_length_9d52b 1 (some .int), .methodLink RJ2 414 yJ0_checkIndex_df160, .static yJ0_checkIndex_df160, .initialized RJ0, .code yJ0_checkIndex_df160 cJ0_checkIndex_df160 2 none, .fieldLink RJ0 1053 "jdk/internal/util/Preconditions" "SIOOBE_FORMATTER" "Ljava/util/function/BiFunction;", .methodLink RJ0 1059 yJ3_checkIndex_8e157, .static yJ3_checkIndex_8e157, .initialized RJ3, .code yJ3_checkIndex_8e157 cJ3_checkIndex_8e157 3 (some .int), .methodLink RJ2 71 yJ2_getChar_3b067, .static yJ2_getChar_3b067, .code yJ2_getChar_3b067 cJ2_getChar_3b067 2 (some .char), .fieldLink RJ2 44 "java/lang/StringUTF16" "$assertionsDisabled" "Z", .fieldLink RJ2 59 "java/lang/StringUTF16" "HI_BYTE_SHIFT" "I", .fieldLink RJ2 63 "java/lang/StringUTF16" "LO_BYTE_SHIFT" "I"])
def wsJ0_charAt_5068e_r1 : List Cond := [Cond.fieldLink RJ0 9 "java/lang/String" "value" "[B", Cond.methodLink RJ0 492 yJ0_isLatin1_aae02, Cond.instanceMethod yJ0_isLatin1_aae02, Cond.selects RJ0 yJ0_isLatin1_aae02 yJ0_isLatin1_aae02, Cond.initialized RJ0, Cond.code yJ0_isLatin1_aae02 cJ0_isLatin1_aae02 1 (some .boolean), Cond.fieldLink RJ0 38 "java/lang/String" "COMPACT_STRINGS" "Z", Cond.fieldLink RJ0 15 "java/lang/String" "coder" "B", Cond.methodLink RJ0 495 yJ1_charAt_3b067, Cond.static yJ1_charAt_3b067, Cond.initialized RJ1, Cond.code yJ1_charAt_3b067 cJ1_charAt_3b067 2 (some .char), Cond.methodLink RJ1 9 yJ0_checkIndex_df160, Cond.static yJ0_checkIndex_df160, Cond.code yJ0_checkIndex_df160 cJ0_checkIndex_df160 2 none, Cond.fieldLink RJ0 1053 "jdk/internal/util/Preconditions" "SIOOBE_FORMATTER" "Ljava/util/function/BiFunction;", Cond.methodLink RJ0 1059 yJ3_checkIndex_8e157, Cond.static yJ3_checkIndex_8e157, Cond.initialized RJ3, Cond.code yJ3_checkIndex_8e157 cJ3_checkIndex_8e157 3 (some .int), Cond.methodLink RJ0 498 yJ2_charAt_3b067, Cond.static yJ2_charAt_3b067, Cond.initialized RJ2, Cond.code yJ2_charAt_3b067 cJ2_charAt_3b067 2 (some .char)]
def wsJ0_charAt_5068e_r2 : List Cond := [Cond.methodLink RJ2 67 yJ2_checkIndex_2214a, Cond.static yJ2_checkIndex_2214a, Cond.code yJ2_checkIndex_2214a cJ2_checkIndex_2214a 2 none, Cond.methodLink RJ2 48 yJ2_length_9d52b, Cond.static yJ2_length_9d52b, Cond.code yJ2_length_9d52b cJ2_length_9d52b 1 (some .int), Cond.methodLink RJ2 414 yJ0_checkIndex_df160, Cond.methodLink RJ2 71 yJ2_getChar_3b067, Cond.static yJ2_getChar_3b067, Cond.code yJ2_getChar_3b067 cJ2_getChar_3b067 2 (some .char), Cond.fieldLink RJ2 44 "java/lang/StringUTF16" "$assertionsDisabled" "Z", Cond.fieldLink RJ2 59 "java/lang/StringUTF16" "HI_BYTE_SHIFT" "I", Cond.fieldLink RJ2 63 "java/lang/StringUTF16" "LO_BYTE_SHIFT" "I"]
def wsJ0_charAt_5068e : List Cond := .code yJ0_charAt_5068e cJ0_charAt_5068e 2 (some .char) :: ((wsJ0_charAt_5068e_r1 ++ wsJ0_charAt_5068e_r2))
def wsX0_isWord_r1 : List Cond := [Cond.fieldLink RX0 43 "PanoramaHouse$ContractReader" "kind" "I", Cond.fieldLink RX0 37 "PanoramaHouse$ContractReader" "end" "I", Cond.fieldLink RX0 50 "PanoramaHouse$ContractReader" "start" "I", Cond.methodLink RX0 107 yJ0_length_8abf5, Cond.instanceMethod yJ0_length_8abf5, Cond.selects RJ0 yJ0_length_8abf5 yJ0_length_8abf5, Cond.initialized RJ0, Cond.code yJ0_length_8abf5 cJ0_length_8abf5 1 (some .int), Cond.fieldLink RJ0 9 "java/lang/String" "value" "[B", Cond.methodLink RJ0 335 yJ0_coder_7d493, Cond.instanceMethod yJ0_coder_7d493, Cond.selects RJ0 yJ0_coder_7d493 yJ0_coder_7d493, Cond.code yJ0_coder_7d493 cJ0_coder_7d493 1 (some .byte), Cond.fieldLink RJ0 38 "java/lang/String" "COMPACT_STRINGS" "Z", Cond.fieldLink RJ0 15 "java/lang/String" "coder" "B", Cond.methodLink RX0 104 yX0_byteAt, Cond.instanceMethod yX0_byteAt, Cond.selects RX0 yX0_byteAt yX0_byteAt, Cond.initialized RX0, Cond.code yX0_byteAt cX0_byteAt 2 (some .int), Cond.fieldLink RX0 34 "PanoramaHouse$ContractReader" "length" "I", Cond.fieldLink RX0 9 "PanoramaHouse$ContractReader" "tape" "[I", Cond.methodLink RX0 111 yJ0_charAt_5068e, Cond.instanceMethod yJ0_charAt_5068e]
def wsX0_isWord_r2 : List Cond := [Cond.selects RJ0 yJ0_charAt_5068e yJ0_charAt_5068e, Cond.code yJ0_charAt_5068e cJ0_charAt_5068e 2 (some .char), Cond.methodLink RJ0 492 yJ0_isLatin1_aae02, Cond.instanceMethod yJ0_isLatin1_aae02, Cond.selects RJ0 yJ0_isLatin1_aae02 yJ0_isLatin1_aae02, Cond.code yJ0_isLatin1_aae02 cJ0_isLatin1_aae02 1 (some .boolean), Cond.methodLink RJ0 495 yJ1_charAt_3b067, Cond.static yJ1_charAt_3b067, Cond.initialized RJ1, Cond.code yJ1_charAt_3b067 cJ1_charAt_3b067 2 (some .char), Cond.methodLink RJ1 9 yJ0_checkIndex_df160, Cond.static yJ0_checkIndex_df160, Cond.code yJ0_checkIndex_df160 cJ0_checkIndex_df160 2 none, Cond.fieldLink RJ0 1053 "jdk/internal/util/Preconditions" "SIOOBE_FORMATTER" "Ljava/util/function/BiFunction;", Cond.methodLink RJ0 1059 yJ3_checkIndex_8e157, Cond.static yJ3_checkIndex_8e157, Cond.initialized RJ3, Cond.code yJ3_checkIndex_8e157 cJ3_checkIndex_8e157 3 (some .int), Cond.methodLink RJ0 498 yJ2_charAt_3b067, Cond.static yJ2_charAt_3b067, Cond.initialized RJ2, Cond.code yJ2_charAt_3b067 cJ2_charAt_3b067 2 (some .char), Cond.methodLink RJ2 67 yJ2_checkIndex_2214a, Cond.static yJ2_checkIndex_2214a]
def wsX0_isWord_r3 : List Cond := [Cond.code yJ2_checkIndex_2214a cJ2_checkIndex_2214a 2 none, Cond.methodLink RJ2 48 yJ2_length_9d52b, Cond.static yJ2_length_9d52b, Cond.code yJ2_length_9d52b cJ2_length_9d52b 1 (some .int), Cond.methodLink RJ2 414 yJ0_checkIndex_df160, Cond.methodLink RJ2 71 yJ2_getChar_3b067, Cond.static yJ2_getChar_3b067, Cond.code yJ2_getChar_3b067 cJ2_getChar_3b067 2 (some .char), Cond.fieldLink RJ2 44 "java/lang/StringUTF16" "$assertionsDisabled" "Z", Cond.fieldLink RJ2 59 "java/lang/StringUTF16" "HI_BYTE_SHIFT" "I", Cond.fieldLink RJ2 63 "java/lang/StringUTF16" "LO_BYTE_SHIFT" "I"]
def wsX0_isWord : List Cond := .code yX0_isWord cX0_isWord 3 (some .boolean) :: ((wsX0_isWord_r1 ++ (wsX0_isWord_r2 ++ wsX0_isWord_r3)) ++ wsX00)
def wsX0_numberHere : List Cond := .code yX0_numberHere cX0_numberHere 4 (some .int) :: ([.fieldLink RX0 43 "PanoramaHouse$ContractReader" "kind" "I", .fieldLink RX0 37 "PanoramaHouse$ContractReader" "end" "I", .fieldLink RX0 50 "PanoramaHouse$ContractReader" "start" "I", .methodLink RX0 104 yX0_byteAt, .instanceMethod yX0_byteAt, .selects RX0 yX0_byteAt yX0_byteAt, .initialized RX0, .code yX0_byteAt cX0_byteAt 2 (some .int), .fieldLink RX0 34 "PanoramaHouse$ContractReader" "length" "I", .fieldLink RX0 9 "PanoramaHouse$ContractReader" "tape" "[I"] ++ wsX00)
def wsX1_setWeeks : List Cond := .code yX1_setWeeks cX1_setWeeks 2 none :: ([.fieldLink RX1 27 "PanoramaHouse$Hall" "weeks" "I"] ++ wsX10)
def wsX1_setRent : List Cond := .code yX1_setRent cX1_setRent 2 none :: ([.fieldLink RX1 34 "PanoramaHouse$Hall" "rent" "I"] ++ wsX10)
def wsX1_addPart : List Cond := .code yX1_addPart cX1_addPart 2 none :: ([.fieldLink RX1 31 "PanoramaHouse$Hall" "parts" "I", .fieldLink RX1 9 "PanoramaHouse$Hall" "shareOfPart" "[I", .fieldLink RX1 15 "PanoramaHouse$Hall" "testsOfPart" "[I"] ++ wsX10)
def wsX0_subjectHere_r1 : List Cond := [Cond.methodLink RX0 55 yX0_isWord, Cond.instanceMethod yX0_isWord, Cond.selects RX0 yX0_isWord yX0_isWord, Cond.initialized RX0, Cond.code yX0_isWord cX0_isWord 3 (some .boolean), Cond.fieldLink RX0 43 "PanoramaHouse$ContractReader" "kind" "I", Cond.fieldLink RX0 37 "PanoramaHouse$ContractReader" "end" "I", Cond.fieldLink RX0 50 "PanoramaHouse$ContractReader" "start" "I", Cond.methodLink RX0 107 yJ0_length_8abf5, Cond.instanceMethod yJ0_length_8abf5, Cond.selects RJ0 yJ0_length_8abf5 yJ0_length_8abf5, Cond.initialized RJ0, Cond.code yJ0_length_8abf5 cJ0_length_8abf5 1 (some .int), Cond.fieldLink RJ0 9 "java/lang/String" "value" "[B", Cond.methodLink RJ0 335 yJ0_coder_7d493, Cond.instanceMethod yJ0_coder_7d493, Cond.selects RJ0 yJ0_coder_7d493 yJ0_coder_7d493, Cond.code yJ0_coder_7d493 cJ0_coder_7d493 1 (some .byte), Cond.fieldLink RJ0 38 "java/lang/String" "COMPACT_STRINGS" "Z", Cond.fieldLink RJ0 15 "java/lang/String" "coder" "B", Cond.methodLink RX0 104 yX0_byteAt, Cond.instanceMethod yX0_byteAt, Cond.selects RX0 yX0_byteAt yX0_byteAt, Cond.code yX0_byteAt cX0_byteAt 2 (some .int)]
def wsX0_subjectHere_r2 : List Cond := [Cond.fieldLink RX0 34 "PanoramaHouse$ContractReader" "length" "I", Cond.fieldLink RX0 9 "PanoramaHouse$ContractReader" "tape" "[I", Cond.methodLink RX0 111 yJ0_charAt_5068e, Cond.instanceMethod yJ0_charAt_5068e, Cond.selects RJ0 yJ0_charAt_5068e yJ0_charAt_5068e, Cond.code yJ0_charAt_5068e cJ0_charAt_5068e 2 (some .char), Cond.methodLink RJ0 492 yJ0_isLatin1_aae02, Cond.instanceMethod yJ0_isLatin1_aae02, Cond.selects RJ0 yJ0_isLatin1_aae02 yJ0_isLatin1_aae02, Cond.code yJ0_isLatin1_aae02 cJ0_isLatin1_aae02 1 (some .boolean), Cond.methodLink RJ0 495 yJ1_charAt_3b067, Cond.static yJ1_charAt_3b067, Cond.initialized RJ1, Cond.code yJ1_charAt_3b067 cJ1_charAt_3b067 2 (some .char), Cond.methodLink RJ1 9 yJ0_checkIndex_df160, Cond.static yJ0_checkIndex_df160, Cond.code yJ0_checkIndex_df160 cJ0_checkIndex_df160 2 none, Cond.fieldLink RJ0 1053 "jdk/internal/util/Preconditions" "SIOOBE_FORMATTER" "Ljava/util/function/BiFunction;", Cond.methodLink RJ0 1059 yJ3_checkIndex_8e157, Cond.static yJ3_checkIndex_8e157, Cond.initialized RJ3, Cond.code yJ3_checkIndex_8e157 cJ3_checkIndex_8e157 3 (some .int), Cond.methodLink RJ0 498 yJ2_charAt_3b067, Cond.static yJ2_charAt_3b067]
def wsX0_subjectHere_r3 : List Cond := [Cond.initialized RJ2, Cond.code yJ2_charAt_3b067 cJ2_charAt_3b067 2 (some .char), Cond.methodLink RJ2 67 yJ2_checkIndex_2214a, Cond.static yJ2_checkIndex_2214a, Cond.code yJ2_checkIndex_2214a cJ2_checkIndex_2214a 2 none, Cond.methodLink RJ2 48 yJ2_length_9d52b, Cond.static yJ2_length_9d52b, Cond.code yJ2_length_9d52b cJ2_length_9d52b 1 (some .int), Cond.methodLink RJ2 414 yJ0_checkIndex_df160, Cond.methodLink RJ2 71 yJ2_getChar_3b067, Cond.static yJ2_getChar_3b067, Cond.code yJ2_getChar_3b067 cJ2_getChar_3b067 2 (some .char), Cond.fieldLink RJ2 44 "java/lang/StringUTF16" "$assertionsDisabled" "Z", Cond.fieldLink RJ2 59 "java/lang/StringUTF16" "HI_BYTE_SHIFT" "I", Cond.fieldLink RJ2 63 "java/lang/StringUTF16" "LO_BYTE_SHIFT" "I"]
def wsX0_subjectHere : List Cond := .code yX0_subjectHere cX0_subjectHere 1 (some .int) :: ((wsX0_subjectHere_r1 ++ (wsX0_subjectHere_r2 ++ wsX0_subjectHere_r3)) ++ wsX00)
def wsX0_signHere : List Cond := .code yX0_signHere cX0_signHere 1 (some .int) :: ([.fieldLink RX0 43 "PanoramaHouse$ContractReader" "kind" "I", .fieldLink RX0 50 "PanoramaHouse$ContractReader" "start" "I", .methodLink RX0 104 yX0_byteAt, .instanceMethod yX0_byteAt, .selects RX0 yX0_byteAt yX0_byteAt, .initialized RX0, .code yX0_byteAt cX0_byteAt 2 (some .int), .fieldLink RX0 34 "PanoramaHouse$ContractReader" "length" "I", .fieldLink RX0 9 "PanoramaHouse$ContractReader" "tape" "[I"] ++ wsX00)
def wsX1_addTest : List Cond := .code yX1_addTest cX1_addTest 6 none :: ([.fieldLink RX1 31 "PanoramaHouse$Hall" "parts" "I", .fieldLink RX1 15 "PanoramaHouse$Hall" "testsOfPart" "[I", .fieldLink RX1 18 "PanoramaHouse$Hall" "subjectOfTest" "[I", .fieldLink RX1 21 "PanoramaHouse$Hall" "signOfTest" "[I", .fieldLink RX1 24 "PanoramaHouse$Hall" "numberOfTest" "[I"] ++ wsX10)
def wsX0_readTest_r1 : List Cond := [Cond.constant RX0 63 (99999), Cond.methodLink RX0 91 yX0_subjectHere, Cond.instanceMethod yX0_subjectHere, Cond.selects RX0 yX0_subjectHere yX0_subjectHere, Cond.initialized RX0, Cond.code yX0_subjectHere cX0_subjectHere 1 (some .int), Cond.methodLink RX0 55 yX0_isWord, Cond.instanceMethod yX0_isWord, Cond.selects RX0 yX0_isWord yX0_isWord, Cond.code yX0_isWord cX0_isWord 3 (some .boolean), Cond.fieldLink RX0 43 "PanoramaHouse$ContractReader" "kind" "I", Cond.fieldLink RX0 37 "PanoramaHouse$ContractReader" "end" "I", Cond.fieldLink RX0 50 "PanoramaHouse$ContractReader" "start" "I", Cond.methodLink RX0 107 yJ0_length_8abf5, Cond.instanceMethod yJ0_length_8abf5, Cond.selects RJ0 yJ0_length_8abf5 yJ0_length_8abf5, Cond.initialized RJ0, Cond.code yJ0_length_8abf5 cJ0_length_8abf5 1 (some .int), Cond.fieldLink RJ0 9 "java/lang/String" "value" "[B", Cond.methodLink RJ0 335 yJ0_coder_7d493, Cond.instanceMethod yJ0_coder_7d493, Cond.selects RJ0 yJ0_coder_7d493 yJ0_coder_7d493, Cond.code yJ0_coder_7d493 cJ0_coder_7d493 1 (some .byte), Cond.fieldLink RJ0 38 "java/lang/String" "COMPACT_STRINGS" "Z"]
def wsX0_readTest_r2 : List Cond := [Cond.fieldLink RJ0 15 "java/lang/String" "coder" "B", Cond.methodLink RX0 104 yX0_byteAt, Cond.instanceMethod yX0_byteAt, Cond.selects RX0 yX0_byteAt yX0_byteAt, Cond.code yX0_byteAt cX0_byteAt 2 (some .int), Cond.fieldLink RX0 34 "PanoramaHouse$ContractReader" "length" "I", Cond.fieldLink RX0 9 "PanoramaHouse$ContractReader" "tape" "[I", Cond.methodLink RX0 111 yJ0_charAt_5068e, Cond.instanceMethod yJ0_charAt_5068e, Cond.selects RJ0 yJ0_charAt_5068e yJ0_charAt_5068e, Cond.code yJ0_charAt_5068e cJ0_charAt_5068e 2 (some .char), Cond.methodLink RJ0 492 yJ0_isLatin1_aae02, Cond.instanceMethod yJ0_isLatin1_aae02, Cond.selects RJ0 yJ0_isLatin1_aae02 yJ0_isLatin1_aae02, Cond.code yJ0_isLatin1_aae02 cJ0_isLatin1_aae02 1 (some .boolean), Cond.methodLink RJ0 495 yJ1_charAt_3b067, Cond.static yJ1_charAt_3b067, Cond.initialized RJ1, Cond.code yJ1_charAt_3b067 cJ1_charAt_3b067 2 (some .char), Cond.methodLink RJ1 9 yJ0_checkIndex_df160, Cond.static yJ0_checkIndex_df160, Cond.code yJ0_checkIndex_df160 cJ0_checkIndex_df160 2 none, Cond.fieldLink RJ0 1053 "jdk/internal/util/Preconditions" "SIOOBE_FORMATTER" "Ljava/util/function/BiFunction;", Cond.methodLink RJ0 1059 yJ3_checkIndex_8e157]
def wsX0_readTest_r3 : List Cond := [Cond.static yJ3_checkIndex_8e157, Cond.initialized RJ3, Cond.code yJ3_checkIndex_8e157 cJ3_checkIndex_8e157 3 (some .int), Cond.methodLink RJ0 498 yJ2_charAt_3b067, Cond.static yJ2_charAt_3b067, Cond.initialized RJ2, Cond.code yJ2_charAt_3b067 cJ2_charAt_3b067 2 (some .char), Cond.methodLink RJ2 67 yJ2_checkIndex_2214a, Cond.static yJ2_checkIndex_2214a, Cond.code yJ2_checkIndex_2214a cJ2_checkIndex_2214a 2 none, Cond.methodLink RJ2 48 yJ2_length_9d52b, Cond.static yJ2_length_9d52b, Cond.code yJ2_length_9d52b cJ2_length_9d52b 1 (some .int), Cond.methodLink RJ2 414 yJ0_checkIndex_df160, Cond.methodLink RJ2 71 yJ2_getChar_3b067, Cond.static yJ2_getChar_3b067, Cond.code yJ2_getChar_3b067 cJ2_getChar_3b067 2 (some .char), Cond.fieldLink RJ2 44 "java/lang/StringUTF16" "$assertionsDisabled" "Z", Cond.fieldLink RJ2 59 "java/lang/StringUTF16" "HI_BYTE_SHIFT" "I", Cond.fieldLink RJ2 63 "java/lang/StringUTF16" "LO_BYTE_SHIFT" "I", Cond.methodLink RX0 40 yX0_advance, Cond.instanceMethod yX0_advance, Cond.selects RX0 yX0_advance yX0_advance, Cond.code yX0_advance cX0_advance 2 none]
def wsX0_readTest_r4 : List Cond := [Cond.methodLink RX0 115 yX0_kindOf, Cond.static yX0_kindOf, Cond.code yX0_kindOf cX0_kindOf 1 (some .int), Cond.methodLink RX0 80 yX0_signHere, Cond.instanceMethod yX0_signHere, Cond.selects RX0 yX0_signHere yX0_signHere, Cond.code yX0_signHere cX0_signHere 1 (some .int), Cond.methodLink RX0 64 yX0_numberHere, Cond.instanceMethod yX0_numberHere, Cond.selects RX0 yX0_numberHere yX0_numberHere, Cond.code yX0_numberHere cX0_numberHere 4 (some .int), Cond.methodLink RX0 94 yX1_addTest, Cond.instanceMethod yX1_addTest, Cond.selects RX1 yX1_addTest yX1_addTest, Cond.initialized RX1, Cond.code yX1_addTest cX1_addTest 6 none, Cond.fieldLink RX1 31 "PanoramaHouse$Hall" "parts" "I", Cond.fieldLink RX1 15 "PanoramaHouse$Hall" "testsOfPart" "[I", Cond.fieldLink RX1 18 "PanoramaHouse$Hall" "subjectOfTest" "[I", Cond.fieldLink RX1 21 "PanoramaHouse$Hall" "signOfTest" "[I", Cond.fieldLink RX1 24 "PanoramaHouse$Hall" "numberOfTest" "[I"]
def wsX0_readTest : List Cond := .code yX0_readTest cX0_readTest 5 (some .boolean) :: ((wsX0_readTest_r1 ++ (wsX0_readTest_r2 ++ (wsX0_readTest_r3 ++ wsX0_readTest_r4))) ++ wsX00 ++ wsX10)
def wsX0_readTests_r1 : List Cond := [Cond.methodLink RX0 55 yX0_isWord, Cond.instanceMethod yX0_isWord, Cond.selects RX0 yX0_isWord yX0_isWord, Cond.initialized RX0, Cond.code yX0_isWord cX0_isWord 3 (some .boolean), Cond.fieldLink RX0 43 "PanoramaHouse$ContractReader" "kind" "I", Cond.fieldLink RX0 37 "PanoramaHouse$ContractReader" "end" "I", Cond.fieldLink RX0 50 "PanoramaHouse$ContractReader" "start" "I", Cond.methodLink RX0 107 yJ0_length_8abf5, Cond.instanceMethod yJ0_length_8abf5, Cond.selects RJ0 yJ0_length_8abf5 yJ0_length_8abf5, Cond.initialized RJ0, Cond.code yJ0_length_8abf5 cJ0_length_8abf5 1 (some .int), Cond.fieldLink RJ0 9 "java/lang/String" "value" "[B", Cond.methodLink RJ0 335 yJ0_coder_7d493, Cond.instanceMethod yJ0_coder_7d493, Cond.selects RJ0 yJ0_coder_7d493 yJ0_coder_7d493, Cond.code yJ0_coder_7d493 cJ0_coder_7d493 1 (some .byte), Cond.fieldLink RJ0 38 "java/lang/String" "COMPACT_STRINGS" "Z", Cond.fieldLink RJ0 15 "java/lang/String" "coder" "B", Cond.methodLink RX0 104 yX0_byteAt, Cond.instanceMethod yX0_byteAt, Cond.selects RX0 yX0_byteAt yX0_byteAt, Cond.code yX0_byteAt cX0_byteAt 2 (some .int)]
def wsX0_readTests_r2 : List Cond := [Cond.fieldLink RX0 34 "PanoramaHouse$ContractReader" "length" "I", Cond.fieldLink RX0 9 "PanoramaHouse$ContractReader" "tape" "[I", Cond.methodLink RX0 111 yJ0_charAt_5068e, Cond.instanceMethod yJ0_charAt_5068e, Cond.selects RJ0 yJ0_charAt_5068e yJ0_charAt_5068e, Cond.code yJ0_charAt_5068e cJ0_charAt_5068e 2 (some .char), Cond.methodLink RJ0 492 yJ0_isLatin1_aae02, Cond.instanceMethod yJ0_isLatin1_aae02, Cond.selects RJ0 yJ0_isLatin1_aae02 yJ0_isLatin1_aae02, Cond.code yJ0_isLatin1_aae02 cJ0_isLatin1_aae02 1 (some .boolean), Cond.methodLink RJ0 495 yJ1_charAt_3b067, Cond.static yJ1_charAt_3b067, Cond.initialized RJ1, Cond.code yJ1_charAt_3b067 cJ1_charAt_3b067 2 (some .char), Cond.methodLink RJ1 9 yJ0_checkIndex_df160, Cond.static yJ0_checkIndex_df160, Cond.code yJ0_checkIndex_df160 cJ0_checkIndex_df160 2 none, Cond.fieldLink RJ0 1053 "jdk/internal/util/Preconditions" "SIOOBE_FORMATTER" "Ljava/util/function/BiFunction;", Cond.methodLink RJ0 1059 yJ3_checkIndex_8e157, Cond.static yJ3_checkIndex_8e157, Cond.initialized RJ3, Cond.code yJ3_checkIndex_8e157 cJ3_checkIndex_8e157 3 (some .int), Cond.methodLink RJ0 498 yJ2_charAt_3b067, Cond.static yJ2_charAt_3b067]
def wsX0_readTests_r3 : List Cond := [Cond.initialized RJ2, Cond.code yJ2_charAt_3b067 cJ2_charAt_3b067 2 (some .char), Cond.methodLink RJ2 67 yJ2_checkIndex_2214a, Cond.static yJ2_checkIndex_2214a, Cond.code yJ2_checkIndex_2214a cJ2_checkIndex_2214a 2 none, Cond.methodLink RJ2 48 yJ2_length_9d52b, Cond.static yJ2_length_9d52b, Cond.code yJ2_length_9d52b cJ2_length_9d52b 1 (some .int), Cond.methodLink RJ2 414 yJ0_checkIndex_df160, Cond.methodLink RJ2 71 yJ2_getChar_3b067, Cond.static yJ2_getChar_3b067, Cond.code yJ2_getChar_3b067 cJ2_getChar_3b067 2 (some .char), Cond.fieldLink RJ2 44 "java/lang/StringUTF16" "$assertionsDisabled" "Z", Cond.fieldLink RJ2 59 "java/lang/StringUTF16" "HI_BYTE_SHIFT" "I", Cond.fieldLink RJ2 63 "java/lang/StringUTF16" "LO_BYTE_SHIFT" "I", Cond.methodLink RX0 40 yX0_advance, Cond.instanceMethod yX0_advance, Cond.selects RX0 yX0_advance yX0_advance, Cond.code yX0_advance cX0_advance 2 none, Cond.methodLink RX0 115 yX0_kindOf, Cond.static yX0_kindOf, Cond.code yX0_kindOf cX0_kindOf 1 (some .int), Cond.methodLink RX0 86 yX0_readTest, Cond.instanceMethod yX0_readTest]
def wsX0_readTests_r4 : List Cond := [Cond.selects RX0 yX0_readTest yX0_readTest, Cond.code yX0_readTest cX0_readTest 5 (some .boolean), Cond.constant RX0 63 (99999), Cond.methodLink RX0 91 yX0_subjectHere, Cond.instanceMethod yX0_subjectHere, Cond.selects RX0 yX0_subjectHere yX0_subjectHere, Cond.code yX0_subjectHere cX0_subjectHere 1 (some .int), Cond.methodLink RX0 80 yX0_signHere, Cond.instanceMethod yX0_signHere, Cond.selects RX0 yX0_signHere yX0_signHere, Cond.code yX0_signHere cX0_signHere 1 (some .int), Cond.methodLink RX0 64 yX0_numberHere, Cond.instanceMethod yX0_numberHere, Cond.selects RX0 yX0_numberHere yX0_numberHere, Cond.code yX0_numberHere cX0_numberHere 4 (some .int), Cond.methodLink RX0 94 yX1_addTest, Cond.instanceMethod yX1_addTest, Cond.selects RX1 yX1_addTest yX1_addTest, Cond.initialized RX1, Cond.code yX1_addTest cX1_addTest 6 none, Cond.fieldLink RX1 31 "PanoramaHouse$Hall" "parts" "I", Cond.fieldLink RX1 15 "PanoramaHouse$Hall" "testsOfPart" "[I", Cond.fieldLink RX1 18 "PanoramaHouse$Hall" "subjectOfTest" "[I", Cond.fieldLink RX1 21 "PanoramaHouse$Hall" "signOfTest" "[I"]
def wsX0_readTests_r5 : List Cond := [Cond.fieldLink RX1 24 "PanoramaHouse$Hall" "numberOfTest" "[I"]
def wsX0_readTests : List Cond := .code yX0_readTests cX0_readTests 4 (some .boolean) :: ((wsX0_readTests_r1 ++ (wsX0_readTests_r2 ++ (wsX0_readTests_r3 ++ (wsX0_readTests_r4 ++ wsX0_readTests_r5)))) ++ wsX00 ++ wsX10)
def wsX0_readStatement_r1 : List Cond := [Cond.constant RX0 63 (99999), Cond.methodLink RX0 55 yX0_isWord, Cond.instanceMethod yX0_isWord, Cond.selects RX0 yX0_isWord yX0_isWord, Cond.initialized RX0, Cond.code yX0_isWord cX0_isWord 3 (some .boolean), Cond.fieldLink RX0 43 "PanoramaHouse$ContractReader" "kind" "I", Cond.fieldLink RX0 37 "PanoramaHouse$ContractReader" "end" "I", Cond.fieldLink RX0 50 "PanoramaHouse$ContractReader" "start" "I", Cond.methodLink RX0 107 yJ0_length_8abf5, Cond.instanceMethod yJ0_length_8abf5, Cond.selects RJ0 yJ0_length_8abf5 yJ0_length_8abf5, Cond.initialized RJ0, Cond.code yJ0_length_8abf5 cJ0_length_8abf5 1 (some .int), Cond.fieldLink RJ0 9 "java/lang/String" "value" "[B", Cond.methodLink RJ0 335 yJ0_coder_7d493, Cond.instanceMethod yJ0_coder_7d493, Cond.selects RJ0 yJ0_coder_7d493 yJ0_coder_7d493, Cond.code yJ0_coder_7d493 cJ0_coder_7d493 1 (some .byte), Cond.fieldLink RJ0 38 "java/lang/String" "COMPACT_STRINGS" "Z", Cond.fieldLink RJ0 15 "java/lang/String" "coder" "B", Cond.methodLink RX0 104 yX0_byteAt, Cond.instanceMethod yX0_byteAt, Cond.selects RX0 yX0_byteAt yX0_byteAt]
def wsX0_readStatement_r2 : List Cond := [Cond.code yX0_byteAt cX0_byteAt 2 (some .int), Cond.fieldLink RX0 34 "PanoramaHouse$ContractReader" "length" "I", Cond.fieldLink RX0 9 "PanoramaHouse$ContractReader" "tape" "[I", Cond.methodLink RX0 111 yJ0_charAt_5068e, Cond.instanceMethod yJ0_charAt_5068e, Cond.selects RJ0 yJ0_charAt_5068e yJ0_charAt_5068e, Cond.code yJ0_charAt_5068e cJ0_charAt_5068e 2 (some .char), Cond.methodLink RJ0 492 yJ0_isLatin1_aae02, Cond.instanceMethod yJ0_isLatin1_aae02, Cond.selects RJ0 yJ0_isLatin1_aae02 yJ0_isLatin1_aae02, Cond.code yJ0_isLatin1_aae02 cJ0_isLatin1_aae02 1 (some .boolean), Cond.methodLink RJ0 495 yJ1_charAt_3b067, Cond.static yJ1_charAt_3b067, Cond.initialized RJ1, Cond.code yJ1_charAt_3b067 cJ1_charAt_3b067 2 (some .char), Cond.methodLink RJ1 9 yJ0_checkIndex_df160, Cond.static yJ0_checkIndex_df160, Cond.code yJ0_checkIndex_df160 cJ0_checkIndex_df160 2 none, Cond.fieldLink RJ0 1053 "jdk/internal/util/Preconditions" "SIOOBE_FORMATTER" "Ljava/util/function/BiFunction;", Cond.methodLink RJ0 1059 yJ3_checkIndex_8e157, Cond.static yJ3_checkIndex_8e157, Cond.initialized RJ3, Cond.code yJ3_checkIndex_8e157 cJ3_checkIndex_8e157 3 (some .int), Cond.methodLink RJ0 498 yJ2_charAt_3b067]
def wsX0_readStatement_r3 : List Cond := [Cond.static yJ2_charAt_3b067, Cond.initialized RJ2, Cond.code yJ2_charAt_3b067 cJ2_charAt_3b067 2 (some .char), Cond.methodLink RJ2 67 yJ2_checkIndex_2214a, Cond.static yJ2_checkIndex_2214a, Cond.code yJ2_checkIndex_2214a cJ2_checkIndex_2214a 2 none, Cond.methodLink RJ2 48 yJ2_length_9d52b, Cond.static yJ2_length_9d52b, Cond.code yJ2_length_9d52b cJ2_length_9d52b 1 (some .int), Cond.methodLink RJ2 414 yJ0_checkIndex_df160, Cond.methodLink RJ2 71 yJ2_getChar_3b067, Cond.static yJ2_getChar_3b067, Cond.code yJ2_getChar_3b067 cJ2_getChar_3b067 2 (some .char), Cond.fieldLink RJ2 44 "java/lang/StringUTF16" "$assertionsDisabled" "Z", Cond.fieldLink RJ2 59 "java/lang/StringUTF16" "HI_BYTE_SHIFT" "I", Cond.fieldLink RJ2 63 "java/lang/StringUTF16" "LO_BYTE_SHIFT" "I", Cond.methodLink RX0 40 yX0_advance, Cond.instanceMethod yX0_advance, Cond.selects RX0 yX0_advance yX0_advance, Cond.code yX0_advance cX0_advance 2 none, Cond.methodLink RX0 115 yX0_kindOf, Cond.static yX0_kindOf, Cond.code yX0_kindOf cX0_kindOf 1 (some .int), Cond.methodLink RX0 64 yX0_numberHere]
def wsX0_readStatement_r4 : List Cond := [Cond.instanceMethod yX0_numberHere, Cond.selects RX0 yX0_numberHere yX0_numberHere, Cond.code yX0_numberHere cX0_numberHere 4 (some .int), Cond.methodLink RX0 68 yX1_setWeeks, Cond.instanceMethod yX1_setWeeks, Cond.selects RX1 yX1_setWeeks yX1_setWeeks, Cond.initialized RX1, Cond.code yX1_setWeeks cX1_setWeeks 2 none, Cond.fieldLink RX1 27 "PanoramaHouse$Hall" "weeks" "I", Cond.methodLink RX0 71 yX1_setRent, Cond.instanceMethod yX1_setRent, Cond.selects RX1 yX1_setRent yX1_setRent, Cond.code yX1_setRent cX1_setRent 2 none, Cond.fieldLink RX1 34 "PanoramaHouse$Hall" "rent" "I", Cond.methodLink RX0 74 yX1_addPart, Cond.instanceMethod yX1_addPart, Cond.selects RX1 yX1_addPart yX1_addPart, Cond.code yX1_addPart cX1_addPart 2 none, Cond.fieldLink RX1 31 "PanoramaHouse$Hall" "parts" "I", Cond.fieldLink RX1 9 "PanoramaHouse$Hall" "shareOfPart" "[I", Cond.fieldLink RX1 15 "PanoramaHouse$Hall" "testsOfPart" "[I", Cond.methodLink RX0 77 yX0_readTests, Cond.instanceMethod yX0_readTests, Cond.selects RX0 yX0_readTests yX0_readTests]
def wsX0_readStatement_r5 : List Cond := [Cond.code yX0_readTests cX0_readTests 4 (some .boolean), Cond.methodLink RX0 86 yX0_readTest, Cond.instanceMethod yX0_readTest, Cond.selects RX0 yX0_readTest yX0_readTest, Cond.code yX0_readTest cX0_readTest 5 (some .boolean), Cond.methodLink RX0 91 yX0_subjectHere, Cond.instanceMethod yX0_subjectHere, Cond.selects RX0 yX0_subjectHere yX0_subjectHere, Cond.code yX0_subjectHere cX0_subjectHere 1 (some .int), Cond.methodLink RX0 80 yX0_signHere, Cond.instanceMethod yX0_signHere, Cond.selects RX0 yX0_signHere yX0_signHere, Cond.code yX0_signHere cX0_signHere 1 (some .int), Cond.methodLink RX0 94 yX1_addTest, Cond.instanceMethod yX1_addTest, Cond.selects RX1 yX1_addTest yX1_addTest, Cond.code yX1_addTest cX1_addTest 6 none, Cond.fieldLink RX1 18 "PanoramaHouse$Hall" "subjectOfTest" "[I", Cond.fieldLink RX1 21 "PanoramaHouse$Hall" "signOfTest" "[I", Cond.fieldLink RX1 24 "PanoramaHouse$Hall" "numberOfTest" "[I"]
def wsX0_readStatement : List Cond := .code yX0_readStatement cX0_readStatement 5 (some .boolean) :: ((wsX0_readStatement_r1 ++ (wsX0_readStatement_r2 ++ (wsX0_readStatement_r3 ++ (wsX0_readStatement_r4 ++ wsX0_readStatement_r5)))) ++ wsX00 ++ wsX10)
def wsX0_readContract_r1 : List Cond := [Cond.fieldLink RX0 15 "PanoramaHouse$ContractReader" "bytesOnTape" "I", Cond.methodLink RX0 28 Lib.Math.min.name, Cond.static Lib.Math.min.name, Cond.initialized "java/lang/Math", Cond.code Lib.Math.min.name Lib.Math.min.code 2 (some .int), Cond.fieldLink RX0 34 "PanoramaHouse$ContractReader" "length" "I", Cond.fieldLink RX0 37 "PanoramaHouse$ContractReader" "end" "I", Cond.fieldLink RX0 43 "PanoramaHouse$ContractReader" "kind" "I", Cond.fieldLink RX0 50 "PanoramaHouse$ContractReader" "start" "I", Cond.methodLink RX0 23 yX1_clearContract, Cond.instanceMethod yX1_clearContract, Cond.selects RX1 yX1_clearContract yX1_clearContract, Cond.initialized RX1, Cond.code yX1_clearContract cX1_clearContract 1 none, Cond.fieldLink RX1 31 "PanoramaHouse$Hall" "parts" "I", Cond.fieldLink RX1 27 "PanoramaHouse$Hall" "weeks" "I", Cond.fieldLink RX1 34 "PanoramaHouse$Hall" "rent" "I", Cond.methodLink RX0 40 yX0_advance, Cond.instanceMethod yX0_advance, Cond.selects RX0 yX0_advance yX0_advance, Cond.initialized RX0, Cond.code yX0_advance cX0_advance 2 none, Cond.methodLink RX0 104 yX0_byteAt, Cond.instanceMethod yX0_byteAt]
def wsX0_readContract_r2 : List Cond := [Cond.selects RX0 yX0_byteAt yX0_byteAt, Cond.code yX0_byteAt cX0_byteAt 2 (some .int), Cond.fieldLink RX0 9 "PanoramaHouse$ContractReader" "tape" "[I", Cond.methodLink RX0 115 yX0_kindOf, Cond.static yX0_kindOf, Cond.code yX0_kindOf cX0_kindOf 1 (some .int), Cond.methodLink RX0 46 yX0_readStatement, Cond.instanceMethod yX0_readStatement, Cond.selects RX0 yX0_readStatement yX0_readStatement, Cond.code yX0_readStatement cX0_readStatement 5 (some .boolean), Cond.constant RX0 63 (99999), Cond.methodLink RX0 55 yX0_isWord, Cond.instanceMethod yX0_isWord, Cond.selects RX0 yX0_isWord yX0_isWord, Cond.code yX0_isWord cX0_isWord 3 (some .boolean), Cond.methodLink RX0 107 yJ0_length_8abf5, Cond.instanceMethod yJ0_length_8abf5, Cond.selects RJ0 yJ0_length_8abf5 yJ0_length_8abf5, Cond.initialized RJ0, Cond.code yJ0_length_8abf5 cJ0_length_8abf5 1 (some .int), Cond.fieldLink RJ0 9 "java/lang/String" "value" "[B", Cond.methodLink RJ0 335 yJ0_coder_7d493, Cond.instanceMethod yJ0_coder_7d493, Cond.selects RJ0 yJ0_coder_7d493 yJ0_coder_7d493]
def wsX0_readContract_r3 : List Cond := [Cond.code yJ0_coder_7d493 cJ0_coder_7d493 1 (some .byte), Cond.fieldLink RJ0 38 "java/lang/String" "COMPACT_STRINGS" "Z", Cond.fieldLink RJ0 15 "java/lang/String" "coder" "B", Cond.methodLink RX0 111 yJ0_charAt_5068e, Cond.instanceMethod yJ0_charAt_5068e, Cond.selects RJ0 yJ0_charAt_5068e yJ0_charAt_5068e, Cond.code yJ0_charAt_5068e cJ0_charAt_5068e 2 (some .char), Cond.methodLink RJ0 492 yJ0_isLatin1_aae02, Cond.instanceMethod yJ0_isLatin1_aae02, Cond.selects RJ0 yJ0_isLatin1_aae02 yJ0_isLatin1_aae02, Cond.code yJ0_isLatin1_aae02 cJ0_isLatin1_aae02 1 (some .boolean), Cond.methodLink RJ0 495 yJ1_charAt_3b067, Cond.static yJ1_charAt_3b067, Cond.initialized RJ1, Cond.code yJ1_charAt_3b067 cJ1_charAt_3b067 2 (some .char), Cond.methodLink RJ1 9 yJ0_checkIndex_df160, Cond.static yJ0_checkIndex_df160, Cond.code yJ0_checkIndex_df160 cJ0_checkIndex_df160 2 none, Cond.fieldLink RJ0 1053 "jdk/internal/util/Preconditions" "SIOOBE_FORMATTER" "Ljava/util/function/BiFunction;", Cond.methodLink RJ0 1059 yJ3_checkIndex_8e157, Cond.static yJ3_checkIndex_8e157, Cond.initialized RJ3, Cond.code yJ3_checkIndex_8e157 cJ3_checkIndex_8e157 3 (some .int), Cond.methodLink RJ0 498 yJ2_charAt_3b067]
def wsX0_readContract_r4 : List Cond := [Cond.static yJ2_charAt_3b067, Cond.initialized RJ2, Cond.code yJ2_charAt_3b067 cJ2_charAt_3b067 2 (some .char), Cond.methodLink RJ2 67 yJ2_checkIndex_2214a, Cond.static yJ2_checkIndex_2214a, Cond.code yJ2_checkIndex_2214a cJ2_checkIndex_2214a 2 none, Cond.methodLink RJ2 48 yJ2_length_9d52b, Cond.static yJ2_length_9d52b, Cond.code yJ2_length_9d52b cJ2_length_9d52b 1 (some .int), Cond.methodLink RJ2 414 yJ0_checkIndex_df160, Cond.methodLink RJ2 71 yJ2_getChar_3b067, Cond.static yJ2_getChar_3b067, Cond.code yJ2_getChar_3b067 cJ2_getChar_3b067 2 (some .char), Cond.fieldLink RJ2 44 "java/lang/StringUTF16" "$assertionsDisabled" "Z", Cond.fieldLink RJ2 59 "java/lang/StringUTF16" "HI_BYTE_SHIFT" "I", Cond.fieldLink RJ2 63 "java/lang/StringUTF16" "LO_BYTE_SHIFT" "I", Cond.methodLink RX0 64 yX0_numberHere, Cond.instanceMethod yX0_numberHere, Cond.selects RX0 yX0_numberHere yX0_numberHere, Cond.code yX0_numberHere cX0_numberHere 4 (some .int), Cond.methodLink RX0 68 yX1_setWeeks, Cond.instanceMethod yX1_setWeeks, Cond.selects RX1 yX1_setWeeks yX1_setWeeks, Cond.code yX1_setWeeks cX1_setWeeks 2 none]
def wsX0_readContract_r5 : List Cond := [Cond.methodLink RX0 71 yX1_setRent, Cond.instanceMethod yX1_setRent, Cond.selects RX1 yX1_setRent yX1_setRent, Cond.code yX1_setRent cX1_setRent 2 none, Cond.methodLink RX0 74 yX1_addPart, Cond.instanceMethod yX1_addPart, Cond.selects RX1 yX1_addPart yX1_addPart, Cond.code yX1_addPart cX1_addPart 2 none, Cond.fieldLink RX1 9 "PanoramaHouse$Hall" "shareOfPart" "[I", Cond.fieldLink RX1 15 "PanoramaHouse$Hall" "testsOfPart" "[I", Cond.methodLink RX0 77 yX0_readTests, Cond.instanceMethod yX0_readTests, Cond.selects RX0 yX0_readTests yX0_readTests, Cond.code yX0_readTests cX0_readTests 4 (some .boolean), Cond.methodLink RX0 86 yX0_readTest, Cond.instanceMethod yX0_readTest, Cond.selects RX0 yX0_readTest yX0_readTest, Cond.code yX0_readTest cX0_readTest 5 (some .boolean), Cond.methodLink RX0 91 yX0_subjectHere, Cond.instanceMethod yX0_subjectHere, Cond.selects RX0 yX0_subjectHere yX0_subjectHere, Cond.code yX0_subjectHere cX0_subjectHere 1 (some .int), Cond.methodLink RX0 80 yX0_signHere, Cond.instanceMethod yX0_signHere]
def wsX0_readContract_r6 : List Cond := [Cond.selects RX0 yX0_signHere yX0_signHere, Cond.code yX0_signHere cX0_signHere 1 (some .int), Cond.methodLink RX0 94 yX1_addTest, Cond.instanceMethod yX1_addTest, Cond.selects RX1 yX1_addTest yX1_addTest, Cond.code yX1_addTest cX1_addTest 6 none, Cond.fieldLink RX1 18 "PanoramaHouse$Hall" "subjectOfTest" "[I", Cond.fieldLink RX1 21 "PanoramaHouse$Hall" "signOfTest" "[I", Cond.fieldLink RX1 24 "PanoramaHouse$Hall" "numberOfTest" "[I"]
def wsX0_readContract : List Cond := .code yX0_readContract cX0_readContract 4 (some .int) :: ((wsX0_readContract_r1 ++ (wsX0_readContract_r2 ++ (wsX0_readContract_r3 ++ (wsX0_readContract_r4 ++ (wsX0_readContract_r5 ++ wsX0_readContract_r6))))) ++ wsX00 ++ wsX10)
def wsX1_init : List Cond := .code yX1_init cX1_init 1 none :: ([.methodLink RX1 3 objectInit, .instanceMethod objectInit, .code objectInit ⟨#[0xb1]⟩ 1 none, .arrayClass .int, .fieldLink RX1 9 "PanoramaHouse$Hall" "shareOfPart" "[I", .fieldLink RX1 15 "PanoramaHouse$Hall" "testsOfPart" "[I", .fieldLink RX1 18 "PanoramaHouse$Hall" "subjectOfTest" "[I", .fieldLink RX1 21 "PanoramaHouse$Hall" "signOfTest" "[I", .fieldLink RX1 24 "PanoramaHouse$Hall" "numberOfTest" "[I", .fieldLink RX1 27 "PanoramaHouse$Hall" "weeks" "I"] ++ wsX10)
def wsX1_valueOf : List Cond := .code yX1_valueOf cX1_valueOf 4 (some .int) :: ([.fieldLink RX1 37 "PanoramaHouse$Hall" "weeksGone" "I"] ++ wsX10)
def wsX1_holds : List Cond := .code yX1_holds cX1_holds 5 (some .boolean) :: ([.fieldLink RX1 18 "PanoramaHouse$Hall" "subjectOfTest" "[I", .fieldLink RX1 21 "PanoramaHouse$Hall" "signOfTest" "[I", .fieldLink RX1 24 "PanoramaHouse$Hall" "numberOfTest" "[I", .methodLink RX1 65 yX1_valueOf, .instanceMethod yX1_valueOf, .selects RX1 yX1_valueOf yX1_valueOf, .initialized RX1, .code yX1_valueOf cX1_valueOf 4 (some .int), .fieldLink RX1 37 "PanoramaHouse$Hall" "weeksGone" "I"] ++ wsX10)
def wsX1_allHold : List Cond := .code yX1_allHold cX1_allHold 5 (some .boolean) :: ([.fieldLink RX1 15 "PanoramaHouse$Hall" "testsOfPart" "[I", .methodLink RX1 62 yX1_holds, .instanceMethod yX1_holds, .selects RX1 yX1_holds yX1_holds, .initialized RX1, .code yX1_holds cX1_holds 5 (some .boolean), .fieldLink RX1 18 "PanoramaHouse$Hall" "subjectOfTest" "[I", .fieldLink RX1 21 "PanoramaHouse$Hall" "signOfTest" "[I", .fieldLink RX1 24 "PanoramaHouse$Hall" "numberOfTest" "[I", .methodLink RX1 65 yX1_valueOf, .instanceMethod yX1_valueOf, .selects RX1 yX1_valueOf yX1_valueOf, .code yX1_valueOf cX1_valueOf 4 (some .int), .fieldLink RX1 37 "PanoramaHouse$Hall" "weeksGone" "I"] ++ wsX10)
def wsX1_shareFor : List Cond := .code yX1_shareFor cX1_shareFor 4 (some .int) :: ([.fieldLink RX1 31 "PanoramaHouse$Hall" "parts" "I", .fieldLink RX1 9 "PanoramaHouse$Hall" "shareOfPart" "[I", .methodLink RX1 58 yX1_allHold, .instanceMethod yX1_allHold, .selects RX1 yX1_allHold yX1_allHold, .initialized RX1, .code yX1_allHold cX1_allHold 5 (some .boolean), .fieldLink RX1 15 "PanoramaHouse$Hall" "testsOfPart" "[I", .methodLink RX1 62 yX1_holds, .instanceMethod yX1_holds, .selects RX1 yX1_holds yX1_holds, .code yX1_holds cX1_holds 5 (some .boolean), .fieldLink RX1 18 "PanoramaHouse$Hall" "subjectOfTest" "[I", .fieldLink RX1 21 "PanoramaHouse$Hall" "signOfTest" "[I", .fieldLink RX1 24 "PanoramaHouse$Hall" "numberOfTest" "[I", .methodLink RX1 65 yX1_valueOf, .instanceMethod yX1_valueOf, .selects RX1 yX1_valueOf yX1_valueOf, .code yX1_valueOf cX1_valueOf 4 (some .int), .fieldLink RX1 37 "PanoramaHouse$Hall" "weeksGone" "I"] ++ wsX10)
def wsX1_passWeek_r1 : List Cond := [Cond.fieldLink RX1 37 "PanoramaHouse$Hall" "weeksGone" "I", Cond.fieldLink RX1 27 "PanoramaHouse$Hall" "weeks" "I", Cond.fieldLink RX1 34 "PanoramaHouse$Hall" "rent" "I", Cond.methodLink RX1 40 Lib.Math.min.name, Cond.static Lib.Math.min.name, Cond.initialized "java/lang/Math", Cond.code Lib.Math.min.name Lib.Math.min.code 2 (some .int), Cond.fieldLink RX1 49 "PanoramaHouse$Hall" "toHouse" "I", Cond.fieldLink RX1 52 "PanoramaHouse$Hall" "toHall" "I", Cond.fieldLink RX1 55 "PanoramaHouse$Hall" "visitors" "I", Cond.methodLink RX1 46 yX1_shareFor, Cond.instanceMethod yX1_shareFor, Cond.selects RX1 yX1_shareFor yX1_shareFor, Cond.initialized RX1, Cond.code yX1_shareFor cX1_shareFor 4 (some .int), Cond.fieldLink RX1 31 "PanoramaHouse$Hall" "parts" "I", Cond.fieldLink RX1 9 "PanoramaHouse$Hall" "shareOfPart" "[I", Cond.methodLink RX1 58 yX1_allHold, Cond.instanceMethod yX1_allHold, Cond.selects RX1 yX1_allHold yX1_allHold, Cond.code yX1_allHold cX1_allHold 5 (some .boolean), Cond.fieldLink RX1 15 "PanoramaHouse$Hall" "testsOfPart" "[I", Cond.methodLink RX1 62 yX1_holds, Cond.instanceMethod yX1_holds]
def wsX1_passWeek_r2 : List Cond := [Cond.selects RX1 yX1_holds yX1_holds, Cond.code yX1_holds cX1_holds 5 (some .boolean), Cond.fieldLink RX1 18 "PanoramaHouse$Hall" "subjectOfTest" "[I", Cond.fieldLink RX1 21 "PanoramaHouse$Hall" "signOfTest" "[I", Cond.fieldLink RX1 24 "PanoramaHouse$Hall" "numberOfTest" "[I", Cond.methodLink RX1 65 yX1_valueOf, Cond.instanceMethod yX1_valueOf, Cond.selects RX1 yX1_valueOf yX1_valueOf, Cond.code yX1_valueOf cX1_valueOf 4 (some .int)]
def wsX1_passWeek : List Cond := .code yX1_passWeek cX1_passWeek 5 (some .int) :: ((wsX1_passWeek_r1 ++ wsX1_passWeek_r2) ++ wsX10)
def wsX1_tell : List Cond := .code yX1_tell cX1_tell 2 (some .int) :: ([.fieldLink RX1 27 "PanoramaHouse$Hall" "weeks" "I", .fieldLink RX1 37 "PanoramaHouse$Hall" "weeksGone" "I", .fieldLink RX1 49 "PanoramaHouse$Hall" "toHouse" "I", .fieldLink RX1 52 "PanoramaHouse$Hall" "toHall" "I", .fieldLink RX1 55 "PanoramaHouse$Hall" "visitors" "I", .fieldLink RX1 34 "PanoramaHouse$Hall" "rent" "I"] ++ wsX10)
def wsX2_init : List Cond := .code yX2_init cX2_init 3 none :: ([.methodLink RX2 3 objectInit, .instanceMethod objectInit, .code objectInit ⟨#[0xb1]⟩ 1 none, .arrayClass .int, .fieldLink RX2 9 "PanoramaHouse$Paintwork" "skillOf" "[I", .fieldLink RX2 15 "PanoramaHouse$Paintwork" "squareOfGang" "[I", .fieldLink RX2 18 "PanoramaHouse$Paintwork" "coatsDone" "[I", .fieldLink RX2 21 "PanoramaHouse$Paintwork" "gangOn" "[I", .fieldLink RX2 24 "PanoramaHouse$Paintwork" "workLeft" "[I", .fieldLink RX2 27 "PanoramaHouse$Paintwork" "firstDoneOn" "[I", .fieldLink RX2 30 "PanoramaHouse$Paintwork" "secondDoneOn" "[I", .fieldLink RX2 33 "PanoramaHouse$Paintwork" "lastGang" "[I", .fieldLink RX2 36 "PanoramaHouse$Paintwork" "workGiven" "[I", .fieldLink RX2 39 "PanoramaHouse$Paintwork" "round" "LPanoramaHouse$Round;"] ++ wsX20)
def wsX2_today : List Cond := .code yX2_today cX2_today 1 (some .int) :: ([.fieldLink RX2 43 "PanoramaHouse$Paintwork" "daysGone" "I"] ++ wsX20)
def wsX2_gangs : List Cond := .code yX2_gangs cX2_gangs 1 (some .int) :: ([.fieldLink RX2 47 "PanoramaHouse$Paintwork" "gangsHired" "I"] ++ wsX20)
def wsX2_finishedSquares : List Cond := .code yX2_finishedSquares cX2_finishedSquares 3 (some .int) :: ([.fieldLink RX2 18 "PanoramaHouse$Paintwork" "coatsDone" "[I"] ++ wsX20)
def wsX2_hire : List Cond := .code yX2_hire cX2_hire 2 (some .int) :: ([.fieldLink RX2 47 "PanoramaHouse$Paintwork" "gangsHired" "I", .fieldLink RX2 9 "PanoramaHouse$Paintwork" "skillOf" "[I"] ++ wsX20)
def wsX2_isGang : List Cond := .code yX2_isGang cX2_isGang 2 (some .boolean) :: ([.fieldLink RX2 47 "PanoramaHouse$Paintwork" "gangsHired" "I"] ++ wsX20)
def wsX5_isSquare : List Cond := .code yX5_isSquare cX5_isSquare 1 (some .boolean) :: ([])
def wsX4_colouredIn : List Cond := .code yX4_colouredIn cX4_colouredIn 2 (some .int) :: ([.fieldLink RX4 15 "PanoramaHouse$Round" "colouredOfSquare" "[I", .static yX5_isSquare, .initialized RX5, .code yX5_isSquare cX5_isSquare 1 (some .boolean)] ++ wsX40)
def wsX2_firstCoatWork : List Cond := .code yX2_firstCoatWork cX2_firstCoatWork 2 (some .int) :: ([.fieldLink RX2 39 "PanoramaHouse$Paintwork" "round" "LPanoramaHouse$Round;", .methodLink RX2 50 yX4_colouredIn, .instanceMethod yX4_colouredIn, .selects RX4 yX4_colouredIn yX4_colouredIn, .initialized RX4, .code yX4_colouredIn cX4_colouredIn 2 (some .int), .fieldLink RX4 15 "PanoramaHouse$Round" "colouredOfSquare" "[I", .static yX5_isSquare, .initialized RX5, .code yX5_isSquare cX5_isSquare 1 (some .boolean)] ++ wsX20 ++ wsX40)
def wsX2_beginCoat_r1 : List Cond := [Cond.fieldLink RX2 15 "PanoramaHouse$Paintwork" "squareOfGang" "[I", Cond.fieldLink RX2 18 "PanoramaHouse$Paintwork" "coatsDone" "[I", Cond.fieldLink RX2 21 "PanoramaHouse$Paintwork" "gangOn" "[I", Cond.fieldLink RX2 43 "PanoramaHouse$Paintwork" "daysGone" "I", Cond.fieldLink RX2 27 "PanoramaHouse$Paintwork" "firstDoneOn" "[I", Cond.fieldLink RX2 24 "PanoramaHouse$Paintwork" "workLeft" "[I", Cond.methodLink RX2 66 Lib.Math.max.name, Cond.static Lib.Math.max.name, Cond.initialized "java/lang/Math", Cond.code Lib.Math.max.name Lib.Math.max.code 2 (some .int), Cond.methodLink RX2 56 yX2_isGang, Cond.instanceMethod yX2_isGang, Cond.selects RX2 yX2_isGang yX2_isGang, Cond.initialized RX2, Cond.code yX2_isGang cX2_isGang 2 (some .boolean), Cond.fieldLink RX2 47 "PanoramaHouse$Paintwork" "gangsHired" "I", Cond.static yX5_isSquare, Cond.initialized RX5, Cond.code yX5_isSquare cX5_isSquare 1 (some .boolean), Cond.methodLink RX2 63 yX2_firstCoatWork, Cond.instanceMethod yX2_firstCoatWork, Cond.selects RX2 yX2_firstCoatWork yX2_firstCoatWork, Cond.code yX2_firstCoatWork cX2_firstCoatWork 2 (some .int), Cond.fieldLink RX2 39 "PanoramaHouse$Paintwork" "round" "LPanoramaHouse$Round;"]
def wsX2_beginCoat_r2 : List Cond := [Cond.methodLink RX2 50 yX4_colouredIn, Cond.instanceMethod yX4_colouredIn, Cond.selects RX4 yX4_colouredIn yX4_colouredIn, Cond.initialized RX4, Cond.code yX4_colouredIn cX4_colouredIn 2 (some .int), Cond.fieldLink RX4 15 "PanoramaHouse$Round" "colouredOfSquare" "[I"]
def wsX2_beginCoat : List Cond := .code yX2_beginCoat cX2_beginCoat 5 (some .int) :: ((wsX2_beginCoat_r1 ++ wsX2_beginCoat_r2) ++ wsX20 ++ wsX40)
def wsX2_endCoat : List Cond := .code yX2_endCoat cX2_endCoat 3 none :: ([.fieldLink RX2 18 "PanoramaHouse$Paintwork" "coatsDone" "[I", .fieldLink RX2 27 "PanoramaHouse$Paintwork" "firstDoneOn" "[I", .fieldLink RX2 43 "PanoramaHouse$Paintwork" "daysGone" "I", .fieldLink RX2 30 "PanoramaHouse$Paintwork" "secondDoneOn" "[I", .fieldLink RX2 33 "PanoramaHouse$Paintwork" "lastGang" "[I", .fieldLink RX2 21 "PanoramaHouse$Paintwork" "gangOn" "[I", .fieldLink RX2 15 "PanoramaHouse$Paintwork" "squareOfGang" "[I", .methodLink RX2 56 yX2_isGang, .instanceMethod yX2_isGang, .selects RX2 yX2_isGang yX2_isGang, .initialized RX2, .code yX2_isGang cX2_isGang 2 (some .boolean), .fieldLink RX2 47 "PanoramaHouse$Paintwork" "gangsHired" "I", .static yX5_isSquare, .initialized RX5, .code yX5_isSquare cX5_isSquare 1 (some .boolean)] ++ wsX20)
def wsX2_workADay_r1 : List Cond := [Cond.fieldLink RX2 24 "PanoramaHouse$Paintwork" "workLeft" "[I", Cond.fieldLink RX2 9 "PanoramaHouse$Paintwork" "skillOf" "[I", Cond.methodLink RX2 66 Lib.Math.max.name, Cond.static Lib.Math.max.name, Cond.initialized "java/lang/Math", Cond.code Lib.Math.max.name Lib.Math.max.code 2 (some .int), Cond.methodLink RX2 56 yX2_isGang, Cond.instanceMethod yX2_isGang, Cond.selects RX2 yX2_isGang yX2_isGang, Cond.initialized RX2, Cond.code yX2_isGang cX2_isGang 2 (some .boolean), Cond.fieldLink RX2 47 "PanoramaHouse$Paintwork" "gangsHired" "I", Cond.static yX5_isSquare, Cond.initialized RX5, Cond.code yX5_isSquare cX5_isSquare 1 (some .boolean), Cond.methodLink RX2 76 yX2_endCoat, Cond.instanceMethod yX2_endCoat, Cond.selects RX2 yX2_endCoat yX2_endCoat, Cond.code yX2_endCoat cX2_endCoat 3 none, Cond.fieldLink RX2 18 "PanoramaHouse$Paintwork" "coatsDone" "[I", Cond.fieldLink RX2 27 "PanoramaHouse$Paintwork" "firstDoneOn" "[I", Cond.fieldLink RX2 43 "PanoramaHouse$Paintwork" "daysGone" "I", Cond.fieldLink RX2 30 "PanoramaHouse$Paintwork" "secondDoneOn" "[I", Cond.fieldLink RX2 33 "PanoramaHouse$Paintwork" "lastGang" "[I"]
def wsX2_workADay_r2 : List Cond := [Cond.fieldLink RX2 21 "PanoramaHouse$Paintwork" "gangOn" "[I", Cond.fieldLink RX2 15 "PanoramaHouse$Paintwork" "squareOfGang" "[I"]
def wsX2_workADay : List Cond := .code yX2_workADay cX2_workADay 3 none :: ((wsX2_workADay_r1 ++ wsX2_workADay_r2) ++ wsX20)
def wsX2_passDay_r1 : List Cond := [Cond.fieldLink RX2 43 "PanoramaHouse$Paintwork" "daysGone" "I", Cond.fieldLink RX2 15 "PanoramaHouse$Paintwork" "squareOfGang" "[I", Cond.methodLink RX2 72 yX2_workADay, Cond.instanceMethod yX2_workADay, Cond.selects RX2 yX2_workADay yX2_workADay, Cond.initialized RX2, Cond.code yX2_workADay cX2_workADay 3 none, Cond.fieldLink RX2 24 "PanoramaHouse$Paintwork" "workLeft" "[I", Cond.fieldLink RX2 9 "PanoramaHouse$Paintwork" "skillOf" "[I", Cond.methodLink RX2 66 Lib.Math.max.name, Cond.static Lib.Math.max.name, Cond.initialized "java/lang/Math", Cond.code Lib.Math.max.name Lib.Math.max.code 2 (some .int), Cond.methodLink RX2 56 yX2_isGang, Cond.instanceMethod yX2_isGang, Cond.selects RX2 yX2_isGang yX2_isGang, Cond.code yX2_isGang cX2_isGang 2 (some .boolean), Cond.fieldLink RX2 47 "PanoramaHouse$Paintwork" "gangsHired" "I", Cond.static yX5_isSquare, Cond.initialized RX5, Cond.code yX5_isSquare cX5_isSquare 1 (some .boolean), Cond.methodLink RX2 76 yX2_endCoat, Cond.instanceMethod yX2_endCoat, Cond.selects RX2 yX2_endCoat yX2_endCoat]
def wsX2_passDay_r2 : List Cond := [Cond.code yX2_endCoat cX2_endCoat 3 none, Cond.fieldLink RX2 18 "PanoramaHouse$Paintwork" "coatsDone" "[I", Cond.fieldLink RX2 27 "PanoramaHouse$Paintwork" "firstDoneOn" "[I", Cond.fieldLink RX2 30 "PanoramaHouse$Paintwork" "secondDoneOn" "[I", Cond.fieldLink RX2 33 "PanoramaHouse$Paintwork" "lastGang" "[I", Cond.fieldLink RX2 21 "PanoramaHouse$Paintwork" "gangOn" "[I"]
def wsX2_passDay : List Cond := .code yX2_passDay cX2_passDay 2 (some .int) :: ((wsX2_passDay_r1 ++ wsX2_passDay_r2) ++ wsX20)
def wsX2_tellSquare : List Cond := .code yX2_tellSquare cX2_tellSquare 3 (some .int) :: ([.fieldLink RX2 18 "PanoramaHouse$Paintwork" "coatsDone" "[I", .fieldLink RX2 21 "PanoramaHouse$Paintwork" "gangOn" "[I", .fieldLink RX2 24 "PanoramaHouse$Paintwork" "workLeft" "[I", .fieldLink RX2 27 "PanoramaHouse$Paintwork" "firstDoneOn" "[I", .fieldLink RX2 30 "PanoramaHouse$Paintwork" "secondDoneOn" "[I", .fieldLink RX2 33 "PanoramaHouse$Paintwork" "lastGang" "[I", .static yX5_isSquare, .initialized RX5, .code yX5_isSquare cX5_isSquare 1 (some .boolean), .methodLink RX2 63 yX2_firstCoatWork, .instanceMethod yX2_firstCoatWork, .selects RX2 yX2_firstCoatWork yX2_firstCoatWork, .initialized RX2, .code yX2_firstCoatWork cX2_firstCoatWork 2 (some .int), .fieldLink RX2 39 "PanoramaHouse$Paintwork" "round" "LPanoramaHouse$Round;", .methodLink RX2 50 yX4_colouredIn, .instanceMethod yX4_colouredIn, .selects RX4 yX4_colouredIn yX4_colouredIn, .initialized RX4, .code yX4_colouredIn cX4_colouredIn 2 (some .int), .fieldLink RX4 15 "PanoramaHouse$Round" "colouredOfSquare" "[I"] ++ wsX20 ++ wsX40)
def wsX2_daysOf : List Cond := .code yX2_daysOf cX2_daysOf 2 (some .int) :: ([.fieldLink RX2 9 "PanoramaHouse$Paintwork" "skillOf" "[I", .fieldLink RX2 36 "PanoramaHouse$Paintwork" "workGiven" "[I"] ++ wsX20)
def wsX2_mostDays : List Cond := .code yX2_mostDays cX2_mostDays 4 (some .int) :: ([.methodLink RX2 66 Lib.Math.max.name, .static Lib.Math.max.name, .initialized "java/lang/Math", .code Lib.Math.max.name Lib.Math.max.code 2 (some .int), .methodLink RX2 92 yX2_daysOf, .instanceMethod yX2_daysOf, .selects RX2 yX2_daysOf yX2_daysOf, .initialized RX2, .code yX2_daysOf cX2_daysOf 2 (some .int), .fieldLink RX2 9 "PanoramaHouse$Paintwork" "skillOf" "[I", .fieldLink RX2 36 "PanoramaHouse$Paintwork" "workGiven" "[I"] ++ wsX20)
def wsX2_leastBelow_r1 : List Cond := [Cond.methodLink RX2 89 Lib.Math.min.name, Cond.static Lib.Math.min.name, Cond.initialized "java/lang/Math", Cond.code Lib.Math.min.name Lib.Math.min.code 2 (some .int), Cond.fieldLink RX2 36 "PanoramaHouse$Paintwork" "workGiven" "[I", Cond.methodLink RX2 86 yX2_mostDays, Cond.instanceMethod yX2_mostDays, Cond.selects RX2 yX2_mostDays yX2_mostDays, Cond.initialized RX2, Cond.code yX2_mostDays cX2_mostDays 4 (some .int), Cond.methodLink RX2 66 Lib.Math.max.name, Cond.static Lib.Math.max.name, Cond.code Lib.Math.max.name Lib.Math.max.code 2 (some .int), Cond.methodLink RX2 92 yX2_daysOf, Cond.instanceMethod yX2_daysOf, Cond.selects RX2 yX2_daysOf yX2_daysOf, Cond.code yX2_daysOf cX2_daysOf 2 (some .int), Cond.fieldLink RX2 9 "PanoramaHouse$Paintwork" "skillOf" "[I", Cond.methodLink RX2 63 yX2_firstCoatWork, Cond.instanceMethod yX2_firstCoatWork, Cond.selects RX2 yX2_firstCoatWork yX2_firstCoatWork, Cond.code yX2_firstCoatWork cX2_firstCoatWork 2 (some .int), Cond.fieldLink RX2 39 "PanoramaHouse$Paintwork" "round" "LPanoramaHouse$Round;", Cond.methodLink RX2 50 yX4_colouredIn]
def wsX2_leastBelow_r2 : List Cond := [Cond.instanceMethod yX4_colouredIn, Cond.selects RX4 yX4_colouredIn yX4_colouredIn, Cond.initialized RX4, Cond.code yX4_colouredIn cX4_colouredIn 2 (some .int), Cond.fieldLink RX4 15 "PanoramaHouse$Round" "colouredOfSquare" "[I", Cond.static yX5_isSquare, Cond.initialized RX5, Cond.code yX5_isSquare cX5_isSquare 1 (some .boolean), Cond.methodLink RX2 82 yX2_leastBelow, Cond.instanceMethod yX2_leastBelow, Cond.selects RX2 yX2_leastBelow yX2_leastBelow]
def wsX2_leastBelow : List Cond := .code yX2_leastBelow cX2_leastBelow 8 (some .int) :: ((wsX2_leastBelow_r1 ++ wsX2_leastBelow_r2) ++ wsX20 ++ wsX40)
def wsX2_leastDays_r1 : List Cond := [Cond.fieldLink RX2 47 "PanoramaHouse$Paintwork" "gangsHired" "I", Cond.fieldLink RX2 36 "PanoramaHouse$Paintwork" "workGiven" "[I", Cond.constant RX2 81 (2147483647), Cond.methodLink RX2 82 yX2_leastBelow, Cond.instanceMethod yX2_leastBelow, Cond.selects RX2 yX2_leastBelow yX2_leastBelow, Cond.initialized RX2, Cond.code yX2_leastBelow cX2_leastBelow 8 (some .int), Cond.methodLink RX2 89 Lib.Math.min.name, Cond.static Lib.Math.min.name, Cond.initialized "java/lang/Math", Cond.code Lib.Math.min.name Lib.Math.min.code 2 (some .int), Cond.methodLink RX2 86 yX2_mostDays, Cond.instanceMethod yX2_mostDays, Cond.selects RX2 yX2_mostDays yX2_mostDays, Cond.code yX2_mostDays cX2_mostDays 4 (some .int), Cond.methodLink RX2 66 Lib.Math.max.name, Cond.static Lib.Math.max.name, Cond.code Lib.Math.max.name Lib.Math.max.code 2 (some .int), Cond.methodLink RX2 92 yX2_daysOf, Cond.instanceMethod yX2_daysOf, Cond.selects RX2 yX2_daysOf yX2_daysOf, Cond.code yX2_daysOf cX2_daysOf 2 (some .int), Cond.fieldLink RX2 9 "PanoramaHouse$Paintwork" "skillOf" "[I"]
def wsX2_leastDays_r2 : List Cond := [Cond.methodLink RX2 63 yX2_firstCoatWork, Cond.instanceMethod yX2_firstCoatWork, Cond.selects RX2 yX2_firstCoatWork yX2_firstCoatWork, Cond.code yX2_firstCoatWork cX2_firstCoatWork 2 (some .int), Cond.fieldLink RX2 39 "PanoramaHouse$Paintwork" "round" "LPanoramaHouse$Round;", Cond.methodLink RX2 50 yX4_colouredIn, Cond.instanceMethod yX4_colouredIn, Cond.selects RX4 yX4_colouredIn yX4_colouredIn, Cond.initialized RX4, Cond.code yX4_colouredIn cX4_colouredIn 2 (some .int), Cond.fieldLink RX4 15 "PanoramaHouse$Round" "colouredOfSquare" "[I", Cond.static yX5_isSquare, Cond.initialized RX5, Cond.code yX5_isSquare cX5_isSquare 1 (some .boolean)]
def wsX2_leastDays : List Cond := .code yX2_leastDays cX2_leastDays 5 (some .int) :: ((wsX2_leastDays_r1 ++ wsX2_leastDays_r2) ++ wsX20 ++ wsX40)
def wsX3_init : List Cond := .code yX3_init cX3_init 1 none :: ([.methodLink RX3 3 objectInit, .instanceMethod objectInit, .code objectInit ⟨#[0xb1]⟩ 1 none, .arrayClass .int, .fieldLink RX3 9 "PanoramaHouse$Platform" "wentUp" "[I", .fieldLink RX3 15 "PanoramaHouse$Platform" "most" "I"] ++ wsX30)
def wsX3_setRoom : List Cond := .code yX3_setRoom cX3_setRoom 2 (some .boolean) :: ([.fieldLink RX3 15 "PanoramaHouse$Platform" "most" "I"] ++ wsX30)
def wsJ9_floorMod_7cf53 : List Cond := .code yJ9_floorMod_7cf53 cJ9_floorMod_7cf53 3 (some .int) :: ([])
def wsX3_passMinute : List Cond := .code yX3_passMinute cX3_passMinute 5 (some .int) :: ([.fieldLink RX3 19 "PanoramaHouse$Platform" "waiting" "I", .fieldLink RX3 22 "PanoramaHouse$Platform" "minutes" "I", .fieldLink RX3 31 "PanoramaHouse$Platform" "there" "I", .fieldLink RX3 9 "PanoramaHouse$Platform" "wentUp" "[I", .fieldLink RX3 34 "PanoramaHouse$Platform" "left" "I", .fieldLink RX3 15 "PanoramaHouse$Platform" "most" "I", .methodLink RX3 37 Lib.Math.max.name, .static Lib.Math.max.name, .initialized "java/lang/Math", .code Lib.Math.max.name Lib.Math.max.code 2 (some .int), .methodLink RX3 40 Lib.Math.min.name, .static Lib.Math.min.name, .code Lib.Math.min.name Lib.Math.min.code 2 (some .int), .fieldLink RX3 43 "PanoramaHouse$Platform" "mostEver" "I", .methodLink RX3 25 yJ9_floorMod_7cf53, .static yJ9_floorMod_7cf53, .initialized RJ9, .code yJ9_floorMod_7cf53 cJ9_floorMod_7cf53 3 (some .int)] ++ wsX30)
def wsX3_tell : List Cond := .code yX3_tell cX3_tell 2 (some .int) :: ([.fieldLink RX3 31 "PanoramaHouse$Platform" "there" "I", .fieldLink RX3 19 "PanoramaHouse$Platform" "waiting" "I", .fieldLink RX3 34 "PanoramaHouse$Platform" "left" "I", .fieldLink RX3 22 "PanoramaHouse$Platform" "minutes" "I", .fieldLink RX3 43 "PanoramaHouse$Platform" "mostEver" "I", .fieldLink RX3 15 "PanoramaHouse$Platform" "most" "I"] ++ wsX30)
def wsX4_init : List Cond := .code yX4_init cX4_init 1 none :: ([.methodLink RX4 3 objectInit, .instanceMethod objectInit, .code objectInit ⟨#[0xb1]⟩ 1 none, .arrayClass .byte, .fieldLink RX4 9 "PanoramaHouse$Round" "marks" "[B", .arrayClass .int, .fieldLink RX4 15 "PanoramaHouse$Round" "colouredOfSquare" "[I"] ++ wsX40)
def wsX4_isMark : List Cond := .code yX4_isMark cX4_isMark 3 (some .boolean) :: ([])
def wsX4_isPlace : List Cond := .code yX4_isPlace cX4_isPlace 2 (some .boolean) :: ([])
def wsX4_isColour : List Cond := .code yX4_isColour cX4_isColour 1 (some .boolean) :: ([])
def wsX4_offsetOf : List Cond := .code yX4_offsetOf cX4_offsetOf 2 (some .int) :: ([])
def wsX4_columnOf : List Cond := .code yX4_columnOf cX4_columnOf 2 (some .int) :: ([.methodLink RX4 19 yX4_offsetOf, .static yX4_offsetOf, .initialized RX4, .code yX4_offsetOf cX4_offsetOf 2 (some .int), .methodLink RX4 23 yJ9_floorMod_7cf53, .static yJ9_floorMod_7cf53, .initialized RJ9, .code yJ9_floorMod_7cf53 cJ9_floorMod_7cf53 3 (some .int)])
def wsX4_stretchOf : List Cond := .code yX4_stretchOf cX4_stretchOf 2 (some .int) :: ([])
def wsX4_rowOf : List Cond := .code yX4_rowOf cX4_rowOf 2 (some .int) :: ([.methodLink RX4 29 yX4_stretchOf, .static yX4_stretchOf, .initialized RX4, .code yX4_stretchOf cX4_stretchOf 2 (some .int)])
def wsX4_squareOf : List Cond := .code yX4_squareOf cX4_squareOf 2 (some .int) :: ([])
def wsX4_placeInMarks : List Cond := .code yX4_placeInMarks cX4_placeInMarks 3 (some .int) :: ([])
def wsX4_colourInStrip : List Cond := .code yX4_colourInStrip cX4_colourInStrip 7 (some .int) :: ([.methodLink RX4 81 Lib.Math.min.name, .static Lib.Math.min.name, .initialized "java/lang/Math", .code Lib.Math.min.name Lib.Math.min.code 2 (some .int), .fieldLink RX4 9 "PanoramaHouse$Round" "marks" "[B", .methodLink RX4 29 yX4_stretchOf, .static yX4_stretchOf, .initialized RX4, .code yX4_stretchOf cX4_stretchOf 2 (some .int), .methodLink RX4 32 yX4_isMark, .static yX4_isMark, .code yX4_isMark cX4_isMark 3 (some .boolean), .methodLink RX4 49 yX4_placeInMarks, .static yX4_placeInMarks, .code yX4_placeInMarks cX4_placeInMarks 3 (some .int)] ++ wsX40)
def wsX4_colourShown_r1 : List Cond := [Cond.methodLink RX4 23 yJ9_floorMod_7cf53, Cond.static yJ9_floorMod_7cf53, Cond.initialized RJ9, Cond.code yJ9_floorMod_7cf53 cJ9_floorMod_7cf53 3 (some .int), Cond.methodLink RX4 19 yX4_offsetOf, Cond.static yX4_offsetOf, Cond.initialized RX4, Cond.code yX4_offsetOf cX4_offsetOf 2 (some .int), Cond.methodLink RX4 78 yX4_colourInStrip, Cond.instanceMethod yX4_colourInStrip, Cond.selects RX4 yX4_colourInStrip yX4_colourInStrip, Cond.code yX4_colourInStrip cX4_colourInStrip 7 (some .int), Cond.methodLink RX4 81 Lib.Math.min.name, Cond.static Lib.Math.min.name, Cond.initialized "java/lang/Math", Cond.code Lib.Math.min.name Lib.Math.min.code 2 (some .int), Cond.fieldLink RX4 9 "PanoramaHouse$Round" "marks" "[B", Cond.methodLink RX4 29 yX4_stretchOf, Cond.static yX4_stretchOf, Cond.code yX4_stretchOf cX4_stretchOf 2 (some .int), Cond.methodLink RX4 32 yX4_isMark, Cond.static yX4_isMark, Cond.code yX4_isMark cX4_isMark 3 (some .boolean), Cond.methodLink RX4 49 yX4_placeInMarks]
def wsX4_colourShown_r2 : List Cond := [Cond.static yX4_placeInMarks, Cond.code yX4_placeInMarks cX4_placeInMarks 3 (some .int)]
def wsX4_colourShown : List Cond := .code yX4_colourShown cX4_colourShown 9 (some .int) :: ((wsX4_colourShown_r1 ++ wsX4_colourShown_r2) ++ wsX40)
def wsX4_viewAt_r1 : List Cond := [Cond.methodLink RX4 75 yX4_colourShown, Cond.instanceMethod yX4_colourShown, Cond.selects RX4 yX4_colourShown yX4_colourShown, Cond.initialized RX4, Cond.code yX4_colourShown cX4_colourShown 9 (some .int), Cond.methodLink RX4 23 yJ9_floorMod_7cf53, Cond.static yJ9_floorMod_7cf53, Cond.initialized RJ9, Cond.code yJ9_floorMod_7cf53 cJ9_floorMod_7cf53 3 (some .int), Cond.methodLink RX4 19 yX4_offsetOf, Cond.static yX4_offsetOf, Cond.code yX4_offsetOf cX4_offsetOf 2 (some .int), Cond.methodLink RX4 78 yX4_colourInStrip, Cond.instanceMethod yX4_colourInStrip, Cond.selects RX4 yX4_colourInStrip yX4_colourInStrip, Cond.code yX4_colourInStrip cX4_colourInStrip 7 (some .int), Cond.methodLink RX4 81 Lib.Math.min.name, Cond.static Lib.Math.min.name, Cond.initialized "java/lang/Math", Cond.code Lib.Math.min.name Lib.Math.min.code 2 (some .int), Cond.fieldLink RX4 9 "PanoramaHouse$Round" "marks" "[B", Cond.methodLink RX4 29 yX4_stretchOf, Cond.static yX4_stretchOf, Cond.code yX4_stretchOf cX4_stretchOf 2 (some .int)]
def wsX4_viewAt_r2 : List Cond := [Cond.methodLink RX4 32 yX4_isMark, Cond.static yX4_isMark, Cond.code yX4_isMark cX4_isMark 3 (some .boolean), Cond.methodLink RX4 49 yX4_placeInMarks, Cond.static yX4_placeInMarks, Cond.code yX4_placeInMarks cX4_placeInMarks 3 (some .int)]
def wsX4_viewAt : List Cond := .code yX4_viewAt cX4_viewAt 10 (some .int) :: ((wsX4_viewAt_r1 ++ wsX4_viewAt_r2) ++ wsX40)
def wsX4_setMark_r1 : List Cond := [Cond.fieldLink RX4 9 "PanoramaHouse$Round" "marks" "[B", Cond.fieldLink RX4 15 "PanoramaHouse$Round" "colouredOfSquare" "[I", Cond.methodLink RX4 32 yX4_isMark, Cond.static yX4_isMark, Cond.initialized RX4, Cond.code yX4_isMark cX4_isMark 3 (some .boolean), Cond.methodLink RX4 36 yX4_isColour, Cond.static yX4_isColour, Cond.code yX4_isColour cX4_isColour 1 (some .boolean), Cond.methodLink RX4 40 yX4_columnOf, Cond.static yX4_columnOf, Cond.code yX4_columnOf cX4_columnOf 2 (some .int), Cond.methodLink RX4 19 yX4_offsetOf, Cond.static yX4_offsetOf, Cond.code yX4_offsetOf cX4_offsetOf 2 (some .int), Cond.methodLink RX4 23 yJ9_floorMod_7cf53, Cond.static yJ9_floorMod_7cf53, Cond.initialized RJ9, Cond.code yJ9_floorMod_7cf53 cJ9_floorMod_7cf53 3 (some .int), Cond.methodLink RX4 43 yX4_rowOf, Cond.static yX4_rowOf, Cond.code yX4_rowOf cX4_rowOf 2 (some .int), Cond.methodLink RX4 29 yX4_stretchOf, Cond.static yX4_stretchOf]
def wsX4_setMark_r2 : List Cond := [Cond.code yX4_stretchOf cX4_stretchOf 2 (some .int), Cond.methodLink RX4 46 yX4_viewAt, Cond.instanceMethod yX4_viewAt, Cond.selects RX4 yX4_viewAt yX4_viewAt, Cond.code yX4_viewAt cX4_viewAt 10 (some .int), Cond.methodLink RX4 75 yX4_colourShown, Cond.instanceMethod yX4_colourShown, Cond.selects RX4 yX4_colourShown yX4_colourShown, Cond.code yX4_colourShown cX4_colourShown 9 (some .int), Cond.methodLink RX4 78 yX4_colourInStrip, Cond.instanceMethod yX4_colourInStrip, Cond.selects RX4 yX4_colourInStrip yX4_colourInStrip, Cond.code yX4_colourInStrip cX4_colourInStrip 7 (some .int), Cond.methodLink RX4 81 Lib.Math.min.name, Cond.static Lib.Math.min.name, Cond.initialized "java/lang/Math", Cond.code Lib.Math.min.name Lib.Math.min.code 2 (some .int), Cond.methodLink RX4 49 yX4_placeInMarks, Cond.static yX4_placeInMarks, Cond.code yX4_placeInMarks cX4_placeInMarks 3 (some .int), Cond.methodLink RX4 53 yX4_squareOf, Cond.static yX4_squareOf, Cond.code yX4_squareOf cX4_squareOf 2 (some .int), Cond.static yX5_isSquare]
def wsX4_setMark_r3 : List Cond := [Cond.initialized RX5, Cond.code yX5_isSquare cX5_isSquare 1 (some .boolean)]
def wsX4_setMark : List Cond := .code yX4_setMark cX4_setMark 10 (some .boolean) :: ((wsX4_setMark_r1 ++ (wsX4_setMark_r2 ++ wsX4_setMark_r3)) ++ wsX40)
def wsJ9_floorDiv_7cf53 : List Cond := .code yJ9_floorDiv_7cf53 cJ9_floorDiv_7cf53 3 (some .int) :: ([])
def wsX4_partOfWay : List Cond := .code yX4_partOfWay cX4_partOfWay 3 (some .int) :: ([.methodLink RX4 72 yJ9_floorDiv_7cf53, .static yJ9_floorDiv_7cf53, .initialized RJ9, .code yJ9_floorDiv_7cf53 cJ9_floorDiv_7cf53 3 (some .int)])
def wsX4_drawLine_r1 : List Cond := [Cond.methodLink RX4 59 Lib.Math.abs.name, Cond.static Lib.Math.abs.name, Cond.initialized "java/lang/Math", Cond.code Lib.Math.abs.name Lib.Math.abs.code 1 (some .int), Cond.methodLink RX4 62 Lib.Math.max.name, Cond.static Lib.Math.max.name, Cond.code Lib.Math.max.name Lib.Math.max.code 2 (some .int), Cond.methodLink RX4 32 yX4_isMark, Cond.static yX4_isMark, Cond.initialized RX4, Cond.code yX4_isMark cX4_isMark 3 (some .boolean), Cond.methodLink RX4 36 yX4_isColour, Cond.static yX4_isColour, Cond.code yX4_isColour cX4_isColour 1 (some .boolean), Cond.methodLink RX4 65 yX4_partOfWay, Cond.static yX4_partOfWay, Cond.code yX4_partOfWay cX4_partOfWay 3 (some .int), Cond.methodLink RX4 72 yJ9_floorDiv_7cf53, Cond.static yJ9_floorDiv_7cf53, Cond.initialized RJ9, Cond.code yJ9_floorDiv_7cf53 cJ9_floorDiv_7cf53 3 (some .int), Cond.methodLink RX4 68 yX4_setMark, Cond.instanceMethod yX4_setMark, Cond.selects RX4 yX4_setMark yX4_setMark]
def wsX4_drawLine_r2 : List Cond := [Cond.code yX4_setMark cX4_setMark 10 (some .boolean), Cond.fieldLink RX4 9 "PanoramaHouse$Round" "marks" "[B", Cond.fieldLink RX4 15 "PanoramaHouse$Round" "colouredOfSquare" "[I", Cond.methodLink RX4 40 yX4_columnOf, Cond.static yX4_columnOf, Cond.code yX4_columnOf cX4_columnOf 2 (some .int), Cond.methodLink RX4 19 yX4_offsetOf, Cond.static yX4_offsetOf, Cond.code yX4_offsetOf cX4_offsetOf 2 (some .int), Cond.methodLink RX4 23 yJ9_floorMod_7cf53, Cond.static yJ9_floorMod_7cf53, Cond.code yJ9_floorMod_7cf53 cJ9_floorMod_7cf53 3 (some .int), Cond.methodLink RX4 43 yX4_rowOf, Cond.static yX4_rowOf, Cond.code yX4_rowOf cX4_rowOf 2 (some .int), Cond.methodLink RX4 29 yX4_stretchOf, Cond.static yX4_stretchOf, Cond.code yX4_stretchOf cX4_stretchOf 2 (some .int), Cond.methodLink RX4 46 yX4_viewAt, Cond.instanceMethod yX4_viewAt, Cond.selects RX4 yX4_viewAt yX4_viewAt, Cond.code yX4_viewAt cX4_viewAt 10 (some .int), Cond.methodLink RX4 75 yX4_colourShown, Cond.instanceMethod yX4_colourShown]
def wsX4_drawLine_r3 : List Cond := [Cond.selects RX4 yX4_colourShown yX4_colourShown, Cond.code yX4_colourShown cX4_colourShown 9 (some .int), Cond.methodLink RX4 78 yX4_colourInStrip, Cond.instanceMethod yX4_colourInStrip, Cond.selects RX4 yX4_colourInStrip yX4_colourInStrip, Cond.code yX4_colourInStrip cX4_colourInStrip 7 (some .int), Cond.methodLink RX4 81 Lib.Math.min.name, Cond.static Lib.Math.min.name, Cond.code Lib.Math.min.name Lib.Math.min.code 2 (some .int), Cond.methodLink RX4 49 yX4_placeInMarks, Cond.static yX4_placeInMarks, Cond.code yX4_placeInMarks cX4_placeInMarks 3 (some .int), Cond.methodLink RX4 53 yX4_squareOf, Cond.static yX4_squareOf, Cond.code yX4_squareOf cX4_squareOf 2 (some .int), Cond.static yX5_isSquare, Cond.initialized RX5, Cond.code yX5_isSquare cX5_isSquare 1 (some .boolean)]
def wsX4_drawLine : List Cond := .code yX4_drawLine cX4_drawLine 9 (some .int) :: ((wsX4_drawLine_r1 ++ (wsX4_drawLine_r2 ++ wsX4_drawLine_r3)) ++ wsX40)
def wsX4_colourAt_r1 : List Cond := [Cond.methodLink RX4 46 yX4_viewAt, Cond.instanceMethod yX4_viewAt, Cond.selects RX4 yX4_viewAt yX4_viewAt, Cond.initialized RX4, Cond.code yX4_viewAt cX4_viewAt 10 (some .int), Cond.methodLink RX4 75 yX4_colourShown, Cond.instanceMethod yX4_colourShown, Cond.selects RX4 yX4_colourShown yX4_colourShown, Cond.code yX4_colourShown cX4_colourShown 9 (some .int), Cond.methodLink RX4 23 yJ9_floorMod_7cf53, Cond.static yJ9_floorMod_7cf53, Cond.initialized RJ9, Cond.code yJ9_floorMod_7cf53 cJ9_floorMod_7cf53 3 (some .int), Cond.methodLink RX4 19 yX4_offsetOf, Cond.static yX4_offsetOf, Cond.code yX4_offsetOf cX4_offsetOf 2 (some .int), Cond.methodLink RX4 78 yX4_colourInStrip, Cond.instanceMethod yX4_colourInStrip, Cond.selects RX4 yX4_colourInStrip yX4_colourInStrip, Cond.code yX4_colourInStrip cX4_colourInStrip 7 (some .int), Cond.methodLink RX4 81 Lib.Math.min.name, Cond.static Lib.Math.min.name, Cond.initialized "java/lang/Math", Cond.code Lib.Math.min.name Lib.Math.min.code 2 (some .int)]
def wsX4_colourAt_r2 : List Cond := [Cond.fieldLink RX4 9 "PanoramaHouse$Round" "marks" "[B", Cond.methodLink RX4 29 yX4_stretchOf, Cond.static yX4_stretchOf, Cond.code yX4_stretchOf cX4_stretchOf 2 (some .int), Cond.methodLink RX4 32 yX4_isMark, Cond.static yX4_isMark, Cond.code yX4_isMark cX4_isMark 3 (some .boolean), Cond.methodLink RX4 49 yX4_placeInMarks, Cond.static yX4_placeInMarks, Cond.code yX4_placeInMarks cX4_placeInMarks 3 (some .int)]
def wsX4_colourAt : List Cond := .code yX4_colourAt cX4_colourAt 4 (some .int) :: ((wsX4_colourAt_r1 ++ wsX4_colourAt_r2) ++ wsX40)
def wsX4_quarrelsBehind_r1 : List Cond := [Cond.methodLink RX4 75 yX4_colourShown, Cond.instanceMethod yX4_colourShown, Cond.selects RX4 yX4_colourShown yX4_colourShown, Cond.initialized RX4, Cond.code yX4_colourShown cX4_colourShown 9 (some .int), Cond.methodLink RX4 23 yJ9_floorMod_7cf53, Cond.static yJ9_floorMod_7cf53, Cond.initialized RJ9, Cond.code yJ9_floorMod_7cf53 cJ9_floorMod_7cf53 3 (some .int), Cond.methodLink RX4 19 yX4_offsetOf, Cond.static yX4_offsetOf, Cond.code yX4_offsetOf cX4_offsetOf 2 (some .int), Cond.methodLink RX4 78 yX4_colourInStrip, Cond.instanceMethod yX4_colourInStrip, Cond.selects RX4 yX4_colourInStrip yX4_colourInStrip, Cond.code yX4_colourInStrip cX4_colourInStrip 7 (some .int), Cond.methodLink RX4 81 Lib.Math.min.name, Cond.static Lib.Math.min.name, Cond.initialized "java/lang/Math", Cond.code Lib.Math.min.name Lib.Math.min.code 2 (some .int), Cond.fieldLink RX4 9 "PanoramaHouse$Round" "marks" "[B", Cond.methodLink RX4 29 yX4_stretchOf, Cond.static yX4_stretchOf, Cond.code yX4_stretchOf cX4_stretchOf 2 (some .int)]
def wsX4_quarrelsBehind_r2 : List Cond := [Cond.methodLink RX4 32 yX4_isMark, Cond.static yX4_isMark, Cond.code yX4_isMark cX4_isMark 3 (some .boolean), Cond.methodLink RX4 49 yX4_placeInMarks, Cond.static yX4_placeInMarks, Cond.code yX4_placeInMarks cX4_placeInMarks 3 (some .int)]
def wsX4_quarrelsBehind : List Cond := .code yX4_quarrelsBehind cX4_quarrelsBehind 9 (some .int) :: ((wsX4_quarrelsBehind_r1 ++ wsX4_quarrelsBehind_r2) ++ wsX40)
def wsX4_colouredPlaces : List Cond := .code yX4_colouredPlaces cX4_colouredPlaces 3 (some .int) :: ([.fieldLink RX4 15 "PanoramaHouse$Round" "colouredOfSquare" "[I"] ++ wsX40)
def wsX5_init_r1 : List Cond := [Cond.methodLink RX5 1 objectInit, Cond.instanceMethod objectInit, Cond.code objectInit ⟨#[0xb1]⟩ 1 none, Cond.classLink RX5 7 RX4, Cond.instantiable RX4 2, Cond.initialized RX4, Cond.fieldLink RX5 10 "PanoramaHouse" "round" "LPanoramaHouse$Round;", Cond.classLink RX5 16 RX2, Cond.instantiable RX2 12, Cond.initialized RX2, Cond.fieldLink RX5 21 "PanoramaHouse" "paintwork" "LPanoramaHouse$Paintwork;", Cond.classLink RX5 25 RX0, Cond.instantiable RX0 6, Cond.initialized RX0, Cond.fieldLink RX5 28 "PanoramaHouse" "reader" "LPanoramaHouse$ContractReader;", Cond.classLink RX5 32 RX1, Cond.fieldLink RX5 34 "PanoramaHouse" "halls" "[LPanoramaHouse$Hall;", Cond.classLink RX5 38 RX3, Cond.instantiable RX3 7, Cond.initialized RX3, Cond.fieldLink RX5 41 "PanoramaHouse" "platform" "LPanoramaHouse$Platform;", Cond.instantiable RX1 12, Cond.initialized RX1, Cond.fieldLink RX5 46 "PanoramaHouse" "draft" "LPanoramaHouse$Hall;"]
def wsX5_init_r2 : List Cond := [Cond.fieldLink RX5 50 "PanoramaHouse" "hallsMade" "I", Cond.fieldLink RX5 54 "PanoramaHouse" "faultPlace" "I", Cond.instanceMethod yX4_init, Cond.code yX4_init cX4_init 1 none, Cond.methodLink RX4 3 objectInit, Cond.arrayClass .byte, Cond.fieldLink RX4 9 "PanoramaHouse$Round" "marks" "[B", Cond.arrayClass .int, Cond.fieldLink RX4 15 "PanoramaHouse$Round" "colouredOfSquare" "[I", Cond.methodLink RX5 18 yX2_init, Cond.instanceMethod yX2_init, Cond.code yX2_init cX2_init 3 none, Cond.methodLink RX2 3 objectInit, Cond.fieldLink RX2 9 "PanoramaHouse$Paintwork" "skillOf" "[I", Cond.fieldLink RX2 15 "PanoramaHouse$Paintwork" "squareOfGang" "[I", Cond.fieldLink RX2 18 "PanoramaHouse$Paintwork" "coatsDone" "[I", Cond.fieldLink RX2 21 "PanoramaHouse$Paintwork" "gangOn" "[I", Cond.fieldLink RX2 24 "PanoramaHouse$Paintwork" "workLeft" "[I", Cond.fieldLink RX2 27 "PanoramaHouse$Paintwork" "firstDoneOn" "[I", Cond.fieldLink RX2 30 "PanoramaHouse$Paintwork" "secondDoneOn" "[I", Cond.fieldLink RX2 33 "PanoramaHouse$Paintwork" "lastGang" "[I", Cond.fieldLink RX2 36 "PanoramaHouse$Paintwork" "workGiven" "[I", Cond.fieldLink RX2 39 "PanoramaHouse$Paintwork" "round" "LPanoramaHouse$Round;", Cond.instanceMethod yX0_init]
def wsX5_init_r3 : List Cond := [Cond.code yX0_init cX0_init 1 none, Cond.methodLink RX0 3 objectInit, Cond.fieldLink RX0 9 "PanoramaHouse$ContractReader" "tape" "[I", Cond.methodLink RX5 40 yX3_init, Cond.instanceMethod yX3_init, Cond.code yX3_init cX3_init 1 none, Cond.methodLink RX3 3 objectInit, Cond.fieldLink RX3 9 "PanoramaHouse$Platform" "wentUp" "[I", Cond.fieldLink RX3 15 "PanoramaHouse$Platform" "most" "I", Cond.methodLink RX5 45 yX1_init, Cond.instanceMethod yX1_init, Cond.code yX1_init cX1_init 1 none, Cond.methodLink RX1 3 objectInit, Cond.fieldLink RX1 9 "PanoramaHouse$Hall" "shareOfPart" "[I", Cond.fieldLink RX1 15 "PanoramaHouse$Hall" "testsOfPart" "[I", Cond.fieldLink RX1 18 "PanoramaHouse$Hall" "subjectOfTest" "[I", Cond.fieldLink RX1 21 "PanoramaHouse$Hall" "signOfTest" "[I", Cond.fieldLink RX1 24 "PanoramaHouse$Hall" "numberOfTest" "[I", Cond.fieldLink RX1 27 "PanoramaHouse$Hall" "weeks" "I"]
def wsX5_init : List Cond := .code yX5_init cX5_init 1 none :: ((wsX5_init_r1 ++ (wsX5_init_r2 ++ wsX5_init_r3)) ++ wsX40 ++ wsX50 ++ wsX20 ++ wsX00 ++ wsX30 ++ wsX10)
def wsX5_mark_r1 : List Cond := [Cond.fieldLink RX5 10 "PanoramaHouse" "round" "LPanoramaHouse$Round;", Cond.methodLink RX5 57 yX4_setMark, Cond.instanceMethod yX4_setMark, Cond.selects RX4 yX4_setMark yX4_setMark, Cond.initialized RX4, Cond.code yX4_setMark cX4_setMark 10 (some .boolean), Cond.fieldLink RX4 9 "PanoramaHouse$Round" "marks" "[B", Cond.fieldLink RX4 15 "PanoramaHouse$Round" "colouredOfSquare" "[I", Cond.methodLink RX4 32 yX4_isMark, Cond.static yX4_isMark, Cond.code yX4_isMark cX4_isMark 3 (some .boolean), Cond.methodLink RX4 36 yX4_isColour, Cond.static yX4_isColour, Cond.code yX4_isColour cX4_isColour 1 (some .boolean), Cond.methodLink RX4 40 yX4_columnOf, Cond.static yX4_columnOf, Cond.code yX4_columnOf cX4_columnOf 2 (some .int), Cond.methodLink RX4 19 yX4_offsetOf, Cond.static yX4_offsetOf, Cond.code yX4_offsetOf cX4_offsetOf 2 (some .int), Cond.methodLink RX4 23 yJ9_floorMod_7cf53, Cond.static yJ9_floorMod_7cf53, Cond.initialized RJ9, Cond.code yJ9_floorMod_7cf53 cJ9_floorMod_7cf53 3 (some .int)]
def wsX5_mark_r2 : List Cond := [Cond.methodLink RX4 43 yX4_rowOf, Cond.static yX4_rowOf, Cond.code yX4_rowOf cX4_rowOf 2 (some .int), Cond.methodLink RX4 29 yX4_stretchOf, Cond.static yX4_stretchOf, Cond.code yX4_stretchOf cX4_stretchOf 2 (some .int), Cond.methodLink RX4 46 yX4_viewAt, Cond.instanceMethod yX4_viewAt, Cond.selects RX4 yX4_viewAt yX4_viewAt, Cond.code yX4_viewAt cX4_viewAt 10 (some .int), Cond.methodLink RX4 75 yX4_colourShown, Cond.instanceMethod yX4_colourShown, Cond.selects RX4 yX4_colourShown yX4_colourShown, Cond.code yX4_colourShown cX4_colourShown 9 (some .int), Cond.methodLink RX4 78 yX4_colourInStrip, Cond.instanceMethod yX4_colourInStrip, Cond.selects RX4 yX4_colourInStrip yX4_colourInStrip, Cond.code yX4_colourInStrip cX4_colourInStrip 7 (some .int), Cond.methodLink RX4 81 Lib.Math.min.name, Cond.static Lib.Math.min.name, Cond.initialized "java/lang/Math", Cond.code Lib.Math.min.name Lib.Math.min.code 2 (some .int), Cond.methodLink RX4 49 yX4_placeInMarks, Cond.static yX4_placeInMarks]
def wsX5_mark_r3 : List Cond := [Cond.code yX4_placeInMarks cX4_placeInMarks 3 (some .int), Cond.methodLink RX4 53 yX4_squareOf, Cond.static yX4_squareOf, Cond.code yX4_squareOf cX4_squareOf 2 (some .int), Cond.static yX5_isSquare, Cond.initialized RX5, Cond.code yX5_isSquare cX5_isSquare 1 (some .boolean)]
def wsX5_mark : List Cond := .code yX5_mark cX5_mark 5 (some .boolean) :: ((wsX5_mark_r1 ++ (wsX5_mark_r2 ++ wsX5_mark_r3)) ++ wsX50 ++ wsX40)
def wsX5_line_r1 : List Cond := [Cond.fieldLink RX5 10 "PanoramaHouse" "round" "LPanoramaHouse$Round;", Cond.methodLink RX5 61 yX4_drawLine, Cond.instanceMethod yX4_drawLine, Cond.selects RX4 yX4_drawLine yX4_drawLine, Cond.initialized RX4, Cond.code yX4_drawLine cX4_drawLine 9 (some .int), Cond.methodLink RX4 59 Lib.Math.abs.name, Cond.static Lib.Math.abs.name, Cond.initialized "java/lang/Math", Cond.code Lib.Math.abs.name Lib.Math.abs.code 1 (some .int), Cond.methodLink RX4 62 Lib.Math.max.name, Cond.static Lib.Math.max.name, Cond.code Lib.Math.max.name Lib.Math.max.code 2 (some .int), Cond.methodLink RX4 32 yX4_isMark, Cond.static yX4_isMark, Cond.code yX4_isMark cX4_isMark 3 (some .boolean), Cond.methodLink RX4 36 yX4_isColour, Cond.static yX4_isColour, Cond.code yX4_isColour cX4_isColour 1 (some .boolean), Cond.methodLink RX4 65 yX4_partOfWay, Cond.static yX4_partOfWay, Cond.code yX4_partOfWay cX4_partOfWay 3 (some .int), Cond.methodLink RX4 72 yJ9_floorDiv_7cf53, Cond.static yJ9_floorDiv_7cf53]
def wsX5_line_r2 : List Cond := [Cond.initialized RJ9, Cond.code yJ9_floorDiv_7cf53 cJ9_floorDiv_7cf53 3 (some .int), Cond.methodLink RX4 68 yX4_setMark, Cond.instanceMethod yX4_setMark, Cond.selects RX4 yX4_setMark yX4_setMark, Cond.code yX4_setMark cX4_setMark 10 (some .boolean), Cond.fieldLink RX4 9 "PanoramaHouse$Round" "marks" "[B", Cond.fieldLink RX4 15 "PanoramaHouse$Round" "colouredOfSquare" "[I", Cond.methodLink RX4 40 yX4_columnOf, Cond.static yX4_columnOf, Cond.code yX4_columnOf cX4_columnOf 2 (some .int), Cond.methodLink RX4 19 yX4_offsetOf, Cond.static yX4_offsetOf, Cond.code yX4_offsetOf cX4_offsetOf 2 (some .int), Cond.methodLink RX4 23 yJ9_floorMod_7cf53, Cond.static yJ9_floorMod_7cf53, Cond.code yJ9_floorMod_7cf53 cJ9_floorMod_7cf53 3 (some .int), Cond.methodLink RX4 43 yX4_rowOf, Cond.static yX4_rowOf, Cond.code yX4_rowOf cX4_rowOf 2 (some .int), Cond.methodLink RX4 29 yX4_stretchOf, Cond.static yX4_stretchOf, Cond.code yX4_stretchOf cX4_stretchOf 2 (some .int), Cond.methodLink RX4 46 yX4_viewAt]
def wsX5_line_r3 : List Cond := [Cond.instanceMethod yX4_viewAt, Cond.selects RX4 yX4_viewAt yX4_viewAt, Cond.code yX4_viewAt cX4_viewAt 10 (some .int), Cond.methodLink RX4 75 yX4_colourShown, Cond.instanceMethod yX4_colourShown, Cond.selects RX4 yX4_colourShown yX4_colourShown, Cond.code yX4_colourShown cX4_colourShown 9 (some .int), Cond.methodLink RX4 78 yX4_colourInStrip, Cond.instanceMethod yX4_colourInStrip, Cond.selects RX4 yX4_colourInStrip yX4_colourInStrip, Cond.code yX4_colourInStrip cX4_colourInStrip 7 (some .int), Cond.methodLink RX4 81 Lib.Math.min.name, Cond.static Lib.Math.min.name, Cond.code Lib.Math.min.name Lib.Math.min.code 2 (some .int), Cond.methodLink RX4 49 yX4_placeInMarks, Cond.static yX4_placeInMarks, Cond.code yX4_placeInMarks cX4_placeInMarks 3 (some .int), Cond.methodLink RX4 53 yX4_squareOf, Cond.static yX4_squareOf, Cond.code yX4_squareOf cX4_squareOf 2 (some .int), Cond.static yX5_isSquare, Cond.initialized RX5, Cond.code yX5_isSquare cX5_isSquare 1 (some .boolean)]
def wsX5_line : List Cond := .code yX5_line cX5_line 7 (some .int) :: ((wsX5_line_r1 ++ (wsX5_line_r2 ++ wsX5_line_r3)) ++ wsX50 ++ wsX40)
def wsX5_stands : List Cond := .code yX5_stands cX5_stands 5 (some .int) :: ([.methodLink RX5 65 yX4_isMark, .static yX4_isMark, .initialized RX4, .code yX4_isMark cX4_isMark 3 (some .boolean), .methodLink RX5 69 yX4_columnOf, .static yX4_columnOf, .code yX4_columnOf cX4_columnOf 2 (some .int), .methodLink RX4 19 yX4_offsetOf, .static yX4_offsetOf, .code yX4_offsetOf cX4_offsetOf 2 (some .int), .methodLink RX4 23 yJ9_floorMod_7cf53, .static yJ9_floorMod_7cf53, .initialized RJ9, .code yJ9_floorMod_7cf53 cJ9_floorMod_7cf53 3 (some .int), .methodLink RX5 73 yX4_rowOf, .static yX4_rowOf, .code yX4_rowOf cX4_rowOf 2 (some .int), .methodLink RX4 29 yX4_stretchOf, .static yX4_stretchOf, .code yX4_stretchOf cX4_stretchOf 2 (some .int)])
def wsX5_colour_r1 : List Cond := [Cond.fieldLink RX5 10 "PanoramaHouse" "round" "LPanoramaHouse$Round;", Cond.methodLink RX5 76 yX4_isPlace, Cond.static yX4_isPlace, Cond.initialized RX4, Cond.code yX4_isPlace cX4_isPlace 2 (some .boolean), Cond.methodLink RX5 80 yX4_colourAt, Cond.instanceMethod yX4_colourAt, Cond.selects RX4 yX4_colourAt yX4_colourAt, Cond.code yX4_colourAt cX4_colourAt 4 (some .int), Cond.methodLink RX4 46 yX4_viewAt, Cond.instanceMethod yX4_viewAt, Cond.selects RX4 yX4_viewAt yX4_viewAt, Cond.code yX4_viewAt cX4_viewAt 10 (some .int), Cond.methodLink RX4 75 yX4_colourShown, Cond.instanceMethod yX4_colourShown, Cond.selects RX4 yX4_colourShown yX4_colourShown, Cond.code yX4_colourShown cX4_colourShown 9 (some .int), Cond.methodLink RX4 23 yJ9_floorMod_7cf53, Cond.static yJ9_floorMod_7cf53, Cond.initialized RJ9, Cond.code yJ9_floorMod_7cf53 cJ9_floorMod_7cf53 3 (some .int), Cond.methodLink RX4 19 yX4_offsetOf, Cond.static yX4_offsetOf, Cond.code yX4_offsetOf cX4_offsetOf 2 (some .int)]
def wsX5_colour_r2 : List Cond := [Cond.methodLink RX4 78 yX4_colourInStrip, Cond.instanceMethod yX4_colourInStrip, Cond.selects RX4 yX4_colourInStrip yX4_colourInStrip, Cond.code yX4_colourInStrip cX4_colourInStrip 7 (some .int), Cond.methodLink RX4 81 Lib.Math.min.name, Cond.static Lib.Math.min.name, Cond.initialized "java/lang/Math", Cond.code Lib.Math.min.name Lib.Math.min.code 2 (some .int), Cond.fieldLink RX4 9 "PanoramaHouse$Round" "marks" "[B", Cond.methodLink RX4 29 yX4_stretchOf, Cond.static yX4_stretchOf, Cond.code yX4_stretchOf cX4_stretchOf 2 (some .int), Cond.methodLink RX4 32 yX4_isMark, Cond.static yX4_isMark, Cond.code yX4_isMark cX4_isMark 3 (some .boolean), Cond.methodLink RX4 49 yX4_placeInMarks, Cond.static yX4_placeInMarks, Cond.code yX4_placeInMarks cX4_placeInMarks 3 (some .int)]
def wsX5_colour : List Cond := .code yX5_colour cX5_colour 3 (some .int) :: ((wsX5_colour_r1 ++ wsX5_colour_r2) ++ wsX50 ++ wsX40)
def wsX5_from_r1 : List Cond := [Cond.fieldLink RX5 10 "PanoramaHouse" "round" "LPanoramaHouse$Round;", Cond.methodLink RX5 76 yX4_isPlace, Cond.static yX4_isPlace, Cond.initialized RX4, Cond.code yX4_isPlace cX4_isPlace 2 (some .boolean), Cond.methodLink RX5 83 yX4_viewAt, Cond.instanceMethod yX4_viewAt, Cond.selects RX4 yX4_viewAt yX4_viewAt, Cond.code yX4_viewAt cX4_viewAt 10 (some .int), Cond.methodLink RX4 75 yX4_colourShown, Cond.instanceMethod yX4_colourShown, Cond.selects RX4 yX4_colourShown yX4_colourShown, Cond.code yX4_colourShown cX4_colourShown 9 (some .int), Cond.methodLink RX4 23 yJ9_floorMod_7cf53, Cond.static yJ9_floorMod_7cf53, Cond.initialized RJ9, Cond.code yJ9_floorMod_7cf53 cJ9_floorMod_7cf53 3 (some .int), Cond.methodLink RX4 19 yX4_offsetOf, Cond.static yX4_offsetOf, Cond.code yX4_offsetOf cX4_offsetOf 2 (some .int), Cond.methodLink RX4 78 yX4_colourInStrip, Cond.instanceMethod yX4_colourInStrip, Cond.selects RX4 yX4_colourInStrip yX4_colourInStrip, Cond.code yX4_colourInStrip cX4_colourInStrip 7 (some .int)]
def wsX5_from_r2 : List Cond := [Cond.methodLink RX4 81 Lib.Math.min.name, Cond.static Lib.Math.min.name, Cond.initialized "java/lang/Math", Cond.code Lib.Math.min.name Lib.Math.min.code 2 (some .int), Cond.fieldLink RX4 9 "PanoramaHouse$Round" "marks" "[B", Cond.methodLink RX4 29 yX4_stretchOf, Cond.static yX4_stretchOf, Cond.code yX4_stretchOf cX4_stretchOf 2 (some .int), Cond.methodLink RX4 32 yX4_isMark, Cond.static yX4_isMark, Cond.code yX4_isMark cX4_isMark 3 (some .boolean), Cond.methodLink RX4 49 yX4_placeInMarks, Cond.static yX4_placeInMarks, Cond.code yX4_placeInMarks cX4_placeInMarks 3 (some .int)]
def wsX5_from : List Cond := .code yX5_from cX5_from 3 (some .int) :: ((wsX5_from_r1 ++ wsX5_from_r2) ++ wsX50 ++ wsX40)
def wsX5_seam_r1 : List Cond := [Cond.fieldLink RX5 10 "PanoramaHouse" "round" "LPanoramaHouse$Round;", Cond.methodLink RX5 86 yX4_quarrelsBehind, Cond.instanceMethod yX4_quarrelsBehind, Cond.selects RX4 yX4_quarrelsBehind yX4_quarrelsBehind, Cond.initialized RX4, Cond.code yX4_quarrelsBehind cX4_quarrelsBehind 9 (some .int), Cond.methodLink RX4 75 yX4_colourShown, Cond.instanceMethod yX4_colourShown, Cond.selects RX4 yX4_colourShown yX4_colourShown, Cond.code yX4_colourShown cX4_colourShown 9 (some .int), Cond.methodLink RX4 23 yJ9_floorMod_7cf53, Cond.static yJ9_floorMod_7cf53, Cond.initialized RJ9, Cond.code yJ9_floorMod_7cf53 cJ9_floorMod_7cf53 3 (some .int), Cond.methodLink RX4 19 yX4_offsetOf, Cond.static yX4_offsetOf, Cond.code yX4_offsetOf cX4_offsetOf 2 (some .int), Cond.methodLink RX4 78 yX4_colourInStrip, Cond.instanceMethod yX4_colourInStrip, Cond.selects RX4 yX4_colourInStrip yX4_colourInStrip, Cond.code yX4_colourInStrip cX4_colourInStrip 7 (some .int), Cond.methodLink RX4 81 Lib.Math.min.name, Cond.static Lib.Math.min.name, Cond.initialized "java/lang/Math"]
def wsX5_seam_r2 : List Cond := [Cond.code Lib.Math.min.name Lib.Math.min.code 2 (some .int), Cond.fieldLink RX4 9 "PanoramaHouse$Round" "marks" "[B", Cond.methodLink RX4 29 yX4_stretchOf, Cond.static yX4_stretchOf, Cond.code yX4_stretchOf cX4_stretchOf 2 (some .int), Cond.methodLink RX4 32 yX4_isMark, Cond.static yX4_isMark, Cond.code yX4_isMark cX4_isMark 3 (some .boolean), Cond.methodLink RX4 49 yX4_placeInMarks, Cond.static yX4_placeInMarks, Cond.code yX4_placeInMarks cX4_placeInMarks 3 (some .int)]
def wsX5_seam : List Cond := .code yX5_seam cX5_seam 2 (some .int) :: ((wsX5_seam_r1 ++ wsX5_seam_r2) ++ wsX50 ++ wsX40)
def wsX5_gang : List Cond := .code yX5_gang cX5_gang 2 (some .int) :: ([.fieldLink RX5 21 "PanoramaHouse" "paintwork" "LPanoramaHouse$Paintwork;", .methodLink RX5 90 yX2_hire, .instanceMethod yX2_hire, .selects RX2 yX2_hire yX2_hire, .initialized RX2, .code yX2_hire cX2_hire 2 (some .int), .fieldLink RX2 47 "PanoramaHouse$Paintwork" "gangsHired" "I", .fieldLink RX2 9 "PanoramaHouse$Paintwork" "skillOf" "[I"] ++ wsX50 ++ wsX20)
def wsX5_put_r1 : List Cond := [Cond.fieldLink RX5 21 "PanoramaHouse" "paintwork" "LPanoramaHouse$Paintwork;", Cond.methodLink RX5 93 yX2_beginCoat, Cond.instanceMethod yX2_beginCoat, Cond.selects RX2 yX2_beginCoat yX2_beginCoat, Cond.initialized RX2, Cond.code yX2_beginCoat cX2_beginCoat 5 (some .int), Cond.fieldLink RX2 15 "PanoramaHouse$Paintwork" "squareOfGang" "[I", Cond.fieldLink RX2 18 "PanoramaHouse$Paintwork" "coatsDone" "[I", Cond.fieldLink RX2 21 "PanoramaHouse$Paintwork" "gangOn" "[I", Cond.fieldLink RX2 43 "PanoramaHouse$Paintwork" "daysGone" "I", Cond.fieldLink RX2 27 "PanoramaHouse$Paintwork" "firstDoneOn" "[I", Cond.fieldLink RX2 24 "PanoramaHouse$Paintwork" "workLeft" "[I", Cond.methodLink RX2 66 Lib.Math.max.name, Cond.static Lib.Math.max.name, Cond.initialized "java/lang/Math", Cond.code Lib.Math.max.name Lib.Math.max.code 2 (some .int), Cond.methodLink RX2 56 yX2_isGang, Cond.instanceMethod yX2_isGang, Cond.selects RX2 yX2_isGang yX2_isGang, Cond.code yX2_isGang cX2_isGang 2 (some .boolean), Cond.fieldLink RX2 47 "PanoramaHouse$Paintwork" "gangsHired" "I", Cond.static yX5_isSquare, Cond.initialized RX5, Cond.code yX5_isSquare cX5_isSquare 1 (some .boolean)]
def wsX5_put_r2 : List Cond := [Cond.methodLink RX2 63 yX2_firstCoatWork, Cond.instanceMethod yX2_firstCoatWork, Cond.selects RX2 yX2_firstCoatWork yX2_firstCoatWork, Cond.code yX2_firstCoatWork cX2_firstCoatWork 2 (some .int), Cond.fieldLink RX2 39 "PanoramaHouse$Paintwork" "round" "LPanoramaHouse$Round;", Cond.methodLink RX2 50 yX4_colouredIn, Cond.instanceMethod yX4_colouredIn, Cond.selects RX4 yX4_colouredIn yX4_colouredIn, Cond.initialized RX4, Cond.code yX4_colouredIn cX4_colouredIn 2 (some .int), Cond.fieldLink RX4 15 "PanoramaHouse$Round" "colouredOfSquare" "[I"]
def wsX5_put : List Cond := .code yX5_put cX5_put 3 (some .int) :: ((wsX5_put_r1 ++ wsX5_put_r2) ++ wsX50 ++ wsX20 ++ wsX40)
def wsX5_day_r1 : List Cond := [Cond.fieldLink RX5 21 "PanoramaHouse" "paintwork" "LPanoramaHouse$Paintwork;", Cond.methodLink RX5 96 yX2_passDay, Cond.instanceMethod yX2_passDay, Cond.selects RX2 yX2_passDay yX2_passDay, Cond.initialized RX2, Cond.code yX2_passDay cX2_passDay 2 (some .int), Cond.fieldLink RX2 43 "PanoramaHouse$Paintwork" "daysGone" "I", Cond.fieldLink RX2 15 "PanoramaHouse$Paintwork" "squareOfGang" "[I", Cond.methodLink RX2 72 yX2_workADay, Cond.instanceMethod yX2_workADay, Cond.selects RX2 yX2_workADay yX2_workADay, Cond.code yX2_workADay cX2_workADay 3 none, Cond.fieldLink RX2 24 "PanoramaHouse$Paintwork" "workLeft" "[I", Cond.fieldLink RX2 9 "PanoramaHouse$Paintwork" "skillOf" "[I", Cond.methodLink RX2 66 Lib.Math.max.name, Cond.static Lib.Math.max.name, Cond.initialized "java/lang/Math", Cond.code Lib.Math.max.name Lib.Math.max.code 2 (some .int), Cond.methodLink RX2 56 yX2_isGang, Cond.instanceMethod yX2_isGang, Cond.selects RX2 yX2_isGang yX2_isGang, Cond.code yX2_isGang cX2_isGang 2 (some .boolean), Cond.fieldLink RX2 47 "PanoramaHouse$Paintwork" "gangsHired" "I", Cond.static yX5_isSquare]
def wsX5_day_r2 : List Cond := [Cond.initialized RX5, Cond.code yX5_isSquare cX5_isSquare 1 (some .boolean), Cond.methodLink RX2 76 yX2_endCoat, Cond.instanceMethod yX2_endCoat, Cond.selects RX2 yX2_endCoat yX2_endCoat, Cond.code yX2_endCoat cX2_endCoat 3 none, Cond.fieldLink RX2 18 "PanoramaHouse$Paintwork" "coatsDone" "[I", Cond.fieldLink RX2 27 "PanoramaHouse$Paintwork" "firstDoneOn" "[I", Cond.fieldLink RX2 30 "PanoramaHouse$Paintwork" "secondDoneOn" "[I", Cond.fieldLink RX2 33 "PanoramaHouse$Paintwork" "lastGang" "[I", Cond.fieldLink RX2 21 "PanoramaHouse$Paintwork" "gangOn" "[I"]
def wsX5_day : List Cond := .code yX5_day cX5_day 1 (some .int) :: ((wsX5_day_r1 ++ wsX5_day_r2) ++ wsX50 ++ wsX20)
def wsX5_square_r1 : List Cond := [Cond.fieldLink RX5 21 "PanoramaHouse" "paintwork" "LPanoramaHouse$Paintwork;", Cond.methodLink RX5 100 yX2_tellSquare, Cond.instanceMethod yX2_tellSquare, Cond.selects RX2 yX2_tellSquare yX2_tellSquare, Cond.initialized RX2, Cond.code yX2_tellSquare cX2_tellSquare 3 (some .int), Cond.fieldLink RX2 18 "PanoramaHouse$Paintwork" "coatsDone" "[I", Cond.fieldLink RX2 21 "PanoramaHouse$Paintwork" "gangOn" "[I", Cond.fieldLink RX2 24 "PanoramaHouse$Paintwork" "workLeft" "[I", Cond.fieldLink RX2 27 "PanoramaHouse$Paintwork" "firstDoneOn" "[I", Cond.fieldLink RX2 30 "PanoramaHouse$Paintwork" "secondDoneOn" "[I", Cond.fieldLink RX2 33 "PanoramaHouse$Paintwork" "lastGang" "[I", Cond.static yX5_isSquare, Cond.initialized RX5, Cond.code yX5_isSquare cX5_isSquare 1 (some .boolean), Cond.methodLink RX2 63 yX2_firstCoatWork, Cond.instanceMethod yX2_firstCoatWork, Cond.selects RX2 yX2_firstCoatWork yX2_firstCoatWork, Cond.code yX2_firstCoatWork cX2_firstCoatWork 2 (some .int), Cond.fieldLink RX2 39 "PanoramaHouse$Paintwork" "round" "LPanoramaHouse$Round;", Cond.methodLink RX2 50 yX4_colouredIn, Cond.instanceMethod yX4_colouredIn, Cond.selects RX4 yX4_colouredIn yX4_colouredIn, Cond.initialized RX4]
def wsX5_square_r2 : List Cond := [Cond.code yX4_colouredIn cX4_colouredIn 2 (some .int), Cond.fieldLink RX4 15 "PanoramaHouse$Round" "colouredOfSquare" "[I"]
def wsX5_square : List Cond := .code yX5_square cX5_square 3 (some .int) :: ((wsX5_square_r1 ++ wsX5_square_r2) ++ wsX50 ++ wsX20 ++ wsX40)
def wsX5_least_r1 : List Cond := [Cond.fieldLink RX5 21 "PanoramaHouse" "paintwork" "LPanoramaHouse$Paintwork;", Cond.methodLink RX5 103 yX2_leastDays, Cond.instanceMethod yX2_leastDays, Cond.selects RX2 yX2_leastDays yX2_leastDays, Cond.initialized RX2, Cond.code yX2_leastDays cX2_leastDays 5 (some .int), Cond.fieldLink RX2 47 "PanoramaHouse$Paintwork" "gangsHired" "I", Cond.fieldLink RX2 36 "PanoramaHouse$Paintwork" "workGiven" "[I", Cond.constant RX2 81 (2147483647), Cond.methodLink RX2 82 yX2_leastBelow, Cond.instanceMethod yX2_leastBelow, Cond.selects RX2 yX2_leastBelow yX2_leastBelow, Cond.code yX2_leastBelow cX2_leastBelow 8 (some .int), Cond.methodLink RX2 89 Lib.Math.min.name, Cond.static Lib.Math.min.name, Cond.initialized "java/lang/Math", Cond.code Lib.Math.min.name Lib.Math.min.code 2 (some .int), Cond.methodLink RX2 86 yX2_mostDays, Cond.instanceMethod yX2_mostDays, Cond.selects RX2 yX2_mostDays yX2_mostDays, Cond.code yX2_mostDays cX2_mostDays 4 (some .int), Cond.methodLink RX2 66 Lib.Math.max.name, Cond.static Lib.Math.max.name, Cond.code Lib.Math.max.name Lib.Math.max.code 2 (some .int)]
def wsX5_least_r2 : List Cond := [Cond.methodLink RX2 92 yX2_daysOf, Cond.instanceMethod yX2_daysOf, Cond.selects RX2 yX2_daysOf yX2_daysOf, Cond.code yX2_daysOf cX2_daysOf 2 (some .int), Cond.fieldLink RX2 9 "PanoramaHouse$Paintwork" "skillOf" "[I", Cond.methodLink RX2 63 yX2_firstCoatWork, Cond.instanceMethod yX2_firstCoatWork, Cond.selects RX2 yX2_firstCoatWork yX2_firstCoatWork, Cond.code yX2_firstCoatWork cX2_firstCoatWork 2 (some .int), Cond.fieldLink RX2 39 "PanoramaHouse$Paintwork" "round" "LPanoramaHouse$Round;", Cond.methodLink RX2 50 yX4_colouredIn, Cond.instanceMethod yX4_colouredIn, Cond.selects RX4 yX4_colouredIn yX4_colouredIn, Cond.initialized RX4, Cond.code yX4_colouredIn cX4_colouredIn 2 (some .int), Cond.fieldLink RX4 15 "PanoramaHouse$Round" "colouredOfSquare" "[I", Cond.static yX5_isSquare, Cond.initialized RX5, Cond.code yX5_isSquare cX5_isSquare 1 (some .boolean)]
def wsX5_least : List Cond := .code yX5_least cX5_least 4 (some .int) :: ((wsX5_least_r1 ++ wsX5_least_r2) ++ wsX50 ++ wsX20 ++ wsX40)
def wsX5_feed : List Cond := .code yX5_feed cX5_feed 6 (some .int) :: ([.fieldLink RX5 28 "PanoramaHouse" "reader" "LPanoramaHouse$ContractReader;", .methodLink RX5 107 yX0_takeBytes, .instanceMethod yX0_takeBytes, .selects RX0 yX0_takeBytes yX0_takeBytes, .initialized RX0, .code yX0_takeBytes cX0_takeBytes 6 (some .int), .fieldLink RX0 15 "PanoramaHouse$ContractReader" "bytesOnTape" "I", .methodLink RX0 19 yX0_takeFour, .instanceMethod yX0_takeFour, .selects RX0 yX0_takeFour yX0_takeFour, .code yX0_takeFour cX0_takeFour 3 none, .fieldLink RX0 9 "PanoramaHouse$ContractReader" "tape" "[I"] ++ wsX50 ++ wsX00)
def wsX5_hall_r1 : List Cond := [Cond.fieldLink RX5 28 "PanoramaHouse" "reader" "LPanoramaHouse$ContractReader;", Cond.fieldLink RX5 50 "PanoramaHouse" "hallsMade" "I", Cond.fieldLink RX5 46 "PanoramaHouse" "draft" "LPanoramaHouse$Hall;", Cond.fieldLink RX5 54 "PanoramaHouse" "faultPlace" "I", Cond.fieldLink RX5 34 "PanoramaHouse" "halls" "[LPanoramaHouse$Hall;", Cond.classLink RX5 32 RX1, Cond.instantiable RX1 12, Cond.initialized RX1, Cond.methodLink RX5 111 yX0_bytes, Cond.instanceMethod yX0_bytes, Cond.selects RX0 yX0_bytes yX0_bytes, Cond.initialized RX0, Cond.code yX0_bytes cX0_bytes 1 (some .int), Cond.fieldLink RX0 15 "PanoramaHouse$ContractReader" "bytesOnTape" "I", Cond.methodLink RX5 114 yX0_readContract, Cond.instanceMethod yX0_readContract, Cond.selects RX0 yX0_readContract yX0_readContract, Cond.code yX0_readContract cX0_readContract 4 (some .int), Cond.methodLink RX0 28 Lib.Math.min.name, Cond.static Lib.Math.min.name, Cond.initialized "java/lang/Math", Cond.code Lib.Math.min.name Lib.Math.min.code 2 (some .int), Cond.fieldLink RX0 34 "PanoramaHouse$ContractReader" "length" "I", Cond.fieldLink RX0 37 "PanoramaHouse$ContractReader" "end" "I"]
def wsX5_hall_r2 : List Cond := [Cond.fieldLink RX0 43 "PanoramaHouse$ContractReader" "kind" "I", Cond.fieldLink RX0 50 "PanoramaHouse$ContractReader" "start" "I", Cond.methodLink RX0 23 yX1_clearContract, Cond.instanceMethod yX1_clearContract, Cond.selects RX1 yX1_clearContract yX1_clearContract, Cond.code yX1_clearContract cX1_clearContract 1 none, Cond.fieldLink RX1 31 "PanoramaHouse$Hall" "parts" "I", Cond.fieldLink RX1 27 "PanoramaHouse$Hall" "weeks" "I", Cond.fieldLink RX1 34 "PanoramaHouse$Hall" "rent" "I", Cond.methodLink RX0 40 yX0_advance, Cond.instanceMethod yX0_advance, Cond.selects RX0 yX0_advance yX0_advance, Cond.code yX0_advance cX0_advance 2 none, Cond.methodLink RX0 104 yX0_byteAt, Cond.instanceMethod yX0_byteAt, Cond.selects RX0 yX0_byteAt yX0_byteAt, Cond.code yX0_byteAt cX0_byteAt 2 (some .int), Cond.fieldLink RX0 9 "PanoramaHouse$ContractReader" "tape" "[I", Cond.methodLink RX0 115 yX0_kindOf, Cond.static yX0_kindOf, Cond.code yX0_kindOf cX0_kindOf 1 (some .int), Cond.methodLink RX0 46 yX0_readStatement, Cond.instanceMethod yX0_readStatement, Cond.selects RX0 yX0_readStatement yX0_readStatement]
def wsX5_hall_r3 : List Cond := [Cond.code yX0_readStatement cX0_readStatement 5 (some .boolean), Cond.constant RX0 63 (99999), Cond.methodLink RX0 55 yX0_isWord, Cond.instanceMethod yX0_isWord, Cond.selects RX0 yX0_isWord yX0_isWord, Cond.code yX0_isWord cX0_isWord 3 (some .boolean), Cond.methodLink RX0 107 yJ0_length_8abf5, Cond.instanceMethod yJ0_length_8abf5, Cond.selects RJ0 yJ0_length_8abf5 yJ0_length_8abf5, Cond.initialized RJ0, Cond.code yJ0_length_8abf5 cJ0_length_8abf5 1 (some .int), Cond.fieldLink RJ0 9 "java/lang/String" "value" "[B", Cond.methodLink RJ0 335 yJ0_coder_7d493, Cond.instanceMethod yJ0_coder_7d493, Cond.selects RJ0 yJ0_coder_7d493 yJ0_coder_7d493, Cond.code yJ0_coder_7d493 cJ0_coder_7d493 1 (some .byte), Cond.fieldLink RJ0 38 "java/lang/String" "COMPACT_STRINGS" "Z", Cond.fieldLink RJ0 15 "java/lang/String" "coder" "B", Cond.methodLink RX0 111 yJ0_charAt_5068e, Cond.instanceMethod yJ0_charAt_5068e, Cond.selects RJ0 yJ0_charAt_5068e yJ0_charAt_5068e, Cond.code yJ0_charAt_5068e cJ0_charAt_5068e 2 (some .char), Cond.methodLink RJ0 492 yJ0_isLatin1_aae02, Cond.instanceMethod yJ0_isLatin1_aae02]
def wsX5_hall_r4 : List Cond := [Cond.selects RJ0 yJ0_isLatin1_aae02 yJ0_isLatin1_aae02, Cond.code yJ0_isLatin1_aae02 cJ0_isLatin1_aae02 1 (some .boolean), Cond.methodLink RJ0 495 yJ1_charAt_3b067, Cond.static yJ1_charAt_3b067, Cond.initialized RJ1, Cond.code yJ1_charAt_3b067 cJ1_charAt_3b067 2 (some .char), Cond.methodLink RJ1 9 yJ0_checkIndex_df160, Cond.static yJ0_checkIndex_df160, Cond.code yJ0_checkIndex_df160 cJ0_checkIndex_df160 2 none, Cond.fieldLink RJ0 1053 "jdk/internal/util/Preconditions" "SIOOBE_FORMATTER" "Ljava/util/function/BiFunction;", Cond.methodLink RJ0 1059 yJ3_checkIndex_8e157, Cond.static yJ3_checkIndex_8e157, Cond.initialized RJ3, Cond.code yJ3_checkIndex_8e157 cJ3_checkIndex_8e157 3 (some .int), Cond.methodLink RJ0 498 yJ2_charAt_3b067, Cond.static yJ2_charAt_3b067, Cond.initialized RJ2, Cond.code yJ2_charAt_3b067 cJ2_charAt_3b067 2 (some .char), Cond.methodLink RJ2 67 yJ2_checkIndex_2214a, Cond.static yJ2_checkIndex_2214a, Cond.code yJ2_checkIndex_2214a cJ2_checkIndex_2214a 2 none, Cond.methodLink RJ2 48 yJ2_length_9d52b, Cond.static yJ2_length_9d52b, Cond.code yJ2_length_9d52b cJ2_length_9d52b 1 (some .int)]
def wsX5_hall_r5 : List Cond := [Cond.methodLink RJ2 414 yJ0_checkIndex_df160, Cond.methodLink RJ2 71 yJ2_getChar_3b067, Cond.static yJ2_getChar_3b067, Cond.code yJ2_getChar_3b067 cJ2_getChar_3b067 2 (some .char), Cond.fieldLink RJ2 44 "java/lang/StringUTF16" "$assertionsDisabled" "Z", Cond.fieldLink RJ2 59 "java/lang/StringUTF16" "HI_BYTE_SHIFT" "I", Cond.fieldLink RJ2 63 "java/lang/StringUTF16" "LO_BYTE_SHIFT" "I", Cond.methodLink RX0 64 yX0_numberHere, Cond.instanceMethod yX0_numberHere, Cond.selects RX0 yX0_numberHere yX0_numberHere, Cond.code yX0_numberHere cX0_numberHere 4 (some .int), Cond.methodLink RX0 68 yX1_setWeeks, Cond.instanceMethod yX1_setWeeks, Cond.selects RX1 yX1_setWeeks yX1_setWeeks, Cond.code yX1_setWeeks cX1_setWeeks 2 none, Cond.methodLink RX0 71 yX1_setRent, Cond.instanceMethod yX1_setRent, Cond.selects RX1 yX1_setRent yX1_setRent, Cond.code yX1_setRent cX1_setRent 2 none, Cond.methodLink RX0 74 yX1_addPart, Cond.instanceMethod yX1_addPart, Cond.selects RX1 yX1_addPart yX1_addPart, Cond.code yX1_addPart cX1_addPart 2 none, Cond.fieldLink RX1 9 "PanoramaHouse$Hall" "shareOfPart" "[I"]
def wsX5_hall_r6 : List Cond := [Cond.fieldLink RX1 15 "PanoramaHouse$Hall" "testsOfPart" "[I", Cond.methodLink RX0 77 yX0_readTests, Cond.instanceMethod yX0_readTests, Cond.selects RX0 yX0_readTests yX0_readTests, Cond.code yX0_readTests cX0_readTests 4 (some .boolean), Cond.methodLink RX0 86 yX0_readTest, Cond.instanceMethod yX0_readTest, Cond.selects RX0 yX0_readTest yX0_readTest, Cond.code yX0_readTest cX0_readTest 5 (some .boolean), Cond.methodLink RX0 91 yX0_subjectHere, Cond.instanceMethod yX0_subjectHere, Cond.selects RX0 yX0_subjectHere yX0_subjectHere, Cond.code yX0_subjectHere cX0_subjectHere 1 (some .int), Cond.methodLink RX0 80 yX0_signHere, Cond.instanceMethod yX0_signHere, Cond.selects RX0 yX0_signHere yX0_signHere, Cond.code yX0_signHere cX0_signHere 1 (some .int), Cond.methodLink RX0 94 yX1_addTest, Cond.instanceMethod yX1_addTest, Cond.selects RX1 yX1_addTest yX1_addTest, Cond.code yX1_addTest cX1_addTest 6 none, Cond.fieldLink RX1 18 "PanoramaHouse$Hall" "subjectOfTest" "[I", Cond.fieldLink RX1 21 "PanoramaHouse$Hall" "signOfTest" "[I", Cond.fieldLink RX1 24 "PanoramaHouse$Hall" "numberOfTest" "[I"]
def wsX5_hall_r7 : List Cond := [Cond.methodLink RX5 45 yX1_init, Cond.instanceMethod yX1_init, Cond.code yX1_init cX1_init 1 none, Cond.methodLink RX1 3 objectInit, Cond.instanceMethod objectInit, Cond.code objectInit ⟨#[0xb1]⟩ 1 none, Cond.arrayClass .int]
def wsX5_hall : List Cond := .code yX5_hall cX5_hall 2 (some .int) :: ((wsX5_hall_r1 ++ (wsX5_hall_r2 ++ (wsX5_hall_r3 ++ (wsX5_hall_r4 ++ (wsX5_hall_r5 ++ (wsX5_hall_r6 ++ wsX5_hall_r7)))))) ++ wsX50 ++ wsX10 ++ wsX00)
def wsX5_fault : List Cond := .code yX5_fault cX5_fault 1 (some .int) :: ([.fieldLink RX5 54 "PanoramaHouse" "faultPlace" "I"] ++ wsX50)
def wsX5_hallNumbered : List Cond := .code yX5_hallNumbered cX5_hallNumbered 2 (some (.object "PanoramaHouse$Hall")) :: ([.fieldLink RX5 34 "PanoramaHouse" "halls" "[LPanoramaHouse$Hall;"] ++ wsX50)
def wsX5_isTold : List Cond := .code yX5_isTold cX5_isTold 1 (some .boolean) :: ([.constant RX5 151 (99999)])
def wsX5_week_r1 : List Cond := [Cond.methodLink RX5 118 yX5_hallNumbered, Cond.instanceMethod yX5_hallNumbered, Cond.selects RX5 yX5_hallNumbered yX5_hallNumbered, Cond.initialized RX5, Cond.code yX5_hallNumbered cX5_hallNumbered 2 (some (.object "PanoramaHouse$Hall")), Cond.fieldLink RX5 34 "PanoramaHouse" "halls" "[LPanoramaHouse$Hall;", Cond.methodLink RX5 122 yX5_isTold, Cond.static yX5_isTold, Cond.code yX5_isTold cX5_isTold 1 (some .boolean), Cond.constant RX5 151 (99999), Cond.methodLink RX5 126 yX1_passWeek, Cond.instanceMethod yX1_passWeek, Cond.selects RX1 yX1_passWeek yX1_passWeek, Cond.initialized RX1, Cond.code yX1_passWeek cX1_passWeek 5 (some .int), Cond.fieldLink RX1 37 "PanoramaHouse$Hall" "weeksGone" "I", Cond.fieldLink RX1 27 "PanoramaHouse$Hall" "weeks" "I", Cond.fieldLink RX1 34 "PanoramaHouse$Hall" "rent" "I", Cond.methodLink RX1 40 Lib.Math.min.name, Cond.static Lib.Math.min.name, Cond.initialized "java/lang/Math", Cond.code Lib.Math.min.name Lib.Math.min.code 2 (some .int), Cond.fieldLink RX1 49 "PanoramaHouse$Hall" "toHouse" "I", Cond.fieldLink RX1 52 "PanoramaHouse$Hall" "toHall" "I"]
def wsX5_week_r2 : List Cond := [Cond.fieldLink RX1 55 "PanoramaHouse$Hall" "visitors" "I", Cond.methodLink RX1 46 yX1_shareFor, Cond.instanceMethod yX1_shareFor, Cond.selects RX1 yX1_shareFor yX1_shareFor, Cond.code yX1_shareFor cX1_shareFor 4 (some .int), Cond.fieldLink RX1 31 "PanoramaHouse$Hall" "parts" "I", Cond.fieldLink RX1 9 "PanoramaHouse$Hall" "shareOfPart" "[I", Cond.methodLink RX1 58 yX1_allHold, Cond.instanceMethod yX1_allHold, Cond.selects RX1 yX1_allHold yX1_allHold, Cond.code yX1_allHold cX1_allHold 5 (some .boolean), Cond.fieldLink RX1 15 "PanoramaHouse$Hall" "testsOfPart" "[I", Cond.methodLink RX1 62 yX1_holds, Cond.instanceMethod yX1_holds, Cond.selects RX1 yX1_holds yX1_holds, Cond.code yX1_holds cX1_holds 5 (some .boolean), Cond.fieldLink RX1 18 "PanoramaHouse$Hall" "subjectOfTest" "[I", Cond.fieldLink RX1 21 "PanoramaHouse$Hall" "signOfTest" "[I", Cond.fieldLink RX1 24 "PanoramaHouse$Hall" "numberOfTest" "[I", Cond.methodLink RX1 65 yX1_valueOf, Cond.instanceMethod yX1_valueOf, Cond.selects RX1 yX1_valueOf yX1_valueOf, Cond.code yX1_valueOf cX1_valueOf 4 (some .int)]
def wsX5_week : List Cond := .code yX5_week cX5_week 5 (some .int) :: ((wsX5_week_r1 ++ wsX5_week_r2) ++ wsX50 ++ wsX10)
def wsX5_hallOf : List Cond := .code yX5_hallOf cX5_hallOf 4 (some .int) :: ([.methodLink RX5 118 yX5_hallNumbered, .instanceMethod yX5_hallNumbered, .selects RX5 yX5_hallNumbered yX5_hallNumbered, .initialized RX5, .code yX5_hallNumbered cX5_hallNumbered 2 (some (.object "PanoramaHouse$Hall")), .fieldLink RX5 34 "PanoramaHouse" "halls" "[LPanoramaHouse$Hall;", .methodLink RX5 129 yX1_tell, .instanceMethod yX1_tell, .selects RX1 yX1_tell yX1_tell, .initialized RX1, .code yX1_tell cX1_tell 2 (some .int), .fieldLink RX1 27 "PanoramaHouse$Hall" "weeks" "I", .fieldLink RX1 37 "PanoramaHouse$Hall" "weeksGone" "I", .fieldLink RX1 49 "PanoramaHouse$Hall" "toHouse" "I", .fieldLink RX1 52 "PanoramaHouse$Hall" "toHall" "I", .fieldLink RX1 55 "PanoramaHouse$Hall" "visitors" "I", .fieldLink RX1 34 "PanoramaHouse$Hall" "rent" "I"] ++ wsX50 ++ wsX10)
def wsX5_room : List Cond := .code yX5_room cX5_room 2 (some .boolean) :: ([.fieldLink RX5 41 "PanoramaHouse" "platform" "LPanoramaHouse$Platform;", .methodLink RX5 132 yX3_setRoom, .instanceMethod yX3_setRoom, .selects RX3 yX3_setRoom yX3_setRoom, .initialized RX3, .code yX3_setRoom cX3_setRoom 2 (some .boolean), .fieldLink RX3 15 "PanoramaHouse$Platform" "most" "I"] ++ wsX50 ++ wsX30)
def wsX5_minute : List Cond := .code yX5_minute cX5_minute 2 (some .int) :: ([.fieldLink RX5 41 "PanoramaHouse" "platform" "LPanoramaHouse$Platform;", .methodLink RX5 135 yX3_passMinute, .instanceMethod yX3_passMinute, .selects RX3 yX3_passMinute yX3_passMinute, .initialized RX3, .code yX3_passMinute cX3_passMinute 5 (some .int), .fieldLink RX3 19 "PanoramaHouse$Platform" "waiting" "I", .fieldLink RX3 22 "PanoramaHouse$Platform" "minutes" "I", .fieldLink RX3 31 "PanoramaHouse$Platform" "there" "I", .fieldLink RX3 9 "PanoramaHouse$Platform" "wentUp" "[I", .fieldLink RX3 34 "PanoramaHouse$Platform" "left" "I", .fieldLink RX3 15 "PanoramaHouse$Platform" "most" "I", .methodLink RX3 37 Lib.Math.max.name, .static Lib.Math.max.name, .initialized "java/lang/Math", .code Lib.Math.max.name Lib.Math.max.code 2 (some .int), .methodLink RX3 40 Lib.Math.min.name, .static Lib.Math.min.name, .code Lib.Math.min.name Lib.Math.min.code 2 (some .int), .fieldLink RX3 43 "PanoramaHouse$Platform" "mostEver" "I", .methodLink RX3 25 yJ9_floorMod_7cf53, .static yJ9_floorMod_7cf53, .initialized RJ9, .code yJ9_floorMod_7cf53 cJ9_floorMod_7cf53 3 (some .int)] ++ wsX50 ++ wsX30)
def wsX5_crowd : List Cond := .code yX5_crowd cX5_crowd 2 (some .int) :: ([.fieldLink RX5 41 "PanoramaHouse" "platform" "LPanoramaHouse$Platform;", .methodLink RX5 138 yX3_tell, .instanceMethod yX3_tell, .selects RX3 yX3_tell yX3_tell, .initialized RX3, .code yX3_tell cX3_tell 2 (some .int), .fieldLink RX3 31 "PanoramaHouse$Platform" "there" "I", .fieldLink RX3 19 "PanoramaHouse$Platform" "waiting" "I", .fieldLink RX3 34 "PanoramaHouse$Platform" "left" "I", .fieldLink RX3 22 "PanoramaHouse$Platform" "minutes" "I", .fieldLink RX3 43 "PanoramaHouse$Platform" "mostEver" "I", .fieldLink RX3 15 "PanoramaHouse$Platform" "most" "I"] ++ wsX50 ++ wsX30)
def wsX5_count_r1 : List Cond := [Cond.fieldLink RX5 21 "PanoramaHouse" "paintwork" "LPanoramaHouse$Paintwork;", Cond.fieldLink RX5 50 "PanoramaHouse" "hallsMade" "I", Cond.fieldLink RX5 28 "PanoramaHouse" "reader" "LPanoramaHouse$ContractReader;", Cond.fieldLink RX5 10 "PanoramaHouse" "round" "LPanoramaHouse$Round;", Cond.methodLink RX5 139 yX2_today, Cond.instanceMethod yX2_today, Cond.selects RX2 yX2_today yX2_today, Cond.initialized RX2, Cond.code yX2_today cX2_today 1 (some .int), Cond.fieldLink RX2 43 "PanoramaHouse$Paintwork" "daysGone" "I", Cond.methodLink RX5 142 yX2_gangs, Cond.instanceMethod yX2_gangs, Cond.selects RX2 yX2_gangs yX2_gangs, Cond.code yX2_gangs cX2_gangs 1 (some .int), Cond.fieldLink RX2 47 "PanoramaHouse$Paintwork" "gangsHired" "I", Cond.methodLink RX5 111 yX0_bytes, Cond.instanceMethod yX0_bytes, Cond.selects RX0 yX0_bytes yX0_bytes, Cond.initialized RX0, Cond.code yX0_bytes cX0_bytes 1 (some .int), Cond.fieldLink RX0 15 "PanoramaHouse$ContractReader" "bytesOnTape" "I", Cond.methodLink RX5 145 yX4_colouredPlaces, Cond.instanceMethod yX4_colouredPlaces, Cond.selects RX4 yX4_colouredPlaces yX4_colouredPlaces]
def wsX5_count_r2 : List Cond := [Cond.initialized RX4, Cond.code yX4_colouredPlaces cX4_colouredPlaces 3 (some .int), Cond.fieldLink RX4 15 "PanoramaHouse$Round" "colouredOfSquare" "[I", Cond.methodLink RX5 148 yX2_finishedSquares, Cond.instanceMethod yX2_finishedSquares, Cond.selects RX2 yX2_finishedSquares yX2_finishedSquares, Cond.code yX2_finishedSquares cX2_finishedSquares 3 (some .int), Cond.fieldLink RX2 18 "PanoramaHouse$Paintwork" "coatsDone" "[I"]
def wsX5_count : List Cond := .code yX5_count cX5_count 2 (some .int) :: ((wsX5_count_r1 ++ wsX5_count_r2) ++ wsX50 ++ wsX20 ++ wsX00 ++ wsX40)
def wsX6_init_r1 : List Cond := [Cond.methodLink RX6 1 objectInit, Cond.instanceMethod objectInit, Cond.code objectInit ⟨#[0xb1]⟩ 1 none, Cond.arrayClass .byte, Cond.fieldLink RX6 7 "PanoramaHouseModel" "marks" "[B", Cond.constant RX6 13 (86400), Cond.fieldLink RX6 14 "PanoramaHouseModel" "laid" "[B", Cond.arrayClass .boolean, Cond.fieldLink RX6 17 "PanoramaHouseModel" "isLaid" "[Z", Cond.arrayClass .int, Cond.fieldLink RX6 21 "PanoramaHouseModel" "skill" "[I", Cond.fieldLink RX6 25 "PanoramaHouseModel" "busy" "[I", Cond.fieldLink RX6 28 "PanoramaHouseModel" "coats" "[I", Cond.fieldLink RX6 31 "PanoramaHouseModel" "gangOn" "[I", Cond.fieldLink RX6 34 "PanoramaHouseModel" "left" "[I", Cond.fieldLink RX6 37 "PanoramaHouseModel" "firstDone" "[I", Cond.fieldLink RX6 40 "PanoramaHouseModel" "secondDone" "[I", Cond.fieldLink RX6 43 "PanoramaHouseModel" "lastGang" "[I", Cond.fieldLink RX6 46 "PanoramaHouseModel" "works" "[I", Cond.fieldLink RX6 49 "PanoramaHouseModel" "load" "[I", Cond.fieldLink RX6 52 "PanoramaHouseModel" "tape" "[B", Cond.fieldLink RX6 55 "PanoramaHouseModel" "text" "[B", Cond.fieldLink RX6 58 "PanoramaHouseModel" "fault" "I", Cond.fieldLink RX6 62 "PanoramaHouseModel" "statements" "[I"]
def wsX6_init_r2 : List Cond := [Cond.fieldLink RX6 65 "PanoramaHouseModel" "kind" "[I", Cond.fieldLink RX6 68 "PanoramaHouseModel" "gives" "[I", Cond.fieldLink RX6 71 "PanoramaHouseModel" "testMany" "[I", Cond.fieldLink RX6 74 "PanoramaHouseModel" "testName" "[I", Cond.fieldLink RX6 77 "PanoramaHouseModel" "testSign" "[I", Cond.fieldLink RX6 80 "PanoramaHouseModel" "testNumber" "[I", Cond.fieldLink RX6 83 "PanoramaHouseModel" "gone" "[I", Cond.fieldLink RX6 86 "PanoramaHouseModel" "people" "[I", Cond.arrayClass .long, Cond.fieldLink RX6 89 "PanoramaHouseModel" "house" "[J", Cond.fieldLink RX6 93 "PanoramaHouseModel" "others" "[J", Cond.fieldLink RX6 96 "PanoramaHouseModel" "most" "I", Cond.fieldLink RX6 99 "PanoramaHouseModel" "up" "[I"]
def wsX6_init : List Cond := .code yX6_init cX6_init 2 none :: ((wsX6_init_r1 ++ wsX6_init_r2) ++ wsX60)
def wsX6_isIn : List Cond := .code yX6_isIn cX6_isIn 3 (some .boolean) :: ([])
def wsX6_isMark : List Cond := .code yX6_isMark cX6_isMark 3 (some .boolean) :: ([.methodLink RX6 102 yX6_isIn, .static yX6_isIn, .initialized RX6, .code yX6_isIn cX6_isIn 3 (some .boolean)])
def wsX6_puts : List Cond := .code yX6_puts cX6_puts 5 none :: ([.fieldLink RX6 7 "PanoramaHouseModel" "marks" "[B", .fieldLink RX6 17 "PanoramaHouseModel" "isLaid" "[Z"] ++ wsX60)
def wsX6_mark : List Cond := .code yX6_mark cX6_mark 5 (some .boolean) :: ([.methodLink RX6 106 yX6_isMark, .static yX6_isMark, .initialized RX6, .code yX6_isMark cX6_isMark 3 (some .boolean), .methodLink RX6 102 yX6_isIn, .static yX6_isIn, .code yX6_isIn cX6_isIn 3 (some .boolean), .methodLink RX6 109 yX6_puts, .instanceMethod yX6_puts, .selects RX6 yX6_puts yX6_puts, .code yX6_puts cX6_puts 5 none, .fieldLink RX6 7 "PanoramaHouseModel" "marks" "[B", .fieldLink RX6 17 "PanoramaHouseModel" "isLaid" "[Z"] ++ wsX60)
def wsX6_line : List Cond := .code yX6_line cX6_line 9 (some .int) :: ([.methodLink RX6 113 Lib.Math.abs.name, .static Lib.Math.abs.name, .initialized "java/lang/Math", .code Lib.Math.abs.name Lib.Math.abs.code 1 (some .int), .methodLink RX6 119 Lib.Math.max.name, .static Lib.Math.max.name, .code Lib.Math.max.name Lib.Math.max.code 2 (some .int), .methodLink RX6 106 yX6_isMark, .static yX6_isMark, .initialized RX6, .code yX6_isMark cX6_isMark 3 (some .boolean), .methodLink RX6 102 yX6_isIn, .static yX6_isIn, .code yX6_isIn cX6_isIn 3 (some .boolean), .methodLink RX6 123 yJ9_floorDiv_7cf53, .static yJ9_floorDiv_7cf53, .initialized RJ9, .code yJ9_floorDiv_7cf53 cJ9_floorDiv_7cf53 3 (some .int), .methodLink RX6 109 yX6_puts, .instanceMethod yX6_puts, .selects RX6 yX6_puts yX6_puts, .code yX6_puts cX6_puts 5 none, .fieldLink RX6 7 "PanoramaHouseModel" "marks" "[B", .fieldLink RX6 17 "PanoramaHouseModel" "isLaid" "[Z"] ++ wsX60)
def wsX6_column : List Cond := .code yX6_column cX6_column 3 (some .int) :: ([.methodLink RX6 126 yJ9_floorMod_7cf53, .static yJ9_floorMod_7cf53, .initialized RJ9, .code yJ9_floorMod_7cf53 cJ9_floorMod_7cf53 3 (some .int)])
def wsX6_row : List Cond := .code yX6_row cX6_row 2 (some .int) :: ([])
def wsX6_stands : List Cond := .code yX6_stands cX6_stands 5 (some .int) :: ([.methodLink RX6 106 yX6_isMark, .static yX6_isMark, .initialized RX6, .code yX6_isMark cX6_isMark 3 (some .boolean), .methodLink RX6 102 yX6_isIn, .static yX6_isIn, .code yX6_isIn cX6_isIn 3 (some .boolean), .methodLink RX6 129 yX6_column, .static yX6_column, .code yX6_column cX6_column 3 (some .int), .methodLink RX6 126 yJ9_floorMod_7cf53, .static yJ9_floorMod_7cf53, .initialized RJ9, .code yJ9_floorMod_7cf53 cJ9_floorMod_7cf53 3 (some .int), .methodLink RX6 132 yX6_row, .static yX6_row, .code yX6_row cX6_row 2 (some .int)])
def wsX6_colourIn : List Cond := .code yX6_colourIn cX6_colourIn 6 (some .int) :: ([.fieldLink RX6 17 "PanoramaHouseModel" "isLaid" "[Z", .fieldLink RX6 14 "PanoramaHouseModel" "laid" "[B", .fieldLink RX6 7 "PanoramaHouseModel" "marks" "[B", .methodLink RX6 129 yX6_column, .static yX6_column, .initialized RX6, .code yX6_column cX6_column 3 (some .int), .methodLink RX6 126 yJ9_floorMod_7cf53, .static yJ9_floorMod_7cf53, .initialized RJ9, .code yJ9_floorMod_7cf53 cJ9_floorMod_7cf53 3 (some .int), .methodLink RX6 132 yX6_row, .static yX6_row, .code yX6_row cX6_row 2 (some .int)] ++ wsX60)
def wsX6_viewAt_r1 : List Cond := [Cond.methodLink RX6 113 Lib.Math.abs.name, Cond.static Lib.Math.abs.name, Cond.initialized "java/lang/Math", Cond.code Lib.Math.abs.name Lib.Math.abs.code 1 (some .int), Cond.methodLink RX6 138 Lib.Math.min.name, Cond.static Lib.Math.min.name, Cond.code Lib.Math.min.name Lib.Math.min.code 2 (some .int), Cond.methodLink RX6 135 yX6_colourIn, Cond.instanceMethod yX6_colourIn, Cond.selects RX6 yX6_colourIn yX6_colourIn, Cond.initialized RX6, Cond.code yX6_colourIn cX6_colourIn 6 (some .int), Cond.fieldLink RX6 17 "PanoramaHouseModel" "isLaid" "[Z", Cond.fieldLink RX6 14 "PanoramaHouseModel" "laid" "[B", Cond.fieldLink RX6 7 "PanoramaHouseModel" "marks" "[B", Cond.methodLink RX6 129 yX6_column, Cond.static yX6_column, Cond.code yX6_column cX6_column 3 (some .int), Cond.methodLink RX6 126 yJ9_floorMod_7cf53, Cond.static yJ9_floorMod_7cf53, Cond.initialized RJ9, Cond.code yJ9_floorMod_7cf53 cJ9_floorMod_7cf53 3 (some .int), Cond.methodLink RX6 132 yX6_row, Cond.static yX6_row]
def wsX6_viewAt_r2 : List Cond := [Cond.code yX6_row cX6_row 2 (some .int)]
def wsX6_viewAt : List Cond := .code yX6_viewAt cX6_viewAt 6 (some .int) :: ((wsX6_viewAt_r1 ++ wsX6_viewAt_r2) ++ wsX60)
def wsX6_isPlace : List Cond := .code yX6_isPlace cX6_isPlace 2 (some .boolean) :: ([.methodLink RX6 102 yX6_isIn, .static yX6_isIn, .initialized RX6, .code yX6_isIn cX6_isIn 3 (some .boolean)])
def wsX6_colour_r1 : List Cond := [Cond.methodLink RX6 141 yX6_isPlace, Cond.static yX6_isPlace, Cond.initialized RX6, Cond.code yX6_isPlace cX6_isPlace 2 (some .boolean), Cond.methodLink RX6 102 yX6_isIn, Cond.static yX6_isIn, Cond.code yX6_isIn cX6_isIn 3 (some .boolean), Cond.methodLink RX6 145 yX6_viewAt, Cond.instanceMethod yX6_viewAt, Cond.selects RX6 yX6_viewAt yX6_viewAt, Cond.code yX6_viewAt cX6_viewAt 6 (some .int), Cond.methodLink RX6 113 Lib.Math.abs.name, Cond.static Lib.Math.abs.name, Cond.initialized "java/lang/Math", Cond.code Lib.Math.abs.name Lib.Math.abs.code 1 (some .int), Cond.methodLink RX6 138 Lib.Math.min.name, Cond.static Lib.Math.min.name, Cond.code Lib.Math.min.name Lib.Math.min.code 2 (some .int), Cond.methodLink RX6 135 yX6_colourIn, Cond.instanceMethod yX6_colourIn, Cond.selects RX6 yX6_colourIn yX6_colourIn, Cond.code yX6_colourIn cX6_colourIn 6 (some .int), Cond.fieldLink RX6 17 "PanoramaHouseModel" "isLaid" "[Z", Cond.fieldLink RX6 14 "PanoramaHouseModel" "laid" "[B"]
def wsX6_colour_r2 : List Cond := [Cond.fieldLink RX6 7 "PanoramaHouseModel" "marks" "[B", Cond.methodLink RX6 129 yX6_column, Cond.static yX6_column, Cond.code yX6_column cX6_column 3 (some .int), Cond.methodLink RX6 126 yJ9_floorMod_7cf53, Cond.static yJ9_floorMod_7cf53, Cond.initialized RJ9, Cond.code yJ9_floorMod_7cf53 cJ9_floorMod_7cf53 3 (some .int), Cond.methodLink RX6 132 yX6_row, Cond.static yX6_row, Cond.code yX6_row cX6_row 2 (some .int)]
def wsX6_colour : List Cond := .code yX6_colour cX6_colour 4 (some .int) :: ((wsX6_colour_r1 ++ wsX6_colour_r2) ++ wsX60)
def wsX6_from_r1 : List Cond := [Cond.methodLink RX6 141 yX6_isPlace, Cond.static yX6_isPlace, Cond.initialized RX6, Cond.code yX6_isPlace cX6_isPlace 2 (some .boolean), Cond.methodLink RX6 102 yX6_isIn, Cond.static yX6_isIn, Cond.code yX6_isIn cX6_isIn 3 (some .boolean), Cond.methodLink RX6 145 yX6_viewAt, Cond.instanceMethod yX6_viewAt, Cond.selects RX6 yX6_viewAt yX6_viewAt, Cond.code yX6_viewAt cX6_viewAt 6 (some .int), Cond.methodLink RX6 113 Lib.Math.abs.name, Cond.static Lib.Math.abs.name, Cond.initialized "java/lang/Math", Cond.code Lib.Math.abs.name Lib.Math.abs.code 1 (some .int), Cond.methodLink RX6 138 Lib.Math.min.name, Cond.static Lib.Math.min.name, Cond.code Lib.Math.min.name Lib.Math.min.code 2 (some .int), Cond.methodLink RX6 135 yX6_colourIn, Cond.instanceMethod yX6_colourIn, Cond.selects RX6 yX6_colourIn yX6_colourIn, Cond.code yX6_colourIn cX6_colourIn 6 (some .int), Cond.fieldLink RX6 17 "PanoramaHouseModel" "isLaid" "[Z", Cond.fieldLink RX6 14 "PanoramaHouseModel" "laid" "[B"]
def wsX6_from_r2 : List Cond := [Cond.fieldLink RX6 7 "PanoramaHouseModel" "marks" "[B", Cond.methodLink RX6 129 yX6_column, Cond.static yX6_column, Cond.code yX6_column cX6_column 3 (some .int), Cond.methodLink RX6 126 yJ9_floorMod_7cf53, Cond.static yJ9_floorMod_7cf53, Cond.initialized RJ9, Cond.code yJ9_floorMod_7cf53 cJ9_floorMod_7cf53 3 (some .int), Cond.methodLink RX6 132 yX6_row, Cond.static yX6_row, Cond.code yX6_row cX6_row 2 (some .int)]
def wsX6_from : List Cond := .code yX6_from cX6_from 3 (some .int) :: ((wsX6_from_r1 ++ wsX6_from_r2) ++ wsX60)
def wsX6_seam : List Cond := .code yX6_seam cX6_seam 6 (some .int) :: ([.methodLink RX6 102 yX6_isIn, .static yX6_isIn, .initialized RX6, .code yX6_isIn cX6_isIn 3 (some .boolean), .methodLink RX6 135 yX6_colourIn, .instanceMethod yX6_colourIn, .selects RX6 yX6_colourIn yX6_colourIn, .code yX6_colourIn cX6_colourIn 6 (some .int), .fieldLink RX6 17 "PanoramaHouseModel" "isLaid" "[Z", .fieldLink RX6 14 "PanoramaHouseModel" "laid" "[B", .fieldLink RX6 7 "PanoramaHouseModel" "marks" "[B", .methodLink RX6 129 yX6_column, .static yX6_column, .code yX6_column cX6_column 3 (some .int), .methodLink RX6 126 yJ9_floorMod_7cf53, .static yJ9_floorMod_7cf53, .initialized RJ9, .code yJ9_floorMod_7cf53 cJ9_floorMod_7cf53 3 (some .int), .methodLink RX6 132 yX6_row, .static yX6_row, .code yX6_row cX6_row 2 (some .int)] ++ wsX60)
def wsX6_isSquare : List Cond := .code yX6_isSquare cX6_isSquare 1 (some .boolean) :: ([.methodLink RX6 102 yX6_isIn, .static yX6_isIn, .initialized RX6, .code yX6_isIn cX6_isIn 3 (some .boolean)])
def wsX6_work_r1 : List Cond := [Cond.methodLink RX6 145 yX6_viewAt, Cond.instanceMethod yX6_viewAt, Cond.selects RX6 yX6_viewAt yX6_viewAt, Cond.initialized RX6, Cond.code yX6_viewAt cX6_viewAt 6 (some .int), Cond.methodLink RX6 113 Lib.Math.abs.name, Cond.static Lib.Math.abs.name, Cond.initialized "java/lang/Math", Cond.code Lib.Math.abs.name Lib.Math.abs.code 1 (some .int), Cond.methodLink RX6 138 Lib.Math.min.name, Cond.static Lib.Math.min.name, Cond.code Lib.Math.min.name Lib.Math.min.code 2 (some .int), Cond.methodLink RX6 135 yX6_colourIn, Cond.instanceMethod yX6_colourIn, Cond.selects RX6 yX6_colourIn yX6_colourIn, Cond.code yX6_colourIn cX6_colourIn 6 (some .int), Cond.fieldLink RX6 17 "PanoramaHouseModel" "isLaid" "[Z", Cond.fieldLink RX6 14 "PanoramaHouseModel" "laid" "[B", Cond.fieldLink RX6 7 "PanoramaHouseModel" "marks" "[B", Cond.methodLink RX6 129 yX6_column, Cond.static yX6_column, Cond.code yX6_column cX6_column 3 (some .int), Cond.methodLink RX6 126 yJ9_floorMod_7cf53, Cond.static yJ9_floorMod_7cf53]
def wsX6_work_r2 : List Cond := [Cond.initialized RJ9, Cond.code yJ9_floorMod_7cf53 cJ9_floorMod_7cf53 3 (some .int), Cond.methodLink RX6 132 yX6_row, Cond.static yX6_row, Cond.code yX6_row cX6_row 2 (some .int)]
def wsX6_work : List Cond := .code yX6_work cX6_work 6 (some .int) :: ((wsX6_work_r1 ++ wsX6_work_r2) ++ wsX60)
def wsX6_gang : List Cond := .code yX6_gang cX6_gang 2 (some .int) :: ([.fieldLink RX6 148 "PanoramaHouseModel" "gangs" "I", .fieldLink RX6 21 "PanoramaHouseModel" "skill" "[I", .methodLink RX6 102 yX6_isIn, .static yX6_isIn, .initialized RX6, .code yX6_isIn cX6_isIn 3 (some .boolean)] ++ wsX60)
def wsX6_put_r1 : List Cond := [Cond.fieldLink RX6 148 "PanoramaHouseModel" "gangs" "I", Cond.fieldLink RX6 25 "PanoramaHouseModel" "busy" "[I", Cond.fieldLink RX6 28 "PanoramaHouseModel" "coats" "[I", Cond.fieldLink RX6 31 "PanoramaHouseModel" "gangOn" "[I", Cond.fieldLink RX6 155 "PanoramaHouseModel" "today" "I", Cond.fieldLink RX6 37 "PanoramaHouseModel" "firstDone" "[I", Cond.fieldLink RX6 34 "PanoramaHouseModel" "left" "[I", Cond.methodLink RX6 119 Lib.Math.max.name, Cond.static Lib.Math.max.name, Cond.initialized "java/lang/Math", Cond.code Lib.Math.max.name Lib.Math.max.code 2 (some .int), Cond.methodLink RX6 102 yX6_isIn, Cond.static yX6_isIn, Cond.initialized RX6, Cond.code yX6_isIn cX6_isIn 3 (some .boolean), Cond.methodLink RX6 151 yX6_isSquare, Cond.static yX6_isSquare, Cond.code yX6_isSquare cX6_isSquare 1 (some .boolean), Cond.methodLink RX6 158 yX6_work, Cond.instanceMethod yX6_work, Cond.selects RX6 yX6_work yX6_work, Cond.code yX6_work cX6_work 6 (some .int), Cond.methodLink RX6 145 yX6_viewAt, Cond.instanceMethod yX6_viewAt]
def wsX6_put_r2 : List Cond := [Cond.selects RX6 yX6_viewAt yX6_viewAt, Cond.code yX6_viewAt cX6_viewAt 6 (some .int), Cond.methodLink RX6 113 Lib.Math.abs.name, Cond.static Lib.Math.abs.name, Cond.code Lib.Math.abs.name Lib.Math.abs.code 1 (some .int), Cond.methodLink RX6 138 Lib.Math.min.name, Cond.static Lib.Math.min.name, Cond.code Lib.Math.min.name Lib.Math.min.code 2 (some .int), Cond.methodLink RX6 135 yX6_colourIn, Cond.instanceMethod yX6_colourIn, Cond.selects RX6 yX6_colourIn yX6_colourIn, Cond.code yX6_colourIn cX6_colourIn 6 (some .int), Cond.fieldLink RX6 17 "PanoramaHouseModel" "isLaid" "[Z", Cond.fieldLink RX6 14 "PanoramaHouseModel" "laid" "[B", Cond.fieldLink RX6 7 "PanoramaHouseModel" "marks" "[B", Cond.methodLink RX6 129 yX6_column, Cond.static yX6_column, Cond.code yX6_column cX6_column 3 (some .int), Cond.methodLink RX6 126 yJ9_floorMod_7cf53, Cond.static yJ9_floorMod_7cf53, Cond.initialized RJ9, Cond.code yJ9_floorMod_7cf53 cJ9_floorMod_7cf53 3 (some .int), Cond.methodLink RX6 132 yX6_row, Cond.static yX6_row]
def wsX6_put_r3 : List Cond := [Cond.code yX6_row cX6_row 2 (some .int)]
def wsX6_put : List Cond := .code yX6_put cX6_put 5 (some .int) :: ((wsX6_put_r1 ++ (wsX6_put_r2 ++ wsX6_put_r3)) ++ wsX60)
def wsX6_day : List Cond := .code yX6_day cX6_day 3 (some .int) :: ([.fieldLink RX6 155 "PanoramaHouseModel" "today" "I", .fieldLink RX6 148 "PanoramaHouseModel" "gangs" "I", .fieldLink RX6 25 "PanoramaHouseModel" "busy" "[I", .fieldLink RX6 34 "PanoramaHouseModel" "left" "[I", .fieldLink RX6 21 "PanoramaHouseModel" "skill" "[I", .methodLink RX6 119 Lib.Math.max.name, .static Lib.Math.max.name, .initialized "java/lang/Math", .code Lib.Math.max.name Lib.Math.max.code 2 (some .int), .fieldLink RX6 28 "PanoramaHouseModel" "coats" "[I", .fieldLink RX6 37 "PanoramaHouseModel" "firstDone" "[I", .fieldLink RX6 40 "PanoramaHouseModel" "secondDone" "[I", .fieldLink RX6 43 "PanoramaHouseModel" "lastGang" "[I", .fieldLink RX6 31 "PanoramaHouseModel" "gangOn" "[I"] ++ wsX60)
def wsX6_square_r1 : List Cond := [Cond.fieldLink RX6 28 "PanoramaHouseModel" "coats" "[I", Cond.fieldLink RX6 31 "PanoramaHouseModel" "gangOn" "[I", Cond.fieldLink RX6 34 "PanoramaHouseModel" "left" "[I", Cond.fieldLink RX6 37 "PanoramaHouseModel" "firstDone" "[I", Cond.fieldLink RX6 40 "PanoramaHouseModel" "secondDone" "[I", Cond.fieldLink RX6 43 "PanoramaHouseModel" "lastGang" "[I", Cond.methodLink RX6 151 yX6_isSquare, Cond.static yX6_isSquare, Cond.initialized RX6, Cond.code yX6_isSquare cX6_isSquare 1 (some .boolean), Cond.methodLink RX6 102 yX6_isIn, Cond.static yX6_isIn, Cond.code yX6_isIn cX6_isIn 3 (some .boolean), Cond.methodLink RX6 158 yX6_work, Cond.instanceMethod yX6_work, Cond.selects RX6 yX6_work yX6_work, Cond.code yX6_work cX6_work 6 (some .int), Cond.methodLink RX6 145 yX6_viewAt, Cond.instanceMethod yX6_viewAt, Cond.selects RX6 yX6_viewAt yX6_viewAt, Cond.code yX6_viewAt cX6_viewAt 6 (some .int), Cond.methodLink RX6 113 Lib.Math.abs.name, Cond.static Lib.Math.abs.name, Cond.initialized "java/lang/Math"]
def wsX6_square_r2 : List Cond := [Cond.code Lib.Math.abs.name Lib.Math.abs.code 1 (some .int), Cond.methodLink RX6 138 Lib.Math.min.name, Cond.static Lib.Math.min.name, Cond.code Lib.Math.min.name Lib.Math.min.code 2 (some .int), Cond.methodLink RX6 135 yX6_colourIn, Cond.instanceMethod yX6_colourIn, Cond.selects RX6 yX6_colourIn yX6_colourIn, Cond.code yX6_colourIn cX6_colourIn 6 (some .int), Cond.fieldLink RX6 17 "PanoramaHouseModel" "isLaid" "[Z", Cond.fieldLink RX6 14 "PanoramaHouseModel" "laid" "[B", Cond.fieldLink RX6 7 "PanoramaHouseModel" "marks" "[B", Cond.methodLink RX6 129 yX6_column, Cond.static yX6_column, Cond.code yX6_column cX6_column 3 (some .int), Cond.methodLink RX6 126 yJ9_floorMod_7cf53, Cond.static yJ9_floorMod_7cf53, Cond.initialized RJ9, Cond.code yJ9_floorMod_7cf53 cJ9_floorMod_7cf53 3 (some .int), Cond.methodLink RX6 132 yX6_row, Cond.static yX6_row, Cond.code yX6_row cX6_row 2 (some .int)]
def wsX6_square : List Cond := .code yX6_square cX6_square 3 (some .int) :: ((wsX6_square_r1 ++ wsX6_square_r2) ++ wsX60)
def wsX6_least_r1 : List Cond := [Cond.fieldLink RX6 148 "PanoramaHouseModel" "gangs" "I", Cond.methodLink RX6 138 Lib.Math.min.name, Cond.static Lib.Math.min.name, Cond.initialized "java/lang/Math", Cond.code Lib.Math.min.name Lib.Math.min.code 2 (some .int), Cond.fieldLink RX6 46 "PanoramaHouseModel" "works" "[I", Cond.fieldLink RX6 49 "PanoramaHouseModel" "load" "[I", Cond.fieldLink RX6 21 "PanoramaHouseModel" "skill" "[I", Cond.methodLink RX6 119 Lib.Math.max.name, Cond.static Lib.Math.max.name, Cond.code Lib.Math.max.name Lib.Math.max.code 2 (some .int), Cond.methodLink RX6 102 yX6_isIn, Cond.static yX6_isIn, Cond.initialized RX6, Cond.code yX6_isIn cX6_isIn 3 (some .boolean), Cond.methodLink RX6 158 yX6_work, Cond.instanceMethod yX6_work, Cond.selects RX6 yX6_work yX6_work, Cond.code yX6_work cX6_work 6 (some .int), Cond.methodLink RX6 145 yX6_viewAt, Cond.instanceMethod yX6_viewAt, Cond.selects RX6 yX6_viewAt yX6_viewAt, Cond.code yX6_viewAt cX6_viewAt 6 (some .int), Cond.methodLink RX6 113 Lib.Math.abs.name]
def wsX6_least_r2 : List Cond := [Cond.static Lib.Math.abs.name, Cond.code Lib.Math.abs.name Lib.Math.abs.code 1 (some .int), Cond.methodLink RX6 135 yX6_colourIn, Cond.instanceMethod yX6_colourIn, Cond.selects RX6 yX6_colourIn yX6_colourIn, Cond.code yX6_colourIn cX6_colourIn 6 (some .int), Cond.fieldLink RX6 17 "PanoramaHouseModel" "isLaid" "[Z", Cond.fieldLink RX6 14 "PanoramaHouseModel" "laid" "[B", Cond.fieldLink RX6 7 "PanoramaHouseModel" "marks" "[B", Cond.methodLink RX6 129 yX6_column, Cond.static yX6_column, Cond.code yX6_column cX6_column 3 (some .int), Cond.methodLink RX6 126 yJ9_floorMod_7cf53, Cond.static yJ9_floorMod_7cf53, Cond.initialized RJ9, Cond.code yJ9_floorMod_7cf53 cJ9_floorMod_7cf53 3 (some .int), Cond.methodLink RX6 132 yX6_row, Cond.static yX6_row, Cond.code yX6_row cX6_row 2 (some .int)]
def wsX6_least : List Cond := .code yX6_least cX6_least 10 (some .int) :: ((wsX6_least_r1 ++ wsX6_least_r2) ++ wsX60)
def wsX6_four : List Cond := .code yX6_four cX6_four 3 none :: ([.fieldLink RX6 52 "PanoramaHouseModel" "tape" "[B", .fieldLink RX6 161 "PanoramaHouseModel" "taped" "I"] ++ wsX60)
def wsX6_feed : List Cond := .code yX6_feed cX6_feed 6 (some .int) :: ([.fieldLink RX6 161 "PanoramaHouseModel" "taped" "I", .methodLink RX6 164 yX6_four, .instanceMethod yX6_four, .selects RX6 yX6_four yX6_four, .initialized RX6, .code yX6_four cX6_four 3 none, .fieldLink RX6 52 "PanoramaHouseModel" "tape" "[B"] ++ wsX60)
def wsX6_blanks : List Cond := .code yX6_blanks cX6_blanks 1 none :: ([.fieldLink RX6 168 "PanoramaHouseModel" "at" "I", .fieldLink RX6 171 "PanoramaHouseModel" "size" "I", .fieldLink RX6 55 "PanoramaHouseModel" "text" "[B"] ++ wsX60)
def wsX6_word : List Cond := .code yX6_word cX6_word 3 (some .long) :: ([.fieldLink RX6 168 "PanoramaHouseModel" "at" "I", .fieldLink RX6 177 "PanoramaHouseModel" "wordEnd" "I", .fieldLink RX6 171 "PanoramaHouseModel" "size" "I", .fieldLink RX6 55 "PanoramaHouseModel" "text" "[B", .methodLink RX6 174 yX6_blanks, .instanceMethod yX6_blanks, .selects RX6 yX6_blanks yX6_blanks, .initialized RX6, .code yX6_blanks cX6_blanks 1 none] ++ wsX60)
def wsX6_takes : List Cond := .code yX6_takes cX6_takes 3 (some .boolean) :: ([.fieldLink RX6 177 "PanoramaHouseModel" "wordEnd" "I", .fieldLink RX6 168 "PanoramaHouseModel" "at" "I", .methodLink RX6 180 yX6_word, .instanceMethod yX6_word, .selects RX6 yX6_word yX6_word, .initialized RX6, .code yX6_word cX6_word 3 (some .long), .fieldLink RX6 171 "PanoramaHouseModel" "size" "I", .fieldLink RX6 55 "PanoramaHouseModel" "text" "[B", .methodLink RX6 174 yX6_blanks, .instanceMethod yX6_blanks, .selects RX6 yX6_blanks yX6_blanks, .code yX6_blanks cX6_blanks 1 none] ++ wsX60)
def wsX6_takesNumber : List Cond := .code yX6_takesNumber cX6_takesNumber 3 (some .boolean) :: ([.fieldLink RX6 168 "PanoramaHouseModel" "at" "I", .fieldLink RX6 184 "PanoramaHouseModel" "number" "I", .fieldLink RX6 171 "PanoramaHouseModel" "size" "I", .fieldLink RX6 55 "PanoramaHouseModel" "text" "[B", .methodLink RX6 174 yX6_blanks, .instanceMethod yX6_blanks, .selects RX6 yX6_blanks yX6_blanks, .initialized RX6, .code yX6_blanks cX6_blanks 1 none] ++ wsX60)
def wsX6_test_r1 : List Cond := [Cond.fieldLink RX6 74 "PanoramaHouseModel" "testName" "[I", Cond.constantLong RX6 187 (2003133803), Cond.constantLong RX6 189 (123580963646565), Cond.constantLong RX6 191 (427070942835), Cond.fieldLink RX6 177 "PanoramaHouseModel" "wordEnd" "I", Cond.fieldLink RX6 168 "PanoramaHouseModel" "at" "I", Cond.fieldLink RX6 171 "PanoramaHouseModel" "size" "I", Cond.fieldLink RX6 55 "PanoramaHouseModel" "text" "[B", Cond.fieldLink RX6 77 "PanoramaHouseModel" "testSign" "[I", Cond.constant RX6 193 (99999), Cond.fieldLink RX6 80 "PanoramaHouseModel" "testNumber" "[I", Cond.fieldLink RX6 184 "PanoramaHouseModel" "number" "I", Cond.methodLink RX6 180 yX6_word, Cond.instanceMethod yX6_word, Cond.selects RX6 yX6_word yX6_word, Cond.initialized RX6, Cond.code yX6_word cX6_word 3 (some .long), Cond.methodLink RX6 174 yX6_blanks, Cond.instanceMethod yX6_blanks, Cond.selects RX6 yX6_blanks yX6_blanks, Cond.code yX6_blanks cX6_blanks 1 none, Cond.methodLink RX6 194 yX6_takesNumber, Cond.instanceMethod yX6_takesNumber, Cond.selects RX6 yX6_takesNumber yX6_takesNumber]
def wsX6_test_r2 : List Cond := [Cond.code yX6_takesNumber cX6_takesNumber 3 (some .boolean)]
def wsX6_test : List Cond := .code yX6_test cX6_test 4 (some .boolean) :: ((wsX6_test_r1 ++ wsX6_test_r2) ++ wsX60)
def wsX6_statement_r1 : List Cond := [Cond.fieldLink RX6 71 "PanoramaHouseModel" "testMany" "[I", Cond.fieldLink RX6 65 "PanoramaHouseModel" "kind" "[I", Cond.constantLong RX6 197 (512802253683), Cond.constantLong RX6 203 (1919250036), Cond.constantLong RX6 205 (1885434484), Cond.constant RX6 193 (99999), Cond.fieldLink RX6 68 "PanoramaHouseModel" "gives" "[I", Cond.fieldLink RX6 184 "PanoramaHouseModel" "number" "I", Cond.constantLong RX6 207 (26982), Cond.constantLong RX6 212 (6385252), Cond.fieldLink RX6 168 "PanoramaHouseModel" "at" "I", Cond.fieldLink RX6 171 "PanoramaHouseModel" "size" "I", Cond.fieldLink RX6 55 "PanoramaHouseModel" "text" "[B", Cond.methodLink RX6 199 yX6_takes, Cond.instanceMethod yX6_takes, Cond.selects RX6 yX6_takes yX6_takes, Cond.initialized RX6, Cond.code yX6_takes cX6_takes 3 (some .boolean), Cond.fieldLink RX6 177 "PanoramaHouseModel" "wordEnd" "I", Cond.methodLink RX6 180 yX6_word, Cond.instanceMethod yX6_word, Cond.selects RX6 yX6_word yX6_word, Cond.code yX6_word cX6_word 3 (some .long), Cond.methodLink RX6 174 yX6_blanks]
def wsX6_statement_r2 : List Cond := [Cond.instanceMethod yX6_blanks, Cond.selects RX6 yX6_blanks yX6_blanks, Cond.code yX6_blanks cX6_blanks 1 none, Cond.methodLink RX6 194 yX6_takesNumber, Cond.instanceMethod yX6_takesNumber, Cond.selects RX6 yX6_takesNumber yX6_takesNumber, Cond.code yX6_takesNumber cX6_takesNumber 3 (some .boolean), Cond.methodLink RX6 209 yX6_test, Cond.instanceMethod yX6_test, Cond.selects RX6 yX6_test yX6_test, Cond.code yX6_test cX6_test 4 (some .boolean), Cond.fieldLink RX6 74 "PanoramaHouseModel" "testName" "[I", Cond.constantLong RX6 187 (2003133803), Cond.constantLong RX6 189 (123580963646565), Cond.constantLong RX6 191 (427070942835), Cond.fieldLink RX6 77 "PanoramaHouseModel" "testSign" "[I", Cond.fieldLink RX6 80 "PanoramaHouseModel" "testNumber" "[I"]
def wsX6_statement : List Cond := .code yX6_statement cX6_statement 3 (some .boolean) :: ((wsX6_statement_r1 ++ wsX6_statement_r2) ++ wsX60)
def wsX6_hall_r1 : List Cond := [Cond.fieldLink RX6 161 "PanoramaHouseModel" "taped" "I", Cond.fieldLink RX6 214 "PanoramaHouseModel" "halls" "I", Cond.fieldLink RX6 55 "PanoramaHouseModel" "text" "[B", Cond.fieldLink RX6 52 "PanoramaHouseModel" "tape" "[B", Cond.fieldLink RX6 171 "PanoramaHouseModel" "size" "I", Cond.fieldLink RX6 168 "PanoramaHouseModel" "at" "I", Cond.fieldLink RX6 62 "PanoramaHouseModel" "statements" "[I", Cond.fieldLink RX6 58 "PanoramaHouseModel" "fault" "I", Cond.methodLink RX6 102 yX6_isIn, Cond.static yX6_isIn, Cond.initialized RX6, Cond.code yX6_isIn cX6_isIn 3 (some .boolean), Cond.methodLink RX6 174 yX6_blanks, Cond.instanceMethod yX6_blanks, Cond.selects RX6 yX6_blanks yX6_blanks, Cond.code yX6_blanks cX6_blanks 1 none, Cond.methodLink RX6 217 yX6_statement, Cond.instanceMethod yX6_statement, Cond.selects RX6 yX6_statement yX6_statement, Cond.code yX6_statement cX6_statement 3 (some .boolean), Cond.fieldLink RX6 71 "PanoramaHouseModel" "testMany" "[I", Cond.fieldLink RX6 65 "PanoramaHouseModel" "kind" "[I", Cond.constantLong RX6 197 (512802253683), Cond.constantLong RX6 203 (1919250036)]
def wsX6_hall_r2 : List Cond := [Cond.constantLong RX6 205 (1885434484), Cond.constant RX6 193 (99999), Cond.fieldLink RX6 68 "PanoramaHouseModel" "gives" "[I", Cond.fieldLink RX6 184 "PanoramaHouseModel" "number" "I", Cond.constantLong RX6 207 (26982), Cond.constantLong RX6 212 (6385252), Cond.methodLink RX6 199 yX6_takes, Cond.instanceMethod yX6_takes, Cond.selects RX6 yX6_takes yX6_takes, Cond.code yX6_takes cX6_takes 3 (some .boolean), Cond.fieldLink RX6 177 "PanoramaHouseModel" "wordEnd" "I", Cond.methodLink RX6 180 yX6_word, Cond.instanceMethod yX6_word, Cond.selects RX6 yX6_word yX6_word, Cond.code yX6_word cX6_word 3 (some .long), Cond.methodLink RX6 194 yX6_takesNumber, Cond.instanceMethod yX6_takesNumber, Cond.selects RX6 yX6_takesNumber yX6_takesNumber, Cond.code yX6_takesNumber cX6_takesNumber 3 (some .boolean), Cond.methodLink RX6 209 yX6_test, Cond.instanceMethod yX6_test, Cond.selects RX6 yX6_test yX6_test, Cond.code yX6_test cX6_test 4 (some .boolean), Cond.fieldLink RX6 74 "PanoramaHouseModel" "testName" "[I"]
def wsX6_hall_r3 : List Cond := [Cond.constantLong RX6 187 (2003133803), Cond.constantLong RX6 189 (123580963646565), Cond.constantLong RX6 191 (427070942835), Cond.fieldLink RX6 77 "PanoramaHouseModel" "testSign" "[I", Cond.fieldLink RX6 80 "PanoramaHouseModel" "testNumber" "[I"]
def wsX6_hall : List Cond := .code yX6_hall cX6_hall 3 (some .int) :: ((wsX6_hall_r1 ++ (wsX6_hall_r2 ++ wsX6_hall_r3)) ++ wsX60)
def wsX6_fault : List Cond := .code yX6_fault cX6_fault 1 (some .int) :: ([.fieldLink RX6 58 "PanoramaHouseModel" "fault" "I"] ++ wsX60)
def wsX6_lastOf : List Cond := .code yX6_lastOf cX6_lastOf 6 (some .int) :: ([.fieldLink RX6 62 "PanoramaHouseModel" "statements" "[I", .fieldLink RX6 65 "PanoramaHouseModel" "kind" "[I", .fieldLink RX6 68 "PanoramaHouseModel" "gives" "[I"] ++ wsX60)
def wsX6_partOf : List Cond := .code yX6_partOf cX6_partOf 9 (some .int) :: ([.fieldLink RX6 62 "PanoramaHouseModel" "statements" "[I", .fieldLink RX6 65 "PanoramaHouseModel" "kind" "[I", .fieldLink RX6 71 "PanoramaHouseModel" "testMany" "[I", .fieldLink RX6 74 "PanoramaHouseModel" "testName" "[I", .fieldLink RX6 77 "PanoramaHouseModel" "testSign" "[I", .fieldLink RX6 80 "PanoramaHouseModel" "testNumber" "[I", .fieldLink RX6 68 "PanoramaHouseModel" "gives" "[I"] ++ wsX60)
def wsX6_week_r1 : List Cond := [Cond.fieldLink RX6 214 "PanoramaHouseModel" "halls" "I", Cond.fieldLink RX6 83 "PanoramaHouseModel" "gone" "[I", Cond.constant RX6 193 (99999), Cond.methodLink RX6 138 Lib.Math.min.name, Cond.static Lib.Math.min.name, Cond.initialized "java/lang/Math", Cond.code Lib.Math.min.name Lib.Math.min.code 2 (some .int), Cond.fieldLink RX6 86 "PanoramaHouseModel" "people" "[I", Cond.fieldLink RX6 89 "PanoramaHouseModel" "house" "[J", Cond.fieldLink RX6 93 "PanoramaHouseModel" "others" "[J", Cond.methodLink RX6 102 yX6_isIn, Cond.static yX6_isIn, Cond.initialized RX6, Cond.code yX6_isIn cX6_isIn 3 (some .boolean), Cond.methodLink RX6 220 yX6_lastOf, Cond.instanceMethod yX6_lastOf, Cond.selects RX6 yX6_lastOf yX6_lastOf, Cond.code yX6_lastOf cX6_lastOf 6 (some .int), Cond.fieldLink RX6 62 "PanoramaHouseModel" "statements" "[I", Cond.fieldLink RX6 65 "PanoramaHouseModel" "kind" "[I", Cond.fieldLink RX6 68 "PanoramaHouseModel" "gives" "[I", Cond.methodLink RX6 224 yX6_partOf, Cond.instanceMethod yX6_partOf, Cond.selects RX6 yX6_partOf yX6_partOf]
def wsX6_week_r2 : List Cond := [Cond.code yX6_partOf cX6_partOf 9 (some .int), Cond.fieldLink RX6 71 "PanoramaHouseModel" "testMany" "[I", Cond.fieldLink RX6 74 "PanoramaHouseModel" "testName" "[I", Cond.fieldLink RX6 77 "PanoramaHouseModel" "testSign" "[I", Cond.fieldLink RX6 80 "PanoramaHouseModel" "testNumber" "[I"]
def wsX6_week : List Cond := .code yX6_week cX6_week 6 (some .int) :: ((wsX6_week_r1 ++ wsX6_week_r2) ++ wsX60)
def wsX6_hallOf : List Cond := .code yX6_hallOf cX6_hallOf 3 (some .int) :: ([.fieldLink RX6 214 "PanoramaHouseModel" "halls" "I", .fieldLink RX6 83 "PanoramaHouseModel" "gone" "[I", .fieldLink RX6 89 "PanoramaHouseModel" "house" "[J", .fieldLink RX6 93 "PanoramaHouseModel" "others" "[J", .fieldLink RX6 86 "PanoramaHouseModel" "people" "[I", .methodLink RX6 102 yX6_isIn, .static yX6_isIn, .initialized RX6, .code yX6_isIn cX6_isIn 3 (some .boolean), .methodLink RX6 220 yX6_lastOf, .instanceMethod yX6_lastOf, .selects RX6 yX6_lastOf yX6_lastOf, .code yX6_lastOf cX6_lastOf 6 (some .int), .fieldLink RX6 62 "PanoramaHouseModel" "statements" "[I", .fieldLink RX6 65 "PanoramaHouseModel" "kind" "[I", .fieldLink RX6 68 "PanoramaHouseModel" "gives" "[I"] ++ wsX60)
def wsX6_room : List Cond := .code yX6_room cX6_room 2 (some .boolean) :: ([.fieldLink RX6 96 "PanoramaHouseModel" "most" "I", .methodLink RX6 102 yX6_isIn, .static yX6_isIn, .initialized RX6, .code yX6_isIn cX6_isIn 3 (some .boolean)] ++ wsX60)
def wsX6_minute : List Cond := .code yX6_minute cX6_minute 3 (some .int) :: ([.fieldLink RX6 228 "PanoramaHouseModel" "waiting" "I", .fieldLink RX6 231 "PanoramaHouseModel" "minutes" "I", .fieldLink RX6 234 "PanoramaHouseModel" "there" "I", .fieldLink RX6 99 "PanoramaHouseModel" "up" "[I", .fieldLink RX6 237 "PanoramaHouseModel" "gones" "I", .fieldLink RX6 96 "PanoramaHouseModel" "most" "I", .methodLink RX6 138 Lib.Math.min.name, .static Lib.Math.min.name, .initialized "java/lang/Math", .code Lib.Math.min.name Lib.Math.min.code 2 (some .int), .methodLink RX6 119 Lib.Math.max.name, .static Lib.Math.max.name, .code Lib.Math.max.name Lib.Math.max.code 2 (some .int), .fieldLink RX6 240 "PanoramaHouseModel" "greatest" "I", .methodLink RX6 102 yX6_isIn, .static yX6_isIn, .initialized RX6, .code yX6_isIn cX6_isIn 3 (some .boolean)] ++ wsX60)
def wsX6_crowd : List Cond := .code yX6_crowd cX6_crowd 2 (some .int) :: ([.fieldLink RX6 234 "PanoramaHouseModel" "there" "I", .fieldLink RX6 228 "PanoramaHouseModel" "waiting" "I", .fieldLink RX6 237 "PanoramaHouseModel" "gones" "I", .fieldLink RX6 231 "PanoramaHouseModel" "minutes" "I", .fieldLink RX6 240 "PanoramaHouseModel" "greatest" "I", .fieldLink RX6 96 "PanoramaHouseModel" "most" "I"] ++ wsX60)
def wsX6_count_r1 : List Cond := [Cond.fieldLink RX6 155 "PanoramaHouseModel" "today" "I", Cond.fieldLink RX6 148 "PanoramaHouseModel" "gangs" "I", Cond.fieldLink RX6 214 "PanoramaHouseModel" "halls" "I", Cond.fieldLink RX6 161 "PanoramaHouseModel" "taped" "I", Cond.fieldLink RX6 28 "PanoramaHouseModel" "coats" "[I", Cond.methodLink RX6 145 yX6_viewAt, Cond.instanceMethod yX6_viewAt, Cond.selects RX6 yX6_viewAt yX6_viewAt, Cond.initialized RX6, Cond.code yX6_viewAt cX6_viewAt 6 (some .int), Cond.methodLink RX6 113 Lib.Math.abs.name, Cond.static Lib.Math.abs.name, Cond.initialized "java/lang/Math", Cond.code Lib.Math.abs.name Lib.Math.abs.code 1 (some .int), Cond.methodLink RX6 138 Lib.Math.min.name, Cond.static Lib.Math.min.name, Cond.code Lib.Math.min.name Lib.Math.min.code 2 (some .int), Cond.methodLink RX6 135 yX6_colourIn, Cond.instanceMethod yX6_colourIn, Cond.selects RX6 yX6_colourIn yX6_colourIn, Cond.code yX6_colourIn cX6_colourIn 6 (some .int), Cond.fieldLink RX6 17 "PanoramaHouseModel" "isLaid" "[Z", Cond.fieldLink RX6 14 "PanoramaHouseModel" "laid" "[B", Cond.fieldLink RX6 7 "PanoramaHouseModel" "marks" "[B"]
def wsX6_count_r2 : List Cond := [Cond.methodLink RX6 129 yX6_column, Cond.static yX6_column, Cond.code yX6_column cX6_column 3 (some .int), Cond.methodLink RX6 126 yJ9_floorMod_7cf53, Cond.static yJ9_floorMod_7cf53, Cond.initialized RJ9, Cond.code yJ9_floorMod_7cf53 cJ9_floorMod_7cf53 3 (some .int), Cond.methodLink RX6 132 yX6_row, Cond.static yX6_row, Cond.code yX6_row cX6_row 2 (some .int)]
def wsX6_count : List Cond := .code yX6_count cX6_count 4 (some .int) :: ((wsX6_count_r1 ++ wsX6_count_r2) ++ wsX60)
def wsJ9_abs_0f7a4 : List Cond := .code yJ9_abs_0f7a4 cJ9_abs_0f7a4 1 (some .int) :: ([])
def wsJ9_max_7cf53 : List Cond := .code yJ9_max_7cf53 cJ9_max_7cf53 2 (some .int) :: ([])
def wsJ9_min_7cf53 : List Cond := .code yJ9_min_7cf53 cJ9_min_7cf53 2 (some .int) :: ([])
def wsL_law_r1 : List Cond := [Cond.classLink RL 7 RX5, Cond.instantiable RX5 8, Cond.initialized RX5, Cond.classLink RL 10 RX6, Cond.instantiable RX6 42, Cond.initialized RX6, Cond.methodLink RL 9 yX5_init, Cond.instanceMethod yX5_init, Cond.code yX5_init cX5_init 1 none, Cond.methodLink RX5 1 objectInit, Cond.instanceMethod objectInit, Cond.code objectInit ⟨#[0xb1]⟩ 1 none, Cond.classLink RX5 7 RX4, Cond.instantiable RX4 2, Cond.initialized RX4, Cond.fieldLink RX5 10 "PanoramaHouse" "round" "LPanoramaHouse$Round;", Cond.classLink RX5 16 RX2, Cond.instantiable RX2 12, Cond.initialized RX2, Cond.fieldLink RX5 21 "PanoramaHouse" "paintwork" "LPanoramaHouse$Paintwork;", Cond.classLink RX5 25 RX0, Cond.instantiable RX0 6, Cond.initialized RX0, Cond.fieldLink RX5 28 "PanoramaHouse" "reader" "LPanoramaHouse$ContractReader;"]
def wsL_law_r2 : List Cond := [Cond.classLink RX5 32 RX1, Cond.fieldLink RX5 34 "PanoramaHouse" "halls" "[LPanoramaHouse$Hall;", Cond.classLink RX5 38 RX3, Cond.instantiable RX3 7, Cond.initialized RX3, Cond.fieldLink RX5 41 "PanoramaHouse" "platform" "LPanoramaHouse$Platform;", Cond.instantiable RX1 12, Cond.initialized RX1, Cond.fieldLink RX5 46 "PanoramaHouse" "draft" "LPanoramaHouse$Hall;", Cond.fieldLink RX5 50 "PanoramaHouse" "hallsMade" "I", Cond.fieldLink RX5 54 "PanoramaHouse" "faultPlace" "I", Cond.instanceMethod yX4_init, Cond.code yX4_init cX4_init 1 none, Cond.methodLink RX4 3 objectInit, Cond.arrayClass .byte, Cond.fieldLink RX4 9 "PanoramaHouse$Round" "marks" "[B", Cond.arrayClass .int, Cond.fieldLink RX4 15 "PanoramaHouse$Round" "colouredOfSquare" "[I", Cond.methodLink RX5 18 yX2_init, Cond.instanceMethod yX2_init, Cond.code yX2_init cX2_init 3 none, Cond.methodLink RX2 3 objectInit, Cond.fieldLink RX2 9 "PanoramaHouse$Paintwork" "skillOf" "[I", Cond.fieldLink RX2 15 "PanoramaHouse$Paintwork" "squareOfGang" "[I"]
def wsL_law_r3 : List Cond := [Cond.fieldLink RX2 18 "PanoramaHouse$Paintwork" "coatsDone" "[I", Cond.fieldLink RX2 21 "PanoramaHouse$Paintwork" "gangOn" "[I", Cond.fieldLink RX2 24 "PanoramaHouse$Paintwork" "workLeft" "[I", Cond.fieldLink RX2 27 "PanoramaHouse$Paintwork" "firstDoneOn" "[I", Cond.fieldLink RX2 30 "PanoramaHouse$Paintwork" "secondDoneOn" "[I", Cond.fieldLink RX2 33 "PanoramaHouse$Paintwork" "lastGang" "[I", Cond.fieldLink RX2 36 "PanoramaHouse$Paintwork" "workGiven" "[I", Cond.fieldLink RX2 39 "PanoramaHouse$Paintwork" "round" "LPanoramaHouse$Round;", Cond.instanceMethod yX0_init, Cond.code yX0_init cX0_init 1 none, Cond.methodLink RX0 3 objectInit, Cond.fieldLink RX0 9 "PanoramaHouse$ContractReader" "tape" "[I", Cond.methodLink RX5 40 yX3_init, Cond.instanceMethod yX3_init, Cond.code yX3_init cX3_init 1 none, Cond.methodLink RX3 3 objectInit, Cond.fieldLink RX3 9 "PanoramaHouse$Platform" "wentUp" "[I", Cond.fieldLink RX3 15 "PanoramaHouse$Platform" "most" "I", Cond.methodLink RX5 45 yX1_init, Cond.instanceMethod yX1_init, Cond.code yX1_init cX1_init 1 none, Cond.methodLink RX1 3 objectInit, Cond.fieldLink RX1 9 "PanoramaHouse$Hall" "shareOfPart" "[I", Cond.fieldLink RX1 15 "PanoramaHouse$Hall" "testsOfPart" "[I"]
def wsL_law_r4 : List Cond := [Cond.fieldLink RX1 18 "PanoramaHouse$Hall" "subjectOfTest" "[I", Cond.fieldLink RX1 21 "PanoramaHouse$Hall" "signOfTest" "[I", Cond.fieldLink RX1 24 "PanoramaHouse$Hall" "numberOfTest" "[I", Cond.fieldLink RX1 27 "PanoramaHouse$Hall" "weeks" "I", Cond.methodLink RL 12 yX6_init, Cond.instanceMethod yX6_init, Cond.code yX6_init cX6_init 2 none, Cond.methodLink RX6 1 objectInit, Cond.fieldLink RX6 7 "PanoramaHouseModel" "marks" "[B", Cond.constant RX6 13 (86400), Cond.fieldLink RX6 14 "PanoramaHouseModel" "laid" "[B", Cond.arrayClass .boolean, Cond.fieldLink RX6 17 "PanoramaHouseModel" "isLaid" "[Z", Cond.fieldLink RX6 21 "PanoramaHouseModel" "skill" "[I", Cond.fieldLink RX6 25 "PanoramaHouseModel" "busy" "[I", Cond.fieldLink RX6 28 "PanoramaHouseModel" "coats" "[I", Cond.fieldLink RX6 31 "PanoramaHouseModel" "gangOn" "[I", Cond.fieldLink RX6 34 "PanoramaHouseModel" "left" "[I", Cond.fieldLink RX6 37 "PanoramaHouseModel" "firstDone" "[I", Cond.fieldLink RX6 40 "PanoramaHouseModel" "secondDone" "[I", Cond.fieldLink RX6 43 "PanoramaHouseModel" "lastGang" "[I", Cond.fieldLink RX6 46 "PanoramaHouseModel" "works" "[I", Cond.fieldLink RX6 49 "PanoramaHouseModel" "load" "[I", Cond.fieldLink RX6 52 "PanoramaHouseModel" "tape" "[B"]
def wsL_law_r5 : List Cond := [Cond.fieldLink RX6 55 "PanoramaHouseModel" "text" "[B", Cond.fieldLink RX6 58 "PanoramaHouseModel" "fault" "I", Cond.fieldLink RX6 62 "PanoramaHouseModel" "statements" "[I", Cond.fieldLink RX6 65 "PanoramaHouseModel" "kind" "[I", Cond.fieldLink RX6 68 "PanoramaHouseModel" "gives" "[I", Cond.fieldLink RX6 71 "PanoramaHouseModel" "testMany" "[I", Cond.fieldLink RX6 74 "PanoramaHouseModel" "testName" "[I", Cond.fieldLink RX6 77 "PanoramaHouseModel" "testSign" "[I", Cond.fieldLink RX6 80 "PanoramaHouseModel" "testNumber" "[I", Cond.fieldLink RX6 83 "PanoramaHouseModel" "gone" "[I", Cond.fieldLink RX6 86 "PanoramaHouseModel" "people" "[I", Cond.arrayClass .long, Cond.fieldLink RX6 89 "PanoramaHouseModel" "house" "[J", Cond.fieldLink RX6 93 "PanoramaHouseModel" "others" "[J", Cond.fieldLink RX6 96 "PanoramaHouseModel" "most" "I", Cond.fieldLink RX6 99 "PanoramaHouseModel" "up" "[I", Cond.methodLink RL 13 yX5_mark, Cond.instanceMethod yX5_mark, Cond.selects RX5 yX5_mark yX5_mark, Cond.code yX5_mark cX5_mark 5 (some .boolean), Cond.methodLink RX5 57 yX4_setMark, Cond.instanceMethod yX4_setMark, Cond.selects RX4 yX4_setMark yX4_setMark, Cond.code yX4_setMark cX4_setMark 10 (some .boolean)]
def wsL_law_r6 : List Cond := [Cond.methodLink RX4 32 yX4_isMark, Cond.static yX4_isMark, Cond.code yX4_isMark cX4_isMark 3 (some .boolean), Cond.methodLink RX4 36 yX4_isColour, Cond.static yX4_isColour, Cond.code yX4_isColour cX4_isColour 1 (some .boolean), Cond.methodLink RX4 40 yX4_columnOf, Cond.static yX4_columnOf, Cond.code yX4_columnOf cX4_columnOf 2 (some .int), Cond.methodLink RX4 19 yX4_offsetOf, Cond.static yX4_offsetOf, Cond.code yX4_offsetOf cX4_offsetOf 2 (some .int), Cond.methodLink RX4 23 yJ9_floorMod_7cf53, Cond.static yJ9_floorMod_7cf53, Cond.initialized RJ9, Cond.code yJ9_floorMod_7cf53 cJ9_floorMod_7cf53 3 (some .int), Cond.methodLink RX4 43 yX4_rowOf, Cond.static yX4_rowOf, Cond.code yX4_rowOf cX4_rowOf 2 (some .int), Cond.methodLink RX4 29 yX4_stretchOf, Cond.static yX4_stretchOf, Cond.code yX4_stretchOf cX4_stretchOf 2 (some .int), Cond.methodLink RX4 46 yX4_viewAt, Cond.instanceMethod yX4_viewAt]
def wsL_law_r7 : List Cond := [Cond.selects RX4 yX4_viewAt yX4_viewAt, Cond.code yX4_viewAt cX4_viewAt 10 (some .int), Cond.methodLink RX4 75 yX4_colourShown, Cond.instanceMethod yX4_colourShown, Cond.selects RX4 yX4_colourShown yX4_colourShown, Cond.code yX4_colourShown cX4_colourShown 9 (some .int), Cond.methodLink RX4 78 yX4_colourInStrip, Cond.instanceMethod yX4_colourInStrip, Cond.selects RX4 yX4_colourInStrip yX4_colourInStrip, Cond.code yX4_colourInStrip cX4_colourInStrip 7 (some .int), Cond.methodLink RX4 81 Lib.Math.min.name, Cond.static Lib.Math.min.name, Cond.initialized "java/lang/Math", Cond.code Lib.Math.min.name Lib.Math.min.code 2 (some .int), Cond.methodLink RX4 49 yX4_placeInMarks, Cond.static yX4_placeInMarks, Cond.code yX4_placeInMarks cX4_placeInMarks 3 (some .int), Cond.methodLink RX4 53 yX4_squareOf, Cond.static yX4_squareOf, Cond.code yX4_squareOf cX4_squareOf 2 (some .int), Cond.static yX5_isSquare, Cond.code yX5_isSquare cX5_isSquare 1 (some .boolean), Cond.methodLink RL 17 yX6_mark, Cond.instanceMethod yX6_mark]
def wsL_law_r8 : List Cond := [Cond.selects RX6 yX6_mark yX6_mark, Cond.code yX6_mark cX6_mark 5 (some .boolean), Cond.methodLink RX6 106 yX6_isMark, Cond.static yX6_isMark, Cond.code yX6_isMark cX6_isMark 3 (some .boolean), Cond.methodLink RX6 102 yX6_isIn, Cond.static yX6_isIn, Cond.code yX6_isIn cX6_isIn 3 (some .boolean), Cond.methodLink RX6 109 yX6_puts, Cond.instanceMethod yX6_puts, Cond.selects RX6 yX6_puts yX6_puts, Cond.code yX6_puts cX6_puts 5 none, Cond.methodLink RL 18 yX5_line, Cond.instanceMethod yX5_line, Cond.selects RX5 yX5_line yX5_line, Cond.code yX5_line cX5_line 7 (some .int), Cond.methodLink RX5 61 yX4_drawLine, Cond.instanceMethod yX4_drawLine, Cond.selects RX4 yX4_drawLine yX4_drawLine, Cond.code yX4_drawLine cX4_drawLine 9 (some .int), Cond.methodLink RX4 59 Lib.Math.abs.name, Cond.static Lib.Math.abs.name, Cond.code Lib.Math.abs.name Lib.Math.abs.code 1 (some .int), Cond.methodLink RX4 62 Lib.Math.max.name]
def wsL_law_r9 : List Cond := [Cond.static Lib.Math.max.name, Cond.code Lib.Math.max.name Lib.Math.max.code 2 (some .int), Cond.methodLink RX4 65 yX4_partOfWay, Cond.static yX4_partOfWay, Cond.code yX4_partOfWay cX4_partOfWay 3 (some .int), Cond.methodLink RX4 72 yJ9_floorDiv_7cf53, Cond.static yJ9_floorDiv_7cf53, Cond.code yJ9_floorDiv_7cf53 cJ9_floorDiv_7cf53 3 (some .int), Cond.methodLink RX4 68 yX4_setMark, Cond.methodLink RL 22 yX6_line, Cond.instanceMethod yX6_line, Cond.selects RX6 yX6_line yX6_line, Cond.code yX6_line cX6_line 9 (some .int), Cond.methodLink RX6 113 Lib.Math.abs.name, Cond.methodLink RX6 119 Lib.Math.max.name, Cond.methodLink RX6 123 yJ9_floorDiv_7cf53, Cond.methodLink RL 23 yX5_stands, Cond.instanceMethod yX5_stands, Cond.selects RX5 yX5_stands yX5_stands, Cond.code yX5_stands cX5_stands 5 (some .int), Cond.methodLink RX5 65 yX4_isMark, Cond.methodLink RX5 69 yX4_columnOf, Cond.methodLink RX5 73 yX4_rowOf, Cond.methodLink RL 27 yX6_stands]
def wsL_law_r10 : List Cond := [Cond.instanceMethod yX6_stands, Cond.selects RX6 yX6_stands yX6_stands, Cond.code yX6_stands cX6_stands 5 (some .int), Cond.methodLink RX6 129 yX6_column, Cond.static yX6_column, Cond.code yX6_column cX6_column 3 (some .int), Cond.methodLink RX6 126 yJ9_floorMod_7cf53, Cond.methodLink RX6 132 yX6_row, Cond.static yX6_row, Cond.code yX6_row cX6_row 2 (some .int), Cond.methodLink RL 28 yX5_colour, Cond.instanceMethod yX5_colour, Cond.selects RX5 yX5_colour yX5_colour, Cond.code yX5_colour cX5_colour 3 (some .int), Cond.methodLink RX5 76 yX4_isPlace, Cond.static yX4_isPlace, Cond.code yX4_isPlace cX4_isPlace 2 (some .boolean), Cond.methodLink RX5 80 yX4_colourAt, Cond.instanceMethod yX4_colourAt, Cond.selects RX4 yX4_colourAt yX4_colourAt, Cond.code yX4_colourAt cX4_colourAt 4 (some .int), Cond.methodLink RL 32 yX6_colour, Cond.instanceMethod yX6_colour, Cond.selects RX6 yX6_colour yX6_colour]
def wsL_law_r11 : List Cond := [Cond.code yX6_colour cX6_colour 4 (some .int), Cond.methodLink RX6 141 yX6_isPlace, Cond.static yX6_isPlace, Cond.code yX6_isPlace cX6_isPlace 2 (some .boolean), Cond.methodLink RX6 145 yX6_viewAt, Cond.instanceMethod yX6_viewAt, Cond.selects RX6 yX6_viewAt yX6_viewAt, Cond.code yX6_viewAt cX6_viewAt 6 (some .int), Cond.methodLink RX6 138 Lib.Math.min.name, Cond.methodLink RX6 135 yX6_colourIn, Cond.instanceMethod yX6_colourIn, Cond.selects RX6 yX6_colourIn yX6_colourIn, Cond.code yX6_colourIn cX6_colourIn 6 (some .int), Cond.methodLink RL 33 yX5_from, Cond.instanceMethod yX5_from, Cond.selects RX5 yX5_from yX5_from, Cond.code yX5_from cX5_from 3 (some .int), Cond.methodLink RX5 83 yX4_viewAt, Cond.methodLink RL 36 yX6_from, Cond.instanceMethod yX6_from, Cond.selects RX6 yX6_from yX6_from, Cond.code yX6_from cX6_from 3 (some .int), Cond.methodLink RL 37 yX5_seam, Cond.instanceMethod yX5_seam]
def wsL_law_r12 : List Cond := [Cond.selects RX5 yX5_seam yX5_seam, Cond.code yX5_seam cX5_seam 2 (some .int), Cond.methodLink RX5 86 yX4_quarrelsBehind, Cond.instanceMethod yX4_quarrelsBehind, Cond.selects RX4 yX4_quarrelsBehind yX4_quarrelsBehind, Cond.code yX4_quarrelsBehind cX4_quarrelsBehind 9 (some .int), Cond.methodLink RL 41 yX6_seam, Cond.instanceMethod yX6_seam, Cond.selects RX6 yX6_seam yX6_seam, Cond.code yX6_seam cX6_seam 6 (some .int), Cond.methodLink RL 42 yX5_gang, Cond.instanceMethod yX5_gang, Cond.selects RX5 yX5_gang yX5_gang, Cond.code yX5_gang cX5_gang 2 (some .int), Cond.methodLink RX5 90 yX2_hire, Cond.instanceMethod yX2_hire, Cond.selects RX2 yX2_hire yX2_hire, Cond.code yX2_hire cX2_hire 2 (some .int), Cond.fieldLink RX2 47 "PanoramaHouse$Paintwork" "gangsHired" "I", Cond.methodLink RL 45 yX6_gang, Cond.instanceMethod yX6_gang, Cond.selects RX6 yX6_gang yX6_gang, Cond.code yX6_gang cX6_gang 2 (some .int), Cond.fieldLink RX6 148 "PanoramaHouseModel" "gangs" "I"]
def wsL_law_r13 : List Cond := [Cond.methodLink RL 46 yX5_put, Cond.instanceMethod yX5_put, Cond.selects RX5 yX5_put yX5_put, Cond.code yX5_put cX5_put 3 (some .int), Cond.methodLink RX5 93 yX2_beginCoat, Cond.instanceMethod yX2_beginCoat, Cond.selects RX2 yX2_beginCoat yX2_beginCoat, Cond.code yX2_beginCoat cX2_beginCoat 5 (some .int), Cond.fieldLink RX2 43 "PanoramaHouse$Paintwork" "daysGone" "I", Cond.methodLink RX2 66 Lib.Math.max.name, Cond.methodLink RX2 56 yX2_isGang, Cond.instanceMethod yX2_isGang, Cond.selects RX2 yX2_isGang yX2_isGang, Cond.code yX2_isGang cX2_isGang 2 (some .boolean), Cond.methodLink RX2 63 yX2_firstCoatWork, Cond.instanceMethod yX2_firstCoatWork, Cond.selects RX2 yX2_firstCoatWork yX2_firstCoatWork, Cond.code yX2_firstCoatWork cX2_firstCoatWork 2 (some .int), Cond.methodLink RX2 50 yX4_colouredIn, Cond.instanceMethod yX4_colouredIn, Cond.selects RX4 yX4_colouredIn yX4_colouredIn, Cond.code yX4_colouredIn cX4_colouredIn 2 (some .int), Cond.methodLink RL 49 yX6_put, Cond.instanceMethod yX6_put]
def wsL_law_r14 : List Cond := [Cond.selects RX6 yX6_put yX6_put, Cond.code yX6_put cX6_put 5 (some .int), Cond.fieldLink RX6 155 "PanoramaHouseModel" "today" "I", Cond.methodLink RX6 151 yX6_isSquare, Cond.static yX6_isSquare, Cond.code yX6_isSquare cX6_isSquare 1 (some .boolean), Cond.methodLink RX6 158 yX6_work, Cond.instanceMethod yX6_work, Cond.selects RX6 yX6_work yX6_work, Cond.code yX6_work cX6_work 6 (some .int), Cond.methodLink RL 50 yX5_day, Cond.instanceMethod yX5_day, Cond.selects RX5 yX5_day yX5_day, Cond.code yX5_day cX5_day 1 (some .int), Cond.methodLink RX5 96 yX2_passDay, Cond.instanceMethod yX2_passDay, Cond.selects RX2 yX2_passDay yX2_passDay, Cond.code yX2_passDay cX2_passDay 2 (some .int), Cond.methodLink RX2 72 yX2_workADay, Cond.instanceMethod yX2_workADay, Cond.selects RX2 yX2_workADay yX2_workADay, Cond.code yX2_workADay cX2_workADay 3 none, Cond.methodLink RX2 76 yX2_endCoat, Cond.instanceMethod yX2_endCoat]
def wsL_law_r15 : List Cond := [Cond.selects RX2 yX2_endCoat yX2_endCoat, Cond.code yX2_endCoat cX2_endCoat 3 none, Cond.methodLink RL 54 yX6_day, Cond.instanceMethod yX6_day, Cond.selects RX6 yX6_day yX6_day, Cond.code yX6_day cX6_day 3 (some .int), Cond.methodLink RL 55 yX5_square, Cond.instanceMethod yX5_square, Cond.selects RX5 yX5_square yX5_square, Cond.code yX5_square cX5_square 3 (some .int), Cond.methodLink RX5 100 yX2_tellSquare, Cond.instanceMethod yX2_tellSquare, Cond.selects RX2 yX2_tellSquare yX2_tellSquare, Cond.code yX2_tellSquare cX2_tellSquare 3 (some .int), Cond.methodLink RL 58 yX6_square, Cond.instanceMethod yX6_square, Cond.selects RX6 yX6_square yX6_square, Cond.code yX6_square cX6_square 3 (some .int), Cond.methodLink RL 59 yX5_least, Cond.instanceMethod yX5_least, Cond.selects RX5 yX5_least yX5_least, Cond.code yX5_least cX5_least 4 (some .int), Cond.methodLink RX5 103 yX2_leastDays, Cond.instanceMethod yX2_leastDays]
def wsL_law_r16 : List Cond := [Cond.selects RX2 yX2_leastDays yX2_leastDays, Cond.code yX2_leastDays cX2_leastDays 5 (some .int), Cond.constant RX2 81 (2147483647), Cond.methodLink RX2 82 yX2_leastBelow, Cond.instanceMethod yX2_leastBelow, Cond.selects RX2 yX2_leastBelow yX2_leastBelow, Cond.code yX2_leastBelow cX2_leastBelow 8 (some .int), Cond.methodLink RX2 89 Lib.Math.min.name, Cond.methodLink RX2 86 yX2_mostDays, Cond.instanceMethod yX2_mostDays, Cond.selects RX2 yX2_mostDays yX2_mostDays, Cond.code yX2_mostDays cX2_mostDays 4 (some .int), Cond.methodLink RX2 92 yX2_daysOf, Cond.instanceMethod yX2_daysOf, Cond.selects RX2 yX2_daysOf yX2_daysOf, Cond.code yX2_daysOf cX2_daysOf 2 (some .int), Cond.methodLink RL 63 yX6_least, Cond.instanceMethod yX6_least, Cond.selects RX6 yX6_least yX6_least, Cond.code yX6_least cX6_least 10 (some .int), Cond.methodLink RL 64 yX5_feed, Cond.instanceMethod yX5_feed, Cond.selects RX5 yX5_feed yX5_feed, Cond.code yX5_feed cX5_feed 6 (some .int)]
def wsL_law_r17 : List Cond := [Cond.methodLink RX5 107 yX0_takeBytes, Cond.instanceMethod yX0_takeBytes, Cond.selects RX0 yX0_takeBytes yX0_takeBytes, Cond.code yX0_takeBytes cX0_takeBytes 6 (some .int), Cond.fieldLink RX0 15 "PanoramaHouse$ContractReader" "bytesOnTape" "I", Cond.methodLink RX0 19 yX0_takeFour, Cond.instanceMethod yX0_takeFour, Cond.selects RX0 yX0_takeFour yX0_takeFour, Cond.code yX0_takeFour cX0_takeFour 3 none, Cond.methodLink RL 68 yX6_feed, Cond.instanceMethod yX6_feed, Cond.selects RX6 yX6_feed yX6_feed, Cond.code yX6_feed cX6_feed 6 (some .int), Cond.fieldLink RX6 161 "PanoramaHouseModel" "taped" "I", Cond.methodLink RX6 164 yX6_four, Cond.instanceMethod yX6_four, Cond.selects RX6 yX6_four yX6_four, Cond.code yX6_four cX6_four 3 none, Cond.methodLink RL 69 yX5_hall, Cond.instanceMethod yX5_hall, Cond.selects RX5 yX5_hall yX5_hall, Cond.code yX5_hall cX5_hall 2 (some .int), Cond.methodLink RX5 111 yX0_bytes, Cond.instanceMethod yX0_bytes]
def wsL_law_r18 : List Cond := [Cond.selects RX0 yX0_bytes yX0_bytes, Cond.code yX0_bytes cX0_bytes 1 (some .int), Cond.methodLink RX5 114 yX0_readContract, Cond.instanceMethod yX0_readContract, Cond.selects RX0 yX0_readContract yX0_readContract, Cond.code yX0_readContract cX0_readContract 4 (some .int), Cond.methodLink RX0 28 Lib.Math.min.name, Cond.fieldLink RX0 34 "PanoramaHouse$ContractReader" "length" "I", Cond.fieldLink RX0 37 "PanoramaHouse$ContractReader" "end" "I", Cond.fieldLink RX0 43 "PanoramaHouse$ContractReader" "kind" "I", Cond.fieldLink RX0 50 "PanoramaHouse$ContractReader" "start" "I", Cond.methodLink RX0 23 yX1_clearContract, Cond.instanceMethod yX1_clearContract, Cond.selects RX1 yX1_clearContract yX1_clearContract, Cond.code yX1_clearContract cX1_clearContract 1 none, Cond.fieldLink RX1 31 "PanoramaHouse$Hall" "parts" "I", Cond.fieldLink RX1 34 "PanoramaHouse$Hall" "rent" "I", Cond.methodLink RX0 40 yX0_advance, Cond.instanceMethod yX0_advance, Cond.selects RX0 yX0_advance yX0_advance, Cond.code yX0_advance cX0_advance 2 none, Cond.methodLink RX0 104 yX0_byteAt, Cond.instanceMethod yX0_byteAt, Cond.selects RX0 yX0_byteAt yX0_byteAt]
def wsL_law_r19 : List Cond := [Cond.code yX0_byteAt cX0_byteAt 2 (some .int), Cond.methodLink RX0 115 yX0_kindOf, Cond.static yX0_kindOf, Cond.code yX0_kindOf cX0_kindOf 1 (some .int), Cond.methodLink RX0 46 yX0_readStatement, Cond.instanceMethod yX0_readStatement, Cond.selects RX0 yX0_readStatement yX0_readStatement, Cond.code yX0_readStatement cX0_readStatement 5 (some .boolean), Cond.constant RX0 63 (99999), Cond.methodLink RX0 55 yX0_isWord, Cond.instanceMethod yX0_isWord, Cond.selects RX0 yX0_isWord yX0_isWord, Cond.code yX0_isWord cX0_isWord 3 (some .boolean), Cond.methodLink RX0 107 yJ0_length_8abf5, Cond.instanceMethod yJ0_length_8abf5, Cond.selects RJ0 yJ0_length_8abf5 yJ0_length_8abf5, Cond.initialized RJ0, Cond.code yJ0_length_8abf5 cJ0_length_8abf5 1 (some .int), Cond.fieldLink RJ0 9 "java/lang/String" "value" "[B", Cond.methodLink RJ0 335 yJ0_coder_7d493, Cond.instanceMethod yJ0_coder_7d493, Cond.selects RJ0 yJ0_coder_7d493 yJ0_coder_7d493, Cond.code yJ0_coder_7d493 cJ0_coder_7d493 1 (some .byte), Cond.fieldLink RJ0 38 "java/lang/String" "COMPACT_STRINGS" "Z"]
def wsL_law_r20 : List Cond := [Cond.fieldLink RJ0 15 "java/lang/String" "coder" "B", Cond.methodLink RX0 111 yJ0_charAt_5068e, Cond.instanceMethod yJ0_charAt_5068e, Cond.selects RJ0 yJ0_charAt_5068e yJ0_charAt_5068e, Cond.code yJ0_charAt_5068e cJ0_charAt_5068e 2 (some .char), Cond.methodLink RJ0 492 yJ0_isLatin1_aae02, Cond.instanceMethod yJ0_isLatin1_aae02, Cond.selects RJ0 yJ0_isLatin1_aae02 yJ0_isLatin1_aae02, Cond.code yJ0_isLatin1_aae02 cJ0_isLatin1_aae02 1 (some .boolean), Cond.methodLink RJ0 495 yJ1_charAt_3b067, Cond.static yJ1_charAt_3b067, Cond.initialized RJ1, Cond.code yJ1_charAt_3b067 cJ1_charAt_3b067 2 (some .char), Cond.methodLink RJ1 9 yJ0_checkIndex_df160, Cond.static yJ0_checkIndex_df160, Cond.code yJ0_checkIndex_df160 cJ0_checkIndex_df160 2 none, Cond.fieldLink RJ0 1053 "jdk/internal/util/Preconditions" "SIOOBE_FORMATTER" "Ljava/util/function/BiFunction;", Cond.methodLink RJ0 1059 yJ3_checkIndex_8e157, Cond.static yJ3_checkIndex_8e157, Cond.initialized RJ3, Cond.code yJ3_checkIndex_8e157 cJ3_checkIndex_8e157 3 (some .int), Cond.methodLink RJ0 498 yJ2_charAt_3b067, Cond.static yJ2_charAt_3b067, Cond.initialized RJ2]
def wsL_law_r21 : List Cond := [Cond.code yJ2_charAt_3b067 cJ2_charAt_3b067 2 (some .char), Cond.methodLink RJ2 67 yJ2_checkIndex_2214a, Cond.static yJ2_checkIndex_2214a, Cond.code yJ2_checkIndex_2214a cJ2_checkIndex_2214a 2 none, Cond.methodLink RJ2 48 yJ2_length_9d52b, Cond.static yJ2_length_9d52b, Cond.code yJ2_length_9d52b cJ2_length_9d52b 1 (some .int), Cond.methodLink RJ2 414 yJ0_checkIndex_df160, Cond.methodLink RJ2 71 yJ2_getChar_3b067, Cond.static yJ2_getChar_3b067, Cond.code yJ2_getChar_3b067 cJ2_getChar_3b067 2 (some .char), Cond.fieldLink RJ2 44 "java/lang/StringUTF16" "$assertionsDisabled" "Z", Cond.fieldLink RJ2 59 "java/lang/StringUTF16" "HI_BYTE_SHIFT" "I", Cond.fieldLink RJ2 63 "java/lang/StringUTF16" "LO_BYTE_SHIFT" "I", Cond.methodLink RX0 64 yX0_numberHere, Cond.instanceMethod yX0_numberHere, Cond.selects RX0 yX0_numberHere yX0_numberHere, Cond.code yX0_numberHere cX0_numberHere 4 (some .int), Cond.methodLink RX0 68 yX1_setWeeks, Cond.instanceMethod yX1_setWeeks, Cond.selects RX1 yX1_setWeeks yX1_setWeeks, Cond.code yX1_setWeeks cX1_setWeeks 2 none, Cond.methodLink RX0 71 yX1_setRent, Cond.instanceMethod yX1_setRent]
def wsL_law_r22 : List Cond := [Cond.selects RX1 yX1_setRent yX1_setRent, Cond.code yX1_setRent cX1_setRent 2 none, Cond.methodLink RX0 74 yX1_addPart, Cond.instanceMethod yX1_addPart, Cond.selects RX1 yX1_addPart yX1_addPart, Cond.code yX1_addPart cX1_addPart 2 none, Cond.methodLink RX0 77 yX0_readTests, Cond.instanceMethod yX0_readTests, Cond.selects RX0 yX0_readTests yX0_readTests, Cond.code yX0_readTests cX0_readTests 4 (some .boolean), Cond.methodLink RX0 86 yX0_readTest, Cond.instanceMethod yX0_readTest, Cond.selects RX0 yX0_readTest yX0_readTest, Cond.code yX0_readTest cX0_readTest 5 (some .boolean), Cond.methodLink RX0 91 yX0_subjectHere, Cond.instanceMethod yX0_subjectHere, Cond.selects RX0 yX0_subjectHere yX0_subjectHere, Cond.code yX0_subjectHere cX0_subjectHere 1 (some .int), Cond.methodLink RX0 80 yX0_signHere, Cond.instanceMethod yX0_signHere, Cond.selects RX0 yX0_signHere yX0_signHere, Cond.code yX0_signHere cX0_signHere 1 (some .int), Cond.methodLink RX0 94 yX1_addTest, Cond.instanceMethod yX1_addTest]
def wsL_law_r23 : List Cond := [Cond.selects RX1 yX1_addTest yX1_addTest, Cond.code yX1_addTest cX1_addTest 6 none, Cond.methodLink RL 72 yX6_hall, Cond.instanceMethod yX6_hall, Cond.selects RX6 yX6_hall yX6_hall, Cond.code yX6_hall cX6_hall 3 (some .int), Cond.fieldLink RX6 214 "PanoramaHouseModel" "halls" "I", Cond.fieldLink RX6 171 "PanoramaHouseModel" "size" "I", Cond.fieldLink RX6 168 "PanoramaHouseModel" "at" "I", Cond.methodLink RX6 174 yX6_blanks, Cond.instanceMethod yX6_blanks, Cond.selects RX6 yX6_blanks yX6_blanks, Cond.code yX6_blanks cX6_blanks 1 none, Cond.methodLink RX6 217 yX6_statement, Cond.instanceMethod yX6_statement, Cond.selects RX6 yX6_statement yX6_statement, Cond.code yX6_statement cX6_statement 3 (some .boolean), Cond.constantLong RX6 197 (512802253683), Cond.constantLong RX6 203 (1919250036), Cond.constantLong RX6 205 (1885434484), Cond.constant RX6 193 (99999), Cond.fieldLink RX6 184 "PanoramaHouseModel" "number" "I", Cond.constantLong RX6 207 (26982), Cond.constantLong RX6 212 (6385252)]
def wsL_law_r24 : List Cond := [Cond.methodLink RX6 199 yX6_takes, Cond.instanceMethod yX6_takes, Cond.selects RX6 yX6_takes yX6_takes, Cond.code yX6_takes cX6_takes 3 (some .boolean), Cond.fieldLink RX6 177 "PanoramaHouseModel" "wordEnd" "I", Cond.methodLink RX6 180 yX6_word, Cond.instanceMethod yX6_word, Cond.selects RX6 yX6_word yX6_word, Cond.code yX6_word cX6_word 3 (some .long), Cond.methodLink RX6 194 yX6_takesNumber, Cond.instanceMethod yX6_takesNumber, Cond.selects RX6 yX6_takesNumber yX6_takesNumber, Cond.code yX6_takesNumber cX6_takesNumber 3 (some .boolean), Cond.methodLink RX6 209 yX6_test, Cond.instanceMethod yX6_test, Cond.selects RX6 yX6_test yX6_test, Cond.code yX6_test cX6_test 4 (some .boolean), Cond.constantLong RX6 187 (2003133803), Cond.constantLong RX6 189 (123580963646565), Cond.constantLong RX6 191 (427070942835), Cond.methodLink RL 73 yX5_fault, Cond.instanceMethod yX5_fault, Cond.selects RX5 yX5_fault yX5_fault, Cond.code yX5_fault cX5_fault 1 (some .int)]
def wsL_law_r25 : List Cond := [Cond.methodLink RL 76 yX6_fault, Cond.instanceMethod yX6_fault, Cond.selects RX6 yX6_fault yX6_fault, Cond.code yX6_fault cX6_fault 1 (some .int), Cond.methodLink RL 77 yX5_week, Cond.instanceMethod yX5_week, Cond.selects RX5 yX5_week yX5_week, Cond.code yX5_week cX5_week 5 (some .int), Cond.methodLink RX5 118 yX5_hallNumbered, Cond.instanceMethod yX5_hallNumbered, Cond.selects RX5 yX5_hallNumbered yX5_hallNumbered, Cond.code yX5_hallNumbered cX5_hallNumbered 2 (some (.object "PanoramaHouse$Hall")), Cond.methodLink RX5 122 yX5_isTold, Cond.static yX5_isTold, Cond.code yX5_isTold cX5_isTold 1 (some .boolean), Cond.constant RX5 151 (99999), Cond.methodLink RX5 126 yX1_passWeek, Cond.instanceMethod yX1_passWeek, Cond.selects RX1 yX1_passWeek yX1_passWeek, Cond.code yX1_passWeek cX1_passWeek 5 (some .int), Cond.fieldLink RX1 37 "PanoramaHouse$Hall" "weeksGone" "I", Cond.methodLink RX1 40 Lib.Math.min.name, Cond.fieldLink RX1 49 "PanoramaHouse$Hall" "toHouse" "I", Cond.fieldLink RX1 52 "PanoramaHouse$Hall" "toHall" "I"]
def wsL_law_r26 : List Cond := [Cond.fieldLink RX1 55 "PanoramaHouse$Hall" "visitors" "I", Cond.methodLink RX1 46 yX1_shareFor, Cond.instanceMethod yX1_shareFor, Cond.selects RX1 yX1_shareFor yX1_shareFor, Cond.code yX1_shareFor cX1_shareFor 4 (some .int), Cond.methodLink RX1 58 yX1_allHold, Cond.instanceMethod yX1_allHold, Cond.selects RX1 yX1_allHold yX1_allHold, Cond.code yX1_allHold cX1_allHold 5 (some .boolean), Cond.methodLink RX1 62 yX1_holds, Cond.instanceMethod yX1_holds, Cond.selects RX1 yX1_holds yX1_holds, Cond.code yX1_holds cX1_holds 5 (some .boolean), Cond.methodLink RX1 65 yX1_valueOf, Cond.instanceMethod yX1_valueOf, Cond.selects RX1 yX1_valueOf yX1_valueOf, Cond.code yX1_valueOf cX1_valueOf 4 (some .int), Cond.methodLink RL 80 yX6_week, Cond.instanceMethod yX6_week, Cond.selects RX6 yX6_week yX6_week, Cond.code yX6_week cX6_week 6 (some .int), Cond.methodLink RX6 220 yX6_lastOf, Cond.instanceMethod yX6_lastOf, Cond.selects RX6 yX6_lastOf yX6_lastOf]
def wsL_law_r27 : List Cond := [Cond.code yX6_lastOf cX6_lastOf 6 (some .int), Cond.methodLink RX6 224 yX6_partOf, Cond.instanceMethod yX6_partOf, Cond.selects RX6 yX6_partOf yX6_partOf, Cond.code yX6_partOf cX6_partOf 9 (some .int), Cond.methodLink RL 81 yX5_hallOf, Cond.instanceMethod yX5_hallOf, Cond.selects RX5 yX5_hallOf yX5_hallOf, Cond.code yX5_hallOf cX5_hallOf 4 (some .int), Cond.methodLink RX5 129 yX1_tell, Cond.instanceMethod yX1_tell, Cond.selects RX1 yX1_tell yX1_tell, Cond.code yX1_tell cX1_tell 2 (some .int), Cond.methodLink RL 84 yX6_hallOf, Cond.instanceMethod yX6_hallOf, Cond.selects RX6 yX6_hallOf yX6_hallOf, Cond.code yX6_hallOf cX6_hallOf 3 (some .int), Cond.methodLink RL 85 yX5_room, Cond.instanceMethod yX5_room, Cond.selects RX5 yX5_room yX5_room, Cond.code yX5_room cX5_room 2 (some .boolean), Cond.methodLink RX5 132 yX3_setRoom, Cond.instanceMethod yX3_setRoom, Cond.selects RX3 yX3_setRoom yX3_setRoom]
def wsL_law_r28 : List Cond := [Cond.code yX3_setRoom cX3_setRoom 2 (some .boolean), Cond.methodLink RL 89 yX6_room, Cond.instanceMethod yX6_room, Cond.selects RX6 yX6_room yX6_room, Cond.code yX6_room cX6_room 2 (some .boolean), Cond.methodLink RL 90 yX5_minute, Cond.instanceMethod yX5_minute, Cond.selects RX5 yX5_minute yX5_minute, Cond.code yX5_minute cX5_minute 2 (some .int), Cond.methodLink RX5 135 yX3_passMinute, Cond.instanceMethod yX3_passMinute, Cond.selects RX3 yX3_passMinute yX3_passMinute, Cond.code yX3_passMinute cX3_passMinute 5 (some .int), Cond.fieldLink RX3 19 "PanoramaHouse$Platform" "waiting" "I", Cond.fieldLink RX3 22 "PanoramaHouse$Platform" "minutes" "I", Cond.fieldLink RX3 31 "PanoramaHouse$Platform" "there" "I", Cond.fieldLink RX3 34 "PanoramaHouse$Platform" "left" "I", Cond.methodLink RX3 37 Lib.Math.max.name, Cond.methodLink RX3 40 Lib.Math.min.name, Cond.fieldLink RX3 43 "PanoramaHouse$Platform" "mostEver" "I", Cond.methodLink RX3 25 yJ9_floorMod_7cf53, Cond.methodLink RL 93 yX6_minute, Cond.instanceMethod yX6_minute, Cond.selects RX6 yX6_minute yX6_minute]
def wsL_law_r29 : List Cond := [Cond.code yX6_minute cX6_minute 3 (some .int), Cond.fieldLink RX6 228 "PanoramaHouseModel" "waiting" "I", Cond.fieldLink RX6 231 "PanoramaHouseModel" "minutes" "I", Cond.fieldLink RX6 234 "PanoramaHouseModel" "there" "I", Cond.fieldLink RX6 237 "PanoramaHouseModel" "gones" "I", Cond.fieldLink RX6 240 "PanoramaHouseModel" "greatest" "I", Cond.methodLink RL 94 yX5_crowd, Cond.instanceMethod yX5_crowd, Cond.selects RX5 yX5_crowd yX5_crowd, Cond.code yX5_crowd cX5_crowd 2 (some .int), Cond.methodLink RX5 138 yX3_tell, Cond.instanceMethod yX3_tell, Cond.selects RX3 yX3_tell yX3_tell, Cond.code yX3_tell cX3_tell 2 (some .int), Cond.methodLink RL 97 yX6_crowd, Cond.instanceMethod yX6_crowd, Cond.selects RX6 yX6_crowd yX6_crowd, Cond.code yX6_crowd cX6_crowd 2 (some .int), Cond.methodLink RL 98 yX5_count, Cond.instanceMethod yX5_count, Cond.selects RX5 yX5_count yX5_count, Cond.code yX5_count cX5_count 2 (some .int), Cond.methodLink RX5 139 yX2_today, Cond.instanceMethod yX2_today]
def wsL_law_r30 : List Cond := [Cond.selects RX2 yX2_today yX2_today, Cond.code yX2_today cX2_today 1 (some .int), Cond.methodLink RX5 142 yX2_gangs, Cond.instanceMethod yX2_gangs, Cond.selects RX2 yX2_gangs yX2_gangs, Cond.code yX2_gangs cX2_gangs 1 (some .int), Cond.methodLink RX5 145 yX4_colouredPlaces, Cond.instanceMethod yX4_colouredPlaces, Cond.selects RX4 yX4_colouredPlaces yX4_colouredPlaces, Cond.code yX4_colouredPlaces cX4_colouredPlaces 3 (some .int), Cond.methodLink RX5 148 yX2_finishedSquares, Cond.instanceMethod yX2_finishedSquares, Cond.selects RX2 yX2_finishedSquares yX2_finishedSquares, Cond.code yX2_finishedSquares cX2_finishedSquares 3 (some .int), Cond.methodLink RL 101 yX6_count, Cond.instanceMethod yX6_count, Cond.selects RX6 yX6_count yX6_count, Cond.code yX6_count cX6_count 4 (some .int)]
def wsL_law : List Cond := (wsL_law_r1 ++ (wsL_law_r2 ++ (wsL_law_r3 ++ (wsL_law_r4 ++ (wsL_law_r5 ++ (wsL_law_r6 ++ (wsL_law_r7 ++ (wsL_law_r8 ++ (wsL_law_r9 ++ (wsL_law_r10 ++ (wsL_law_r11 ++ (wsL_law_r12 ++ (wsL_law_r13 ++ (wsL_law_r14 ++ (wsL_law_r15 ++ (wsL_law_r16 ++ (wsL_law_r17 ++ (wsL_law_r18 ++ (wsL_law_r19 ++ (wsL_law_r20 ++ (wsL_law_r21 ++ (wsL_law_r22 ++ (wsL_law_r23 ++ (wsL_law_r24 ++ (wsL_law_r25 ++ (wsL_law_r26 ++ (wsL_law_r27 ++ (wsL_law_r28 ++ (wsL_law_r29 ++ wsL_law_r30))))))))))))))))))))))))))))) ++ wsX50 ++ wsX60 ++ wsX40 ++ wsX20 ++ wsX00 ++ wsX30 ++ wsX10 ++ ([] : List Cond)
theorem inlX0 : ∀ w ∈ wsX00, w ∈ wsL_law := fun _ h => List.mem_append_left _ (List.mem_append_left _ (List.mem_append_left _ (List.mem_append_right _ h)))
theorem inlX1 : ∀ w ∈ wsX10, w ∈ wsL_law := fun _ h => List.mem_append_left _ (List.mem_append_right _ h)
theorem inlX2 : ∀ w ∈ wsX20, w ∈ wsL_law := fun _ h => List.mem_append_left _ (List.mem_append_left _ (List.mem_append_left _ (List.mem_append_left _ (List.mem_append_right _ h))))
theorem inlX3 : ∀ w ∈ wsX30, w ∈ wsL_law := fun _ h => List.mem_append_left _ (List.mem_append_left _ (List.mem_append_right _ h))
theorem inlX4 : ∀ w ∈ wsX40, w ∈ wsL_law := fun _ h => List.mem_append_left _ (List.mem_append_left _ (List.mem_append_left _ (List.mem_append_left _ (List.mem_append_left _ (List.mem_append_right _ h)))))
theorem inlX5 : ∀ w ∈ wsX50, w ∈ wsL_law := fun _ h => List.mem_append_left _ (List.mem_append_left _ (List.mem_append_left _ (List.mem_append_left _ (List.mem_append_left _ (List.mem_append_left _ (List.mem_append_left _ (List.mem_append_right _ h)))))))
theorem inlX6 : ∀ w ∈ wsX60, w ∈ wsL_law := fun _ h => List.mem_append_left _ (List.mem_append_left _ (List.mem_append_left _ (List.mem_append_left _ (List.mem_append_left _ (List.mem_append_left _ (List.mem_append_right _ h))))))
end
section
theorem dX0_init_0 : decode cX0_init 0 = .ok (.aload_n 0, 1) := by decide +kernel
theorem dX0_init_1 : decode cX0_init 1 = .ok (.invokespecial 3, 3) := by decide +kernel
theorem dX0_init_4 : decode cX0_init 4 = .ok (.aload_n 0, 1) := by decide +kernel
theorem dX0_init_5 : decode cX0_init 5 = .ok (.sipush 600, 3) := by decide +kernel
theorem dX0_init_8 : decode cX0_init 8 = .ok (.newarray .int, 2) := by decide +kernel
theorem dX0_init_10 : decode cX0_init 10 = .ok (.putfield 9, 3) := by decide +kernel
theorem dX0_init_13 : decode cX0_init 13 = .ok (.return_, 1) := by decide +kernel
theorem dX0_bytes_0 : decode cX0_bytes 0 = .ok (.aload_n 0, 1) := by decide +kernel
theorem dX0_bytes_1 : decode cX0_bytes 1 = .ok (.getfield 15, 3) := by decide +kernel
theorem dX0_bytes_4 : decode cX0_bytes 4 = .ok (.ireturn, 1) := by decide +kernel
set_option maxRecDepth 20000 in
theorem ggX0_takeBytes_X0_takeFour : GoodIn wsX0_takeBytes wsX0_takeFour := goodIn_r _ [6, 1, 7, 8, 9, 10, 11, 12, 13] (by decide +kernel) (by decide +kernel)
set_option maxRecDepth 20000 in
theorem gX0_takeBytes_X0_takeFour : GoodIn wsX0_takeBytes (wsV RX0 19 RX0 yX0_takeFour wsX0_takeFour) := goodIn_app (goodIn_of _ (by decide +kernel)) ggX0_takeBytes_X0_takeFour
theorem dX0_takeBytes_0 : decode cX0_takeBytes 0 = .ok (.aload_n 0, 1) := by decide +kernel
theorem dX0_takeBytes_1 : decode cX0_takeBytes 1 = .ok (.getfield 15, 3) := by decide +kernel
theorem dX0_takeBytes_4 : decode cX0_takeBytes 4 = .ok (.sipush 580, 3) := by decide +kernel
theorem dX0_takeBytes_7 : decode cX0_takeBytes 7 = .ok (.if_icmp .le 5, 3) := by decide +kernel
theorem dX0_takeBytes_10 : decode cX0_takeBytes 10 = .ok (.iconst (-1), 1) := by decide +kernel
theorem dX0_takeBytes_11 : decode cX0_takeBytes 11 = .ok (.ireturn, 1) := by decide +kernel
theorem dX0_takeBytes_12 : decode cX0_takeBytes 12 = .ok (.aload_n 0, 1) := by decide +kernel
theorem dX0_takeBytes_13 : decode cX0_takeBytes 13 = .ok (.iload_n 1, 1) := by decide +kernel
theorem dX0_takeBytes_14 : decode cX0_takeBytes 14 = .ok (.invokevirtual 19, 3) := by decide +kernel
theorem dX0_takeBytes_17 : decode cX0_takeBytes 17 = .ok (.aload_n 0, 1) := by decide +kernel
theorem dX0_takeBytes_18 : decode cX0_takeBytes 18 = .ok (.iload_n 2, 1) := by decide +kernel
theorem dX0_takeBytes_19 : decode cX0_takeBytes 19 = .ok (.invokevirtual 19, 3) := by decide +kernel
theorem dX0_takeBytes_22 : decode cX0_takeBytes 22 = .ok (.aload_n 0, 1) := by decide +kernel
theorem dX0_takeBytes_23 : decode cX0_takeBytes 23 = .ok (.iload_n 3, 1) := by decide +kernel
theorem dX0_takeBytes_24 : decode cX0_takeBytes 24 = .ok (.invokevirtual 19, 3) := by decide +kernel
theorem dX0_takeBytes_27 : decode cX0_takeBytes 27 = .ok (.aload_n 0, 1) := by decide +kernel
theorem dX0_takeBytes_28 : decode cX0_takeBytes 28 = .ok (.iload 4, 2) := by decide +kernel
theorem dX0_takeBytes_30 : decode cX0_takeBytes 30 = .ok (.invokevirtual 19, 3) := by decide +kernel
theorem dX0_takeBytes_33 : decode cX0_takeBytes 33 = .ok (.aload_n 0, 1) := by decide +kernel
theorem dX0_takeBytes_34 : decode cX0_takeBytes 34 = .ok (.iload 5, 2) := by decide +kernel
theorem dX0_takeBytes_36 : decode cX0_takeBytes 36 = .ok (.invokevirtual 19, 3) := by decide +kernel
theorem dX0_takeBytes_39 : decode cX0_takeBytes 39 = .ok (.aload_n 0, 1) := by decide +kernel
theorem dX0_takeBytes_40 : decode cX0_takeBytes 40 = .ok (.getfield 15, 3) := by decide +kernel
theorem dX0_takeBytes_43 : decode cX0_takeBytes 43 = .ok (.ireturn, 1) := by decide +kernel
theorem dX0_takeFour_0 : decode cX0_takeFour 0 = .ok (.bipush 24, 2) := by decide +kernel
theorem dX0_takeFour_2 : decode cX0_takeFour 2 = .ok (.istore_n 2, 1) := by decide +kernel
theorem dX0_takeFour_3 : decode cX0_takeFour 3 = .ok (.iload_n 2, 1) := by decide +kernel
theorem dX0_takeFour_4 : decode cX0_takeFour 4 = .ok (.ifCond .lt 52, 3) := by decide +kernel
theorem dX0_takeFour_7 : decode cX0_takeFour 7 = .ok (.aload_n 0, 1) := by decide +kernel
theorem dX0_takeFour_8 : decode cX0_takeFour 8 = .ok (.getfield 15, 3) := by decide +kernel
theorem dX0_takeFour_11 : decode cX0_takeFour 11 = .ok (.ifCond .lt 39, 3) := by decide +kernel
theorem dX0_takeFour_14 : decode cX0_takeFour 14 = .ok (.aload_n 0, 1) := by decide +kernel
theorem dX0_takeFour_15 : decode cX0_takeFour 15 = .ok (.getfield 15, 3) := by decide +kernel
theorem dX0_takeFour_18 : decode cX0_takeFour 18 = .ok (.sipush 600, 3) := by decide +kernel
theorem dX0_takeFour_21 : decode cX0_takeFour 21 = .ok (.if_icmp .ge 29, 3) := by decide +kernel
theorem dX0_takeFour_24 : decode cX0_takeFour 24 = .ok (.aload_n 0, 1) := by decide +kernel
theorem dX0_takeFour_25 : decode cX0_takeFour 25 = .ok (.getfield 9, 3) := by decide +kernel
theorem dX0_takeFour_28 : decode cX0_takeFour 28 = .ok (.aload_n 0, 1) := by decide +kernel
theorem dX0_takeFour_29 : decode cX0_takeFour 29 = .ok (.getfield 15, 3) := by decide +kernel
theorem dX0_takeFour_32 : decode cX0_takeFour 32 = .ok (.iload_n 1, 1) := by decide +kernel
theorem dX0_takeFour_33 : decode cX0_takeFour 33 = .ok (.iload_n 2, 1) := by decide +kernel
theorem dX0_takeFour_34 : decode cX0_takeFour 34 = .ok (.iushr, 1) := by decide +kernel
theorem dX0_takeFour_35 : decode cX0_takeFour 35 = .ok (.sipush 255, 3) := by decide +kernel
theorem dX0_takeFour_38 : decode cX0_takeFour 38 = .ok (.iand, 1) := by decide +kernel
theorem dX0_takeFour_39 : decode cX0_takeFour 39 = .ok (.iastore, 1) := by decide +kernel
theorem dX0_takeFour_40 : decode cX0_takeFour 40 = .ok (.aload_n 0, 1) := by decide +kernel
theorem dX0_takeFour_41 : decode cX0_takeFour 41 = .ok (.dup, 1) := by decide +kernel
theorem dX0_takeFour_42 : decode cX0_takeFour 42 = .ok (.getfield 15, 3) := by decide +kernel
theorem dX0_takeFour_45 : decode cX0_takeFour 45 = .ok (.iconst 1, 1) := by decide +kernel
theorem dX0_takeFour_46 : decode cX0_takeFour 46 = .ok (.iadd, 1) := by decide +kernel
theorem dX0_takeFour_47 : decode cX0_takeFour 47 = .ok (.putfield 15, 3) := by decide +kernel
theorem dX0_takeFour_50 : decode cX0_takeFour 50 = .ok (.iinc 2 (-8), 3) := by decide +kernel
theorem dX0_takeFour_53 : decode cX0_takeFour 53 = .ok (.goto (-50), 3) := by decide +kernel
theorem dX0_takeFour_56 : decode cX0_takeFour 56 = .ok (.return_, 1) := by decide +kernel
set_option maxRecDepth 20000 in
theorem ggX0_readContract_X1_clearContract : GoodIn wsX0_readContract wsX1_clearContract := goodIn_r _ [14, 15, 16, 17, 136, 137, 138, 139, 140, 141, 142, 143, 144, 145, 146, 147] (by decide +kernel) (by decide +kernel)
set_option maxRecDepth 20000 in
theorem gX0_readContract_X1_clearContract : GoodIn wsX0_readContract (wsV RX0 23 RX1 yX1_clearContract wsX1_clearContract) := goodIn_app (goodIn_of _ (by decide +kernel)) ggX0_readContract_X1_clearContract
set_option maxRecDepth 20000 in
theorem ggX0_readContract_X0_advance : GoodIn wsX0_readContract wsX0_advance := goodIn_r _ [22, 7, 9, 6, 8, 23, 24, 25, 21, 26, 27, 28, 29, 30, 130, 131, 132, 133, 134, 135] (by decide +kernel) (by decide +kernel)
set_option maxRecDepth 20000 in
theorem gX0_readContract_X0_advance : GoodIn wsX0_readContract (wsV RX0 40 RX0 yX0_advance wsX0_advance) := goodIn_app (goodIn_of _ (by decide +kernel)) ggX0_readContract_X0_advance
set_option maxRecDepth 20000 in
theorem ggX0_readContract_X0_readStatement : GoodIn wsX0_readContract wsX0_readStatement := goodIn_r _ [34, 35, 36, 37, 38, 21, 39, 8, 7, 9, 40, 41, 42, 43, 44, 45, 46, 47, 48, 49, 50, 51, 23, 24, 25, 26, 6, 27, 52, 53, 54, 55, 56, 57, 58, 59, 60, 61, 62, 63, 64, 65, 66, 67, 68, 69, 70, 71, 72, 73, 74, 75, 76, 77, 78, 79, 80, 81, 82, 83, 84, 85, 86, 87, 88, 18, 19, 20, 22, 28, 29, 30, 89, 90, 91, 92, 93, 94, 95, 13, 96, 16, 97, 98, 99, 100, 17, 101, 102, 103, 104, 15, 105, 106, 107, 108, 109, 110, 111, 112, 113, 114, 115, 116, 117, 118, 119, 120, 121, 122, 123, 124, 125, 126, 127, 128, 129, 130, 131, 132, 133, 134, 135, 136, 137, 138, 139, 140, 141, 142, 143, 144, 145, 146, 147] (by decide +kernel) (by decide +kernel)
set_option maxRecDepth 20000 in
theorem gX0_readContract_X0_readStatement : GoodIn wsX0_readContract (wsV RX0 46 RX0 yX0_readStatement wsX0_readStatement) := goodIn_app (goodIn_of _ (by decide +kernel)) ggX0_readContract_X0_readStatement
theorem dX0_readContract_0 : decode cX0_readContract 0 = .ok (.aload_n 2, 1) := by decide +kernel
theorem dX0_readContract_1 : decode cX0_readContract 1 = .ok (.invokevirtual 23, 3) := by decide +kernel
theorem dX0_readContract_4 : decode cX0_readContract 4 = .ok (.aload_n 0, 1) := by decide +kernel
theorem dX0_readContract_5 : decode cX0_readContract 5 = .ok (.iload_n 1, 1) := by decide +kernel
theorem dX0_readContract_6 : decode cX0_readContract 6 = .ok (.aload_n 0, 1) := by decide +kernel
theorem dX0_readContract_7 : decode cX0_readContract 7 = .ok (.getfield 15, 3) := by decide +kernel
theorem dX0_readContract_10 : decode cX0_readContract 10 = .ok (.invokestatic 28, 3) := by decide +kernel
theorem dX0_readContract_13 : decode cX0_readContract 13 = .ok (.putfield 34, 3) := by decide +kernel
theorem dX0_readContract_16 : decode cX0_readContract 16 = .ok (.aload_n 0, 1) := by decide +kernel
theorem dX0_readContract_17 : decode cX0_readContract 17 = .ok (.iconst 0, 1) := by decide +kernel
theorem dX0_readContract_18 : decode cX0_readContract 18 = .ok (.putfield 15, 3) := by decide +kernel
theorem dX0_readContract_21 : decode cX0_readContract 21 = .ok (.aload_n 0, 1) := by decide +kernel
theorem dX0_readContract_22 : decode cX0_readContract 22 = .ok (.iconst 0, 1) := by decide +kernel
theorem dX0_readContract_23 : decode cX0_readContract 23 = .ok (.putfield 37, 3) := by decide +kernel
theorem dX0_readContract_26 : decode cX0_readContract 26 = .ok (.aload_n 0, 1) := by decide +kernel
theorem dX0_readContract_27 : decode cX0_readContract 27 = .ok (.invokevirtual 40, 3) := by decide +kernel
theorem dX0_readContract_30 : decode cX0_readContract 30 = .ok (.iconst 0, 1) := by decide +kernel
theorem dX0_readContract_31 : decode cX0_readContract 31 = .ok (.istore_n 3, 1) := by decide +kernel
theorem dX0_readContract_32 : decode cX0_readContract 32 = .ok (.iload_n 3, 1) := by decide +kernel
theorem dX0_readContract_33 : decode cX0_readContract 33 = .ok (.bipush 12, 2) := by decide +kernel
theorem dX0_readContract_35 : decode cX0_readContract 35 = .ok (.if_icmp .ge 29, 3) := by decide +kernel
theorem dX0_readContract_38 : decode cX0_readContract 38 = .ok (.aload_n 0, 1) := by decide +kernel
theorem dX0_readContract_39 : decode cX0_readContract 39 = .ok (.getfield 43, 3) := by decide +kernel
theorem dX0_readContract_42 : decode cX0_readContract 42 = .ok (.ifCond .eq 22, 3) := by decide +kernel
theorem dX0_readContract_45 : decode cX0_readContract 45 = .ok (.aload_n 0, 1) := by decide +kernel
theorem dX0_readContract_46 : decode cX0_readContract 46 = .ok (.aload_n 2, 1) := by decide +kernel
theorem dX0_readContract_47 : decode cX0_readContract 47 = .ok (.invokevirtual 46, 3) := by decide +kernel
theorem dX0_readContract_50 : decode cX0_readContract 50 = .ok (.ifCond .ne 8, 3) := by decide +kernel
theorem dX0_readContract_53 : decode cX0_readContract 53 = .ok (.aload_n 0, 1) := by decide +kernel
theorem dX0_readContract_54 : decode cX0_readContract 54 = .ok (.getfield 50, 3) := by decide +kernel
theorem dX0_readContract_57 : decode cX0_readContract 57 = .ok (.ireturn, 1) := by decide +kernel
theorem dX0_readContract_58 : decode cX0_readContract 58 = .ok (.iinc 3 1, 3) := by decide +kernel
theorem dX0_readContract_61 : decode cX0_readContract 61 = .ok (.goto (-29), 3) := by decide +kernel
theorem dX0_readContract_64 : decode cX0_readContract 64 = .ok (.aload_n 0, 1) := by decide +kernel
theorem dX0_readContract_65 : decode cX0_readContract 65 = .ok (.getfield 43, 3) := by decide +kernel
theorem dX0_readContract_68 : decode cX0_readContract 68 = .ok (.ifCond .ne 7, 3) := by decide +kernel
theorem dX0_readContract_71 : decode cX0_readContract 71 = .ok (.iconst (-1), 1) := by decide +kernel
theorem dX0_readContract_72 : decode cX0_readContract 72 = .ok (.goto 7, 3) := by decide +kernel
theorem dX0_readContract_75 : decode cX0_readContract 75 = .ok (.aload_n 0, 1) := by decide +kernel
theorem dX0_readContract_76 : decode cX0_readContract 76 = .ok (.getfield 50, 3) := by decide +kernel
theorem dX0_readContract_79 : decode cX0_readContract 79 = .ok (.ireturn, 1) := by decide +kernel
set_option maxRecDepth 20000 in
theorem ggX0_readStatement_X0_isWord : GoodIn wsX0_readStatement wsX0_isWord := goodIn_r _ [6, 7, 8, 9, 10, 11, 12, 13, 14, 15, 16, 17, 18, 19, 20, 21, 22, 23, 24, 5, 25, 26, 27, 28, 29, 30, 31, 32, 33, 34, 35, 36, 37, 38, 39, 40, 41, 42, 43, 44, 45, 46, 47, 48, 49, 50, 51, 52, 53, 54, 55, 56, 57, 58, 59, 60, 61, 62, 63, 64, 117, 118, 119, 120, 121, 122] (by decide +kernel) (by decide +kernel)
set_option maxRecDepth 20000 in
theorem gX0_readStatement_X0_isWord : GoodIn wsX0_readStatement (wsV RX0 55 RX0 yX0_isWord wsX0_isWord) := goodIn_app (goodIn_of _ (by decide +kernel)) ggX0_readStatement_X0_isWord
set_option maxRecDepth 20000 in
theorem ggX0_readStatement_X0_advance : GoodIn wsX0_readStatement wsX0_advance := goodIn_r _ [68, 8, 9, 26, 7, 22, 23, 24, 5, 25, 27, 69, 70, 71, 117, 118, 119, 120, 121, 122] (by decide +kernel) (by decide +kernel)
set_option maxRecDepth 20000 in
theorem gX0_readStatement_X0_advance : GoodIn wsX0_readStatement (wsV RX0 40 RX0 yX0_advance wsX0_advance) := goodIn_app (goodIn_of _ (by decide +kernel)) ggX0_readStatement_X0_advance
set_option maxRecDepth 20000 in
theorem ggX0_readStatement_X0_numberHere : GoodIn wsX0_readStatement wsX0_numberHere := goodIn_r _ [75, 7, 8, 9, 22, 23, 24, 5, 25, 26, 27, 117, 118, 119, 120, 121, 122] (by decide +kernel) (by decide +kernel)
set_option maxRecDepth 20000 in
theorem gX0_readStatement_X0_numberHere : GoodIn wsX0_readStatement (wsV RX0 64 RX0 yX0_numberHere wsX0_numberHere) := goodIn_app (goodIn_of _ (by decide +kernel)) ggX0_readStatement_X0_numberHere
set_option maxRecDepth 20000 in
theorem ggX0_readStatement_X1_setWeeks : GoodIn wsX0_readStatement wsX1_setWeeks := goodIn_r _ [80, 81, 123, 124, 125, 126, 127, 128, 129, 130, 131, 132, 133, 134] (by decide +kernel) (by decide +kernel)
set_option maxRecDepth 20000 in
theorem gX0_readStatement_X1_setWeeks : GoodIn wsX0_readStatement (wsV RX0 68 RX1 yX1_setWeeks wsX1_setWeeks) := goodIn_app (goodIn_of _ (by decide +kernel)) ggX0_readStatement_X1_setWeeks
set_option maxRecDepth 20000 in
theorem ggX0_readStatement_X1_setRent : GoodIn wsX0_readStatement wsX1_setRent := goodIn_r _ [85, 86, 123, 124, 125, 126, 127, 128, 129, 130, 131, 132, 133, 134] (by decide +kernel) (by decide +kernel)
set_option maxRecDepth 20000 in
theorem gX0_readStatement_X1_setRent : GoodIn wsX0_readStatement (wsV RX0 71 RX1 yX1_setRent wsX1_setRent) := goodIn_app (goodIn_of _ (by decide +kernel)) ggX0_readStatement_X1_setRent
set_option maxRecDepth 20000 in
theorem ggX0_readStatement_X1_addPart : GoodIn wsX0_readStatement wsX1_addPart := goodIn_r _ [90, 91, 92, 93, 123, 124, 125, 126, 127, 128, 129, 130, 131, 132, 133, 134] (by decide +kernel) (by decide +kernel)
set_option maxRecDepth 20000 in
theorem gX0_readStatement_X1_addPart : GoodIn wsX0_readStatement (wsV RX0 74 RX1 yX1_addPart wsX1_addPart) := goodIn_app (goodIn_of _ (by decide +kernel)) ggX0_readStatement_X1_addPart
set_option maxRecDepth 20000 in
theorem ggX0_readStatement_X0_readTests : GoodIn wsX0_readStatement wsX0_readTests := goodIn_r _ [97, 2, 3, 4, 5, 6, 7, 8, 9, 10, 11, 12, 13, 14, 15, 16, 17, 18, 19, 20, 21, 22, 23, 24, 25, 26, 27, 28, 29, 30, 31, 32, 33, 34, 35, 36, 37, 38, 39, 40, 41, 42, 43, 44, 45, 46, 47, 48, 49, 50, 51, 52, 53, 54, 55, 56, 57, 58, 59, 60, 61, 62, 63, 64, 65, 66, 67, 68, 69, 70, 71, 98, 99, 100, 101, 1, 102, 103, 104, 105, 106, 107, 108, 109, 72, 73, 74, 75, 110, 111, 112, 79, 113, 91, 93, 114, 115, 116, 117, 118, 119, 120, 121, 122, 123, 124, 125, 126, 127, 128, 129, 130, 131, 132, 133, 134] (by decide +kernel) (by decide +kernel)
set_option maxRecDepth 20000 in
theorem gX0_readStatement_X0_readTests : GoodIn wsX0_readStatement (wsV RX0 77 RX0 yX0_readTests wsX0_readTests) := goodIn_app (goodIn_of _ (by decide +kernel)) ggX0_readStatement_X0_readTests
set_option maxRecDepth 20000 in
theorem ggX0_readStatement_X0_signHere : GoodIn wsX0_readStatement wsX0_signHere := goodIn_r _ [109, 7, 9, 22, 23, 24, 5, 25, 26, 27, 117, 118, 119, 120, 121, 122] (by decide +kernel) (by decide +kernel)
set_option maxRecDepth 20000 in
theorem gX0_readStatement_X0_signHere : GoodIn wsX0_readStatement (wsV RX0 80 RX0 yX0_signHere wsX0_signHere) := goodIn_app (goodIn_of _ (by decide +kernel)) ggX0_readStatement_X0_signHere
theorem dX0_readStatement_0 : decode cX0_readStatement 0 = .ok (.aload_n 0, 1) := by decide +kernel
theorem dX0_readStatement_1 : decode cX0_readStatement 1 = .ok (.ldc 53, 2) := by decide +kernel
theorem dX0_readStatement_3 : decode cX0_readStatement 3 = .ok (.invokevirtual 55, 3) := by decide +kernel
theorem dX0_readStatement_6 : decode cX0_readStatement 6 = .ok (.istore_n 2, 1) := by decide +kernel
theorem dX0_readStatement_7 : decode cX0_readStatement 7 = .ok (.aload_n 0, 1) := by decide +kernel
theorem dX0_readStatement_8 : decode cX0_readStatement 8 = .ok (.ldc 59, 2) := by decide +kernel
theorem dX0_readStatement_10 : decode cX0_readStatement 10 = .ok (.invokevirtual 55, 3) := by decide +kernel
theorem dX0_readStatement_13 : decode cX0_readStatement 13 = .ok (.istore_n 3, 1) := by decide +kernel
theorem dX0_readStatement_14 : decode cX0_readStatement 14 = .ok (.iload_n 2, 1) := by decide +kernel
theorem dX0_readStatement_15 : decode cX0_readStatement 15 = .ok (.ifCond .ne 18, 3) := by decide +kernel
theorem dX0_readStatement_18 : decode cX0_readStatement 18 = .ok (.iload_n 3, 1) := by decide +kernel
theorem dX0_readStatement_19 : decode cX0_readStatement 19 = .ok (.ifCond .ne 14, 3) := by decide +kernel
theorem dX0_readStatement_22 : decode cX0_readStatement 22 = .ok (.aload_n 0, 1) := by decide +kernel
theorem dX0_readStatement_23 : decode cX0_readStatement 23 = .ok (.ldc 61, 2) := by decide +kernel
theorem dX0_readStatement_25 : decode cX0_readStatement 25 = .ok (.invokevirtual 55, 3) := by decide +kernel
theorem dX0_readStatement_28 : decode cX0_readStatement 28 = .ok (.ifCond .ne 5, 3) := by decide +kernel
theorem dX0_readStatement_31 : decode cX0_readStatement 31 = .ok (.iconst 0, 1) := by decide +kernel
theorem dX0_readStatement_32 : decode cX0_readStatement 32 = .ok (.ireturn, 1) := by decide +kernel
theorem dX0_readStatement_33 : decode cX0_readStatement 33 = .ok (.aload_n 0, 1) := by decide +kernel
theorem dX0_readStatement_34 : decode cX0_readStatement 34 = .ok (.invokevirtual 40, 3) := by decide +kernel
theorem dX0_readStatement_37 : decode cX0_readStatement 37 = .ok (.aload_n 0, 1) := by decide +kernel
theorem dX0_readStatement_38 : decode cX0_readStatement 38 = .ok (.iload_n 3, 1) := by decide +kernel
theorem dX0_readStatement_39 : decode cX0_readStatement 39 = .ok (.ifCond .eq 8, 3) := by decide +kernel
theorem dX0_readStatement_42 : decode cX0_readStatement 42 = .ok (.bipush 100, 2) := by decide +kernel
theorem dX0_readStatement_44 : decode cX0_readStatement 44 = .ok (.goto 5, 3) := by decide +kernel
theorem dX0_readStatement_47 : decode cX0_readStatement 47 = .ok (.ldc 63, 2) := by decide +kernel
theorem dX0_readStatement_49 : decode cX0_readStatement 49 = .ok (.invokevirtual 64, 3) := by decide +kernel
theorem dX0_readStatement_52 : decode cX0_readStatement 52 = .ok (.istore 4, 2) := by decide +kernel
theorem dX0_readStatement_54 : decode cX0_readStatement 54 = .ok (.iload 4, 2) := by decide +kernel
theorem dX0_readStatement_56 : decode cX0_readStatement 56 = .ok (.iconst (-1), 1) := by decide +kernel
theorem dX0_readStatement_57 : decode cX0_readStatement 57 = .ok (.if_icmp .ne 5, 3) := by decide +kernel
theorem dX0_readStatement_60 : decode cX0_readStatement 60 = .ok (.iconst 0, 1) := by decide +kernel
theorem dX0_readStatement_61 : decode cX0_readStatement 61 = .ok (.ireturn, 1) := by decide +kernel
theorem dX0_readStatement_62 : decode cX0_readStatement 62 = .ok (.aload_n 0, 1) := by decide +kernel
theorem dX0_readStatement_63 : decode cX0_readStatement 63 = .ok (.invokevirtual 40, 3) := by decide +kernel
theorem dX0_readStatement_66 : decode cX0_readStatement 66 = .ok (.iload_n 2, 1) := by decide +kernel
theorem dX0_readStatement_67 : decode cX0_readStatement 67 = .ok (.ifCond .eq 12, 3) := by decide +kernel
theorem dX0_readStatement_70 : decode cX0_readStatement 70 = .ok (.aload_n 1, 1) := by decide +kernel
theorem dX0_readStatement_71 : decode cX0_readStatement 71 = .ok (.iload 4, 2) := by decide +kernel
theorem dX0_readStatement_73 : decode cX0_readStatement 73 = .ok (.invokevirtual 68, 3) := by decide +kernel
theorem dX0_readStatement_76 : decode cX0_readStatement 76 = .ok (.goto 32, 3) := by decide +kernel
theorem dX0_readStatement_79 : decode cX0_readStatement 79 = .ok (.iload_n 3, 1) := by decide +kernel
theorem dX0_readStatement_80 : decode cX0_readStatement 80 = .ok (.ifCond .ne 12, 3) := by decide +kernel
theorem dX0_readStatement_83 : decode cX0_readStatement 83 = .ok (.aload_n 1, 1) := by decide +kernel
theorem dX0_readStatement_84 : decode cX0_readStatement 84 = .ok (.iload 4, 2) := by decide +kernel
theorem dX0_readStatement_86 : decode cX0_readStatement 86 = .ok (.invokevirtual 71, 3) := by decide +kernel
theorem dX0_readStatement_89 : decode cX0_readStatement 89 = .ok (.goto 19, 3) := by decide +kernel
theorem dX0_readStatement_92 : decode cX0_readStatement 92 = .ok (.aload_n 1, 1) := by decide +kernel
theorem dX0_readStatement_93 : decode cX0_readStatement 93 = .ok (.iload 4, 2) := by decide +kernel
theorem dX0_readStatement_95 : decode cX0_readStatement 95 = .ok (.invokevirtual 74, 3) := by decide +kernel
theorem dX0_readStatement_98 : decode cX0_readStatement 98 = .ok (.aload_n 0, 1) := by decide +kernel
theorem dX0_readStatement_99 : decode cX0_readStatement 99 = .ok (.aload_n 1, 1) := by decide +kernel
theorem dX0_readStatement_100 : decode cX0_readStatement 100 = .ok (.invokevirtual 77, 3) := by decide +kernel
theorem dX0_readStatement_103 : decode cX0_readStatement 103 = .ok (.ifCond .ne 5, 3) := by decide +kernel
theorem dX0_readStatement_106 : decode cX0_readStatement 106 = .ok (.iconst 0, 1) := by decide +kernel
theorem dX0_readStatement_107 : decode cX0_readStatement 107 = .ok (.ireturn, 1) := by decide +kernel
theorem dX0_readStatement_108 : decode cX0_readStatement 108 = .ok (.aload_n 0, 1) := by decide +kernel
theorem dX0_readStatement_109 : decode cX0_readStatement 109 = .ok (.invokevirtual 80, 3) := by decide +kernel
theorem dX0_readStatement_112 : decode cX0_readStatement 112 = .ok (.bipush 59, 2) := by decide +kernel
theorem dX0_readStatement_114 : decode cX0_readStatement 114 = .ok (.if_icmp .eq 5, 3) := by decide +kernel
theorem dX0_readStatement_117 : decode cX0_readStatement 117 = .ok (.iconst 0, 1) := by decide +kernel
theorem dX0_readStatement_118 : decode cX0_readStatement 118 = .ok (.ireturn, 1) := by decide +kernel
theorem dX0_readStatement_119 : decode cX0_readStatement 119 = .ok (.aload_n 0, 1) := by decide +kernel
theorem dX0_readStatement_120 : decode cX0_readStatement 120 = .ok (.invokevirtual 40, 3) := by decide +kernel
theorem dX0_readStatement_123 : decode cX0_readStatement 123 = .ok (.iconst 1, 1) := by decide +kernel
theorem dX0_readStatement_124 : decode cX0_readStatement 124 = .ok (.ireturn, 1) := by decide +kernel
set_option maxRecDepth 20000 in
theorem ggX0_readTests_X0_isWord : GoodIn wsX0_readTests wsX0_isWord := goodIn_r _ [5, 6, 7, 8, 9, 10, 11, 12, 13, 14, 15, 16, 17, 18, 19, 20, 21, 22, 23, 4, 24, 25, 26, 27, 28, 29, 30, 31, 32, 33, 34, 35, 36, 37, 38, 39, 40, 41, 42, 43, 44, 45, 46, 47, 48, 49, 50, 51, 52, 53, 54, 55, 56, 57, 58, 59, 60, 61, 62, 63, 98, 99, 100, 101, 102, 103] (by decide +kernel) (by decide +kernel)
set_option maxRecDepth 20000 in
theorem gX0_readTests_X0_isWord : GoodIn wsX0_readTests (wsV RX0 55 RX0 yX0_isWord wsX0_isWord) := goodIn_app (goodIn_of _ (by decide +kernel)) ggX0_readTests_X0_isWord
set_option maxRecDepth 20000 in
theorem ggX0_readTests_X0_advance : GoodIn wsX0_readTests wsX0_advance := goodIn_r _ [67, 7, 8, 25, 6, 21, 22, 23, 4, 24, 26, 68, 69, 70, 98, 99, 100, 101, 102, 103] (by decide +kernel) (by decide +kernel)
set_option maxRecDepth 20000 in
theorem gX0_readTests_X0_advance : GoodIn wsX0_readTests (wsV RX0 40 RX0 yX0_advance wsX0_advance) := goodIn_app (goodIn_of _ (by decide +kernel)) ggX0_readTests_X0_advance
set_option maxRecDepth 20000 in
theorem ggX0_readTests_X0_readTest : GoodIn wsX0_readTests wsX0_readTest := goodIn_r _ [74, 75, 76, 77, 78, 4, 79, 1, 2, 3, 5, 6, 7, 8, 9, 10, 11, 12, 13, 14, 15, 16, 17, 18, 19, 20, 21, 22, 23, 24, 25, 26, 27, 28, 29, 30, 31, 32, 33, 34, 35, 36, 37, 38, 39, 40, 41, 42, 43, 44, 45, 46, 47, 48, 49, 50, 51, 52, 53, 54, 55, 56, 57, 58, 59, 60, 61, 62, 63, 64, 65, 66, 67, 68, 69, 70, 80, 81, 82, 83, 84, 85, 86, 87, 88, 89, 90, 91, 92, 93, 94, 95, 96, 97, 98, 99, 100, 101, 102, 103, 104, 105, 106, 107, 108, 109, 110, 111, 112, 113, 114, 115] (by decide +kernel) (by decide +kernel)
set_option maxRecDepth 20000 in
theorem gX0_readTests_X0_readTest : GoodIn wsX0_readTests (wsV RX0 86 RX0 yX0_readTest wsX0_readTest) := goodIn_app (goodIn_of _ (by decide +kernel)) ggX0_readTests_X0_readTest
theorem dX0_readTests_0 : decode cX0_readTests 0 = .ok (.aload_n 0, 1) := by decide +kernel
theorem dX0_readTests_1 : decode cX0_readTests 1 = .ok (.ldc 84, 2) := by decide +kernel
theorem dX0_readTests_3 : decode cX0_readTests 3 = .ok (.invokevirtual 55, 3) := by decide +kernel
theorem dX0_readTests_6 : decode cX0_readTests 6 = .ok (.istore_n 2, 1) := by decide +kernel
theorem dX0_readTests_7 : decode cX0_readTests 7 = .ok (.iconst 0, 1) := by decide +kernel
theorem dX0_readTests_8 : decode cX0_readTests 8 = .ok (.istore_n 3, 1) := by decide +kernel
theorem dX0_readTests_9 : decode cX0_readTests 9 = .ok (.iload_n 2, 1) := by decide +kernel
theorem dX0_readTests_10 : decode cX0_readTests 10 = .ok (.ifCond .eq 35, 3) := by decide +kernel
theorem dX0_readTests_13 : decode cX0_readTests 13 = .ok (.iload_n 3, 1) := by decide +kernel
theorem dX0_readTests_14 : decode cX0_readTests 14 = .ok (.iconst 3, 1) := by decide +kernel
theorem dX0_readTests_15 : decode cX0_readTests 15 = .ok (.if_icmp .ge 30, 3) := by decide +kernel
theorem dX0_readTests_18 : decode cX0_readTests 18 = .ok (.aload_n 0, 1) := by decide +kernel
theorem dX0_readTests_19 : decode cX0_readTests 19 = .ok (.invokevirtual 40, 3) := by decide +kernel
theorem dX0_readTests_22 : decode cX0_readTests 22 = .ok (.aload_n 0, 1) := by decide +kernel
theorem dX0_readTests_23 : decode cX0_readTests 23 = .ok (.aload_n 1, 1) := by decide +kernel
theorem dX0_readTests_24 : decode cX0_readTests 24 = .ok (.invokevirtual 86, 3) := by decide +kernel
theorem dX0_readTests_27 : decode cX0_readTests 27 = .ok (.ifCond .ne 5, 3) := by decide +kernel
theorem dX0_readTests_30 : decode cX0_readTests 30 = .ok (.iconst 0, 1) := by decide +kernel
theorem dX0_readTests_31 : decode cX0_readTests 31 = .ok (.ireturn, 1) := by decide +kernel
theorem dX0_readTests_32 : decode cX0_readTests 32 = .ok (.aload_n 0, 1) := by decide +kernel
theorem dX0_readTests_33 : decode cX0_readTests 33 = .ok (.ldc 89, 2) := by decide +kernel
theorem dX0_readTests_35 : decode cX0_readTests 35 = .ok (.invokevirtual 55, 3) := by decide +kernel
theorem dX0_readTests_38 : decode cX0_readTests 38 = .ok (.istore_n 2, 1) := by decide +kernel
theorem dX0_readTests_39 : decode cX0_readTests 39 = .ok (.iinc 3 1, 3) := by decide +kernel
theorem dX0_readTests_42 : decode cX0_readTests 42 = .ok (.goto (-33), 3) := by decide +kernel
theorem dX0_readTests_45 : decode cX0_readTests 45 = .ok (.iload_n 2, 1) := by decide +kernel
theorem dX0_readTests_46 : decode cX0_readTests 46 = .ok (.ifCond .eq 7, 3) := by decide +kernel
theorem dX0_readTests_49 : decode cX0_readTests 49 = .ok (.aload_n 0, 1) := by decide +kernel
theorem dX0_readTests_50 : decode cX0_readTests 50 = .ok (.invokevirtual 40, 3) := by decide +kernel
theorem dX0_readTests_53 : decode cX0_readTests 53 = .ok (.iload_n 2, 1) := by decide +kernel
theorem dX0_readTests_54 : decode cX0_readTests 54 = .ok (.ifCond .ne 7, 3) := by decide +kernel
theorem dX0_readTests_57 : decode cX0_readTests 57 = .ok (.iconst 1, 1) := by decide +kernel
theorem dX0_readTests_58 : decode cX0_readTests 58 = .ok (.goto 4, 3) := by decide +kernel
theorem dX0_readTests_61 : decode cX0_readTests 61 = .ok (.iconst 0, 1) := by decide +kernel
theorem dX0_readTests_62 : decode cX0_readTests 62 = .ok (.ireturn, 1) := by decide +kernel
set_option maxRecDepth 20000 in
theorem ggX0_readTest_X0_subjectHere : GoodIn wsX0_readTest wsX0_subjectHere := goodIn_r _ [6, 7, 8, 9, 5, 10, 11, 12, 13, 14, 15, 16, 17, 18, 19, 20, 21, 22, 23, 24, 25, 26, 27, 28, 29, 30, 31, 32, 33, 34, 35, 36, 37, 38, 39, 40, 41, 42, 43, 44, 45, 46, 47, 48, 49, 50, 51, 52, 53, 54, 55, 56, 57, 58, 59, 60, 61, 62, 63, 64, 65, 66, 67, 68, 94, 95, 96, 97, 98, 99] (by decide +kernel) (by decide +kernel)
set_option maxRecDepth 20000 in
theorem gX0_readTest_X0_subjectHere : GoodIn wsX0_readTest (wsV RX0 91 RX0 yX0_subjectHere wsX0_subjectHere) := goodIn_app (goodIn_of _ (by decide +kernel)) ggX0_readTest_X0_subjectHere
set_option maxRecDepth 20000 in
theorem ggX0_readTest_X0_advance : GoodIn wsX0_readTest wsX0_advance := goodIn_r _ [72, 12, 13, 30, 11, 26, 27, 28, 5, 29, 31, 73, 74, 75, 94, 95, 96, 97, 98, 99] (by decide +kernel) (by decide +kernel)
set_option maxRecDepth 20000 in
theorem gX0_readTest_X0_advance : GoodIn wsX0_readTest (wsV RX0 40 RX0 yX0_advance wsX0_advance) := goodIn_app (goodIn_of _ (by decide +kernel)) ggX0_readTest_X0_advance
set_option maxRecDepth 20000 in
theorem ggX0_readTest_X0_signHere : GoodIn wsX0_readTest wsX0_signHere := goodIn_r _ [79, 11, 13, 26, 27, 28, 5, 29, 30, 31, 94, 95, 96, 97, 98, 99] (by decide +kernel) (by decide +kernel)
set_option maxRecDepth 20000 in
theorem gX0_readTest_X0_signHere : GoodIn wsX0_readTest (wsV RX0 80 RX0 yX0_signHere wsX0_signHere) := goodIn_app (goodIn_of _ (by decide +kernel)) ggX0_readTest_X0_signHere
set_option maxRecDepth 20000 in
theorem ggX0_readTest_X0_numberHere : GoodIn wsX0_readTest wsX0_numberHere := goodIn_r _ [83, 11, 12, 13, 26, 27, 28, 5, 29, 30, 31, 94, 95, 96, 97, 98, 99] (by decide +kernel) (by decide +kernel)
set_option maxRecDepth 20000 in
theorem gX0_readTest_X0_numberHere : GoodIn wsX0_readTest (wsV RX0 64 RX0 yX0_numberHere wsX0_numberHere) := goodIn_app (goodIn_of _ (by decide +kernel)) ggX0_readTest_X0_numberHere
set_option maxRecDepth 20000 in
theorem ggX0_readTest_X1_addTest : GoodIn wsX0_readTest wsX1_addTest := goodIn_r _ [88, 89, 90, 91, 92, 93, 100, 101, 102, 103, 104, 105, 106, 107, 108, 109, 110, 111] (by decide +kernel) (by decide +kernel)
set_option maxRecDepth 20000 in
theorem gX0_readTest_X1_addTest : GoodIn wsX0_readTest (wsV RX0 94 RX1 yX1_addTest wsX1_addTest) := goodIn_app (goodIn_of _ (by decide +kernel)) ggX0_readTest_X1_addTest
theorem dX0_readTest_0 : decode cX0_readTest 0 = .ok (.aload_n 0, 1) := by decide +kernel
theorem dX0_readTest_1 : decode cX0_readTest 1 = .ok (.invokevirtual 91, 3) := by decide +kernel
theorem dX0_readTest_4 : decode cX0_readTest 4 = .ok (.istore_n 2, 1) := by decide +kernel
theorem dX0_readTest_5 : decode cX0_readTest 5 = .ok (.iload_n 2, 1) := by decide +kernel
theorem dX0_readTest_6 : decode cX0_readTest 6 = .ok (.iconst (-1), 1) := by decide +kernel
theorem dX0_readTest_7 : decode cX0_readTest 7 = .ok (.if_icmp .ne 5, 3) := by decide +kernel
theorem dX0_readTest_10 : decode cX0_readTest 10 = .ok (.iconst 0, 1) := by decide +kernel
theorem dX0_readTest_11 : decode cX0_readTest 11 = .ok (.ireturn, 1) := by decide +kernel
theorem dX0_readTest_12 : decode cX0_readTest 12 = .ok (.aload_n 0, 1) := by decide +kernel
theorem dX0_readTest_13 : decode cX0_readTest 13 = .ok (.invokevirtual 40, 3) := by decide +kernel
theorem dX0_readTest_16 : decode cX0_readTest 16 = .ok (.aload_n 0, 1) := by decide +kernel
theorem dX0_readTest_17 : decode cX0_readTest 17 = .ok (.invokevirtual 80, 3) := by decide +kernel
theorem dX0_readTest_20 : decode cX0_readTest 20 = .ok (.istore_n 3, 1) := by decide +kernel
theorem dX0_readTest_21 : decode cX0_readTest 21 = .ok (.iload_n 3, 1) := by decide +kernel
theorem dX0_readTest_22 : decode cX0_readTest 22 = .ok (.iconst (-1), 1) := by decide +kernel
theorem dX0_readTest_23 : decode cX0_readTest 23 = .ok (.if_icmp .eq 9, 3) := by decide +kernel
theorem dX0_readTest_26 : decode cX0_readTest 26 = .ok (.iload_n 3, 1) := by decide +kernel
theorem dX0_readTest_27 : decode cX0_readTest 27 = .ok (.bipush 59, 2) := by decide +kernel
theorem dX0_readTest_29 : decode cX0_readTest 29 = .ok (.if_icmp .ne 5, 3) := by decide +kernel
theorem dX0_readTest_32 : decode cX0_readTest 32 = .ok (.iconst 0, 1) := by decide +kernel
theorem dX0_readTest_33 : decode cX0_readTest 33 = .ok (.ireturn, 1) := by decide +kernel
theorem dX0_readTest_34 : decode cX0_readTest 34 = .ok (.aload_n 0, 1) := by decide +kernel
theorem dX0_readTest_35 : decode cX0_readTest 35 = .ok (.invokevirtual 40, 3) := by decide +kernel
theorem dX0_readTest_38 : decode cX0_readTest 38 = .ok (.aload_n 0, 1) := by decide +kernel
theorem dX0_readTest_39 : decode cX0_readTest 39 = .ok (.ldc 63, 2) := by decide +kernel
theorem dX0_readTest_41 : decode cX0_readTest 41 = .ok (.invokevirtual 64, 3) := by decide +kernel
theorem dX0_readTest_44 : decode cX0_readTest 44 = .ok (.istore 4, 2) := by decide +kernel
theorem dX0_readTest_46 : decode cX0_readTest 46 = .ok (.iload 4, 2) := by decide +kernel
theorem dX0_readTest_48 : decode cX0_readTest 48 = .ok (.iconst (-1), 1) := by decide +kernel
theorem dX0_readTest_49 : decode cX0_readTest 49 = .ok (.if_icmp .ne 5, 3) := by decide +kernel
theorem dX0_readTest_52 : decode cX0_readTest 52 = .ok (.iconst 0, 1) := by decide +kernel
theorem dX0_readTest_53 : decode cX0_readTest 53 = .ok (.ireturn, 1) := by decide +kernel
theorem dX0_readTest_54 : decode cX0_readTest 54 = .ok (.aload_n 0, 1) := by decide +kernel
theorem dX0_readTest_55 : decode cX0_readTest 55 = .ok (.invokevirtual 40, 3) := by decide +kernel
theorem dX0_readTest_58 : decode cX0_readTest 58 = .ok (.aload_n 1, 1) := by decide +kernel
theorem dX0_readTest_59 : decode cX0_readTest 59 = .ok (.iload_n 2, 1) := by decide +kernel
theorem dX0_readTest_60 : decode cX0_readTest 60 = .ok (.iload_n 3, 1) := by decide +kernel
theorem dX0_readTest_61 : decode cX0_readTest 61 = .ok (.iload 4, 2) := by decide +kernel
theorem dX0_readTest_63 : decode cX0_readTest 63 = .ok (.invokevirtual 94, 3) := by decide +kernel
theorem dX0_readTest_66 : decode cX0_readTest 66 = .ok (.iconst 1, 1) := by decide +kernel
theorem dX0_readTest_67 : decode cX0_readTest 67 = .ok (.ireturn, 1) := by decide +kernel
set_option maxRecDepth 20000 in
theorem ggX0_subjectHere_X0_isWord : GoodIn wsX0_subjectHere wsX0_isWord := goodIn_r _ [5, 6, 7, 8, 9, 10, 11, 12, 13, 14, 15, 16, 17, 18, 19, 20, 21, 22, 23, 4, 24, 25, 26, 27, 28, 29, 30, 31, 32, 33, 34, 35, 36, 37, 38, 39, 40, 41, 42, 43, 44, 45, 46, 47, 48, 49, 50, 51, 52, 53, 54, 55, 56, 57, 58, 59, 60, 61, 62, 63, 64, 65, 66, 67, 68, 69] (by decide +kernel) (by decide +kernel)
set_option maxRecDepth 20000 in
theorem gX0_subjectHere_X0_isWord : GoodIn wsX0_subjectHere (wsV RX0 55 RX0 yX0_isWord wsX0_isWord) := goodIn_app (goodIn_of _ (by decide +kernel)) ggX0_subjectHere_X0_isWord
theorem dX0_subjectHere_0 : decode cX0_subjectHere 0 = .ok (.aload_n 0, 1) := by decide +kernel
theorem dX0_subjectHere_1 : decode cX0_subjectHere 1 = .ok (.ldc 98, 2) := by decide +kernel
theorem dX0_subjectHere_3 : decode cX0_subjectHere 3 = .ok (.invokevirtual 55, 3) := by decide +kernel
theorem dX0_subjectHere_6 : decode cX0_subjectHere 6 = .ok (.ifCond .eq 5, 3) := by decide +kernel
theorem dX0_subjectHere_9 : decode cX0_subjectHere 9 = .ok (.iconst 0, 1) := by decide +kernel
theorem dX0_subjectHere_10 : decode cX0_subjectHere 10 = .ok (.ireturn, 1) := by decide +kernel
theorem dX0_subjectHere_11 : decode cX0_subjectHere 11 = .ok (.aload_n 0, 1) := by decide +kernel
theorem dX0_subjectHere_12 : decode cX0_subjectHere 12 = .ok (.ldc 100, 2) := by decide +kernel
theorem dX0_subjectHere_14 : decode cX0_subjectHere 14 = .ok (.invokevirtual 55, 3) := by decide +kernel
theorem dX0_subjectHere_17 : decode cX0_subjectHere 17 = .ok (.ifCond .eq 5, 3) := by decide +kernel
theorem dX0_subjectHere_20 : decode cX0_subjectHere 20 = .ok (.iconst 1, 1) := by decide +kernel
theorem dX0_subjectHere_21 : decode cX0_subjectHere 21 = .ok (.ireturn, 1) := by decide +kernel
theorem dX0_subjectHere_22 : decode cX0_subjectHere 22 = .ok (.aload_n 0, 1) := by decide +kernel
theorem dX0_subjectHere_23 : decode cX0_subjectHere 23 = .ok (.ldc 102, 2) := by decide +kernel
theorem dX0_subjectHere_25 : decode cX0_subjectHere 25 = .ok (.invokevirtual 55, 3) := by decide +kernel
theorem dX0_subjectHere_28 : decode cX0_subjectHere 28 = .ok (.ifCond .eq 7, 3) := by decide +kernel
theorem dX0_subjectHere_31 : decode cX0_subjectHere 31 = .ok (.iconst 2, 1) := by decide +kernel
theorem dX0_subjectHere_32 : decode cX0_subjectHere 32 = .ok (.goto 4, 3) := by decide +kernel
theorem dX0_subjectHere_35 : decode cX0_subjectHere 35 = .ok (.iconst (-1), 1) := by decide +kernel
theorem dX0_subjectHere_36 : decode cX0_subjectHere 36 = .ok (.ireturn, 1) := by decide +kernel
set_option maxRecDepth 20000 in
theorem ggX0_signHere_X0_byteAt : GoodIn wsX0_signHere wsX0_byteAt := goodIn_r _ [7, 8, 9, 10, 11, 12, 13, 14, 15] (by decide +kernel) (by decide +kernel)
set_option maxRecDepth 20000 in
theorem gX0_signHere_X0_byteAt : GoodIn wsX0_signHere (wsV RX0 104 RX0 yX0_byteAt wsX0_byteAt) := goodIn_app (goodIn_of _ (by decide +kernel)) ggX0_signHere_X0_byteAt
theorem dX0_signHere_0 : decode cX0_signHere 0 = .ok (.aload_n 0, 1) := by decide +kernel
theorem dX0_signHere_1 : decode cX0_signHere 1 = .ok (.getfield 43, 3) := by decide +kernel
theorem dX0_signHere_4 : decode cX0_signHere 4 = .ok (.iconst 3, 1) := by decide +kernel
theorem dX0_signHere_5 : decode cX0_signHere 5 = .ok (.if_icmp .ne 14, 3) := by decide +kernel
theorem dX0_signHere_8 : decode cX0_signHere 8 = .ok (.aload_n 0, 1) := by decide +kernel
theorem dX0_signHere_9 : decode cX0_signHere 9 = .ok (.aload_n 0, 1) := by decide +kernel
theorem dX0_signHere_10 : decode cX0_signHere 10 = .ok (.getfield 50, 3) := by decide +kernel
theorem dX0_signHere_13 : decode cX0_signHere 13 = .ok (.invokevirtual 104, 3) := by decide +kernel
theorem dX0_signHere_16 : decode cX0_signHere 16 = .ok (.goto 4, 3) := by decide +kernel
theorem dX0_signHere_19 : decode cX0_signHere 19 = .ok (.iconst (-1), 1) := by decide +kernel
theorem dX0_signHere_20 : decode cX0_signHere 20 = .ok (.ireturn, 1) := by decide +kernel
set_option maxRecDepth 20000 in
theorem ggX0_numberHere_X0_byteAt : GoodIn wsX0_numberHere wsX0_byteAt := goodIn_r _ [8, 9, 10, 11, 12, 13, 14, 15, 16] (by decide +kernel) (by decide +kernel)
set_option maxRecDepth 20000 in
theorem gX0_numberHere_X0_byteAt : GoodIn wsX0_numberHere (wsV RX0 104 RX0 yX0_byteAt wsX0_byteAt) := goodIn_app (goodIn_of _ (by decide +kernel)) ggX0_numberHere_X0_byteAt
theorem dX0_numberHere_0 : decode cX0_numberHere 0 = .ok (.aload_n 0, 1) := by decide +kernel
theorem dX0_numberHere_1 : decode cX0_numberHere 1 = .ok (.getfield 43, 3) := by decide +kernel
theorem dX0_numberHere_4 : decode cX0_numberHere 4 = .ok (.iconst 2, 1) := by decide +kernel
theorem dX0_numberHere_5 : decode cX0_numberHere 5 = .ok (.if_icmp .ne 16, 3) := by decide +kernel
theorem dX0_numberHere_8 : decode cX0_numberHere 8 = .ok (.aload_n 0, 1) := by decide +kernel
theorem dX0_numberHere_9 : decode cX0_numberHere 9 = .ok (.getfield 37, 3) := by decide +kernel
theorem dX0_numberHere_12 : decode cX0_numberHere 12 = .ok (.aload_n 0, 1) := by decide +kernel
theorem dX0_numberHere_13 : decode cX0_numberHere 13 = .ok (.getfield 50, 3) := by decide +kernel
theorem dX0_numberHere_16 : decode cX0_numberHere 16 = .ok (.isub, 1) := by decide +kernel
theorem dX0_numberHere_17 : decode cX0_numberHere 17 = .ok (.iconst 5, 1) := by decide +kernel
theorem dX0_numberHere_18 : decode cX0_numberHere 18 = .ok (.if_icmp .le 5, 3) := by decide +kernel
theorem dX0_numberHere_21 : decode cX0_numberHere 21 = .ok (.iconst (-1), 1) := by decide +kernel
theorem dX0_numberHere_22 : decode cX0_numberHere 22 = .ok (.ireturn, 1) := by decide +kernel
theorem dX0_numberHere_23 : decode cX0_numberHere 23 = .ok (.iconst 0, 1) := by decide +kernel
theorem dX0_numberHere_24 : decode cX0_numberHere 24 = .ok (.istore_n 2, 1) := by decide +kernel
theorem dX0_numberHere_25 : decode cX0_numberHere 25 = .ok (.aload_n 0, 1) := by decide +kernel
theorem dX0_numberHere_26 : decode cX0_numberHere 26 = .ok (.getfield 50, 3) := by decide +kernel
theorem dX0_numberHere_29 : decode cX0_numberHere 29 = .ok (.istore_n 3, 1) := by decide +kernel
theorem dX0_numberHere_30 : decode cX0_numberHere 30 = .ok (.iload_n 3, 1) := by decide +kernel
theorem dX0_numberHere_31 : decode cX0_numberHere 31 = .ok (.aload_n 0, 1) := by decide +kernel
theorem dX0_numberHere_32 : decode cX0_numberHere 32 = .ok (.getfield 37, 3) := by decide +kernel
theorem dX0_numberHere_35 : decode cX0_numberHere 35 = .ok (.if_icmp .ge 23, 3) := by decide +kernel
theorem dX0_numberHere_38 : decode cX0_numberHere 38 = .ok (.iload_n 2, 1) := by decide +kernel
theorem dX0_numberHere_39 : decode cX0_numberHere 39 = .ok (.bipush 10, 2) := by decide +kernel
theorem dX0_numberHere_41 : decode cX0_numberHere 41 = .ok (.imul, 1) := by decide +kernel
theorem dX0_numberHere_42 : decode cX0_numberHere 42 = .ok (.aload_n 0, 1) := by decide +kernel
theorem dX0_numberHere_43 : decode cX0_numberHere 43 = .ok (.iload_n 3, 1) := by decide +kernel
theorem dX0_numberHere_44 : decode cX0_numberHere 44 = .ok (.invokevirtual 104, 3) := by decide +kernel
theorem dX0_numberHere_47 : decode cX0_numberHere 47 = .ok (.iadd, 1) := by decide +kernel
theorem dX0_numberHere_48 : decode cX0_numberHere 48 = .ok (.bipush 48, 2) := by decide +kernel
theorem dX0_numberHere_50 : decode cX0_numberHere 50 = .ok (.isub, 1) := by decide +kernel
theorem dX0_numberHere_51 : decode cX0_numberHere 51 = .ok (.istore_n 2, 1) := by decide +kernel
theorem dX0_numberHere_52 : decode cX0_numberHere 52 = .ok (.iinc 3 1, 3) := by decide +kernel
theorem dX0_numberHere_55 : decode cX0_numberHere 55 = .ok (.goto (-25), 3) := by decide +kernel
theorem dX0_numberHere_58 : decode cX0_numberHere 58 = .ok (.iload_n 2, 1) := by decide +kernel
theorem dX0_numberHere_59 : decode cX0_numberHere 59 = .ok (.iload_n 1, 1) := by decide +kernel
theorem dX0_numberHere_60 : decode cX0_numberHere 60 = .ok (.if_icmp .le 7, 3) := by decide +kernel
theorem dX0_numberHere_63 : decode cX0_numberHere 63 = .ok (.iconst (-1), 1) := by decide +kernel
theorem dX0_numberHere_64 : decode cX0_numberHere 64 = .ok (.goto 4, 3) := by decide +kernel
theorem dX0_numberHere_67 : decode cX0_numberHere 67 = .ok (.iload_n 2, 1) := by decide +kernel
theorem dX0_numberHere_68 : decode cX0_numberHere 68 = .ok (.ireturn, 1) := by decide +kernel
set_option maxRecDepth 20000 in
theorem ggX0_isWord_J0_length_8abf5 : GoodIn wsX0_isWord wsJ0_length_8abf5 := goodIn_r _ [8, 9, 10, 11, 12, 7, 13, 14, 15] (by decide +kernel) (by decide +kernel)
set_option maxRecDepth 20000 in
theorem gX0_isWord_J0_length_8abf5 : GoodIn wsX0_isWord (wsV RX0 107 RJ0 yJ0_length_8abf5 wsJ0_length_8abf5) := goodIn_app (goodIn_of _ (by decide +kernel)) ggX0_isWord_J0_length_8abf5
set_option maxRecDepth 20000 in
theorem ggX0_isWord_X0_byteAt : GoodIn wsX0_isWord wsX0_byteAt := goodIn_r _ [20, 21, 22, 60, 61, 62, 63, 64, 65] (by decide +kernel) (by decide +kernel)
set_option maxRecDepth 20000 in
theorem gX0_isWord_X0_byteAt : GoodIn wsX0_isWord (wsV RX0 104 RX0 yX0_byteAt wsX0_byteAt) := goodIn_app (goodIn_of _ (by decide +kernel)) ggX0_isWord_X0_byteAt
set_option maxRecDepth 20000 in
theorem ggX0_isWord_J0_charAt_5068e : GoodIn wsX0_isWord wsJ0_charAt_5068e := goodIn_r _ [26, 9, 27, 28, 29, 7, 30, 14, 15, 31, 32, 33, 34, 35, 36, 37, 38, 39, 40, 41, 42, 43, 44, 45, 46, 47, 48, 49, 50, 51, 52, 53, 54, 55, 56, 57, 58, 59] (by decide +kernel) (by decide +kernel)
set_option maxRecDepth 20000 in
theorem gX0_isWord_J0_charAt_5068e : GoodIn wsX0_isWord (wsV RX0 111 RJ0 yJ0_charAt_5068e wsJ0_charAt_5068e) := goodIn_app (goodIn_of _ (by decide +kernel)) ggX0_isWord_J0_charAt_5068e
theorem dX0_isWord_0 : decode cX0_isWord 0 = .ok (.aload_n 0, 1) := by decide +kernel
theorem dX0_isWord_1 : decode cX0_isWord 1 = .ok (.getfield 43, 3) := by decide +kernel
theorem dX0_isWord_4 : decode cX0_isWord 4 = .ok (.iconst 1, 1) := by decide +kernel
theorem dX0_isWord_5 : decode cX0_isWord 5 = .ok (.if_icmp .ne 19, 3) := by decide +kernel
theorem dX0_isWord_8 : decode cX0_isWord 8 = .ok (.aload_n 0, 1) := by decide +kernel
theorem dX0_isWord_9 : decode cX0_isWord 9 = .ok (.getfield 37, 3) := by decide +kernel
theorem dX0_isWord_12 : decode cX0_isWord 12 = .ok (.aload_n 0, 1) := by decide +kernel
theorem dX0_isWord_13 : decode cX0_isWord 13 = .ok (.getfield 50, 3) := by decide +kernel
theorem dX0_isWord_16 : decode cX0_isWord 16 = .ok (.isub, 1) := by decide +kernel
theorem dX0_isWord_17 : decode cX0_isWord 17 = .ok (.aload_n 1, 1) := by decide +kernel
theorem dX0_isWord_18 : decode cX0_isWord 18 = .ok (.invokevirtual 107, 3) := by decide +kernel
theorem dX0_isWord_21 : decode cX0_isWord 21 = .ok (.if_icmp .eq 5, 3) := by decide +kernel
theorem dX0_isWord_24 : decode cX0_isWord 24 = .ok (.iconst 0, 1) := by decide +kernel
theorem dX0_isWord_25 : decode cX0_isWord 25 = .ok (.ireturn, 1) := by decide +kernel
theorem dX0_isWord_26 : decode cX0_isWord 26 = .ok (.iconst 0, 1) := by decide +kernel
theorem dX0_isWord_27 : decode cX0_isWord 27 = .ok (.istore_n 2, 1) := by decide +kernel
theorem dX0_isWord_28 : decode cX0_isWord 28 = .ok (.iload_n 2, 1) := by decide +kernel
theorem dX0_isWord_29 : decode cX0_isWord 29 = .ok (.aload_n 1, 1) := by decide +kernel
theorem dX0_isWord_30 : decode cX0_isWord 30 = .ok (.invokevirtual 107, 3) := by decide +kernel
theorem dX0_isWord_33 : decode cX0_isWord 33 = .ok (.if_icmp .ge 29, 3) := by decide +kernel
theorem dX0_isWord_36 : decode cX0_isWord 36 = .ok (.aload_n 0, 1) := by decide +kernel
theorem dX0_isWord_37 : decode cX0_isWord 37 = .ok (.aload_n 0, 1) := by decide +kernel
theorem dX0_isWord_38 : decode cX0_isWord 38 = .ok (.getfield 50, 3) := by decide +kernel
theorem dX0_isWord_41 : decode cX0_isWord 41 = .ok (.iload_n 2, 1) := by decide +kernel
theorem dX0_isWord_42 : decode cX0_isWord 42 = .ok (.iadd, 1) := by decide +kernel
theorem dX0_isWord_43 : decode cX0_isWord 43 = .ok (.invokevirtual 104, 3) := by decide +kernel
theorem dX0_isWord_46 : decode cX0_isWord 46 = .ok (.aload_n 1, 1) := by decide +kernel
theorem dX0_isWord_47 : decode cX0_isWord 47 = .ok (.iload_n 2, 1) := by decide +kernel
theorem dX0_isWord_48 : decode cX0_isWord 48 = .ok (.invokevirtual 111, 3) := by decide +kernel
theorem dX0_isWord_51 : decode cX0_isWord 51 = .ok (.if_icmp .eq 5, 3) := by decide +kernel
theorem dX0_isWord_54 : decode cX0_isWord 54 = .ok (.iconst 0, 1) := by decide +kernel
theorem dX0_isWord_55 : decode cX0_isWord 55 = .ok (.ireturn, 1) := by decide +kernel
theorem dX0_isWord_56 : decode cX0_isWord 56 = .ok (.iinc 2 1, 3) := by decide +kernel
theorem dX0_isWord_59 : decode cX0_isWord 59 = .ok (.goto (-31), 3) := by decide +kernel
theorem dX0_isWord_62 : decode cX0_isWord 62 = .ok (.iconst 1, 1) := by decide +kernel
theorem dX0_isWord_63 : decode cX0_isWord 63 = .ok (.ireturn, 1) := by decide +kernel
set_option maxRecDepth 20000 in
theorem ggX0_advance_X0_byteAt : GoodIn wsX0_advance wsX0_byteAt := goodIn_r _ [9, 3, 10, 14, 15, 16, 17, 18, 19] (by decide +kernel) (by decide +kernel)
set_option maxRecDepth 20000 in
theorem gX0_advance_X0_byteAt : GoodIn wsX0_advance (wsV RX0 104 RX0 yX0_byteAt wsX0_byteAt) := goodIn_app (goodIn_of _ (by decide +kernel)) ggX0_advance_X0_byteAt
set_option maxRecDepth 20000 in
theorem ggX0_advance_X0_kindOf : GoodIn wsX0_advance wsX0_kindOf := goodIn_r _ [13] (by decide +kernel) (by decide +kernel)
set_option maxRecDepth 20000 in
theorem gX0_advance_X0_kindOf : GoodIn wsX0_advance (va_wsS RX0 115 yX0_kindOf wsX0_kindOf) := goodIn_app (goodIn_of _ (by decide +kernel)) ggX0_advance_X0_kindOf
theorem dX0_advance_0 : decode cX0_advance 0 = .ok (.aload_n 0, 1) := by decide +kernel
theorem dX0_advance_1 : decode cX0_advance 1 = .ok (.aload_n 0, 1) := by decide +kernel
theorem dX0_advance_2 : decode cX0_advance 2 = .ok (.getfield 37, 3) := by decide +kernel
theorem dX0_advance_5 : decode cX0_advance 5 = .ok (.putfield 50, 3) := by decide +kernel
theorem dX0_advance_8 : decode cX0_advance 8 = .ok (.aload_n 0, 1) := by decide +kernel
theorem dX0_advance_9 : decode cX0_advance 9 = .ok (.getfield 50, 3) := by decide +kernel
theorem dX0_advance_12 : decode cX0_advance 12 = .ok (.aload_n 0, 1) := by decide +kernel
theorem dX0_advance_13 : decode cX0_advance 13 = .ok (.getfield 34, 3) := by decide +kernel
theorem dX0_advance_16 : decode cX0_advance 16 = .ok (.if_icmp .ge 31, 3) := by decide +kernel
theorem dX0_advance_19 : decode cX0_advance 19 = .ok (.aload_n 0, 1) := by decide +kernel
theorem dX0_advance_20 : decode cX0_advance 20 = .ok (.aload_n 0, 1) := by decide +kernel
theorem dX0_advance_21 : decode cX0_advance 21 = .ok (.getfield 50, 3) := by decide +kernel
theorem dX0_advance_24 : decode cX0_advance 24 = .ok (.invokevirtual 104, 3) := by decide +kernel
theorem dX0_advance_27 : decode cX0_advance 27 = .ok (.invokestatic 115, 3) := by decide +kernel
theorem dX0_advance_30 : decode cX0_advance 30 = .ok (.iconst 4, 1) := by decide +kernel
theorem dX0_advance_31 : decode cX0_advance 31 = .ok (.if_icmp .ne 16, 3) := by decide +kernel
theorem dX0_advance_34 : decode cX0_advance 34 = .ok (.aload_n 0, 1) := by decide +kernel
theorem dX0_advance_35 : decode cX0_advance 35 = .ok (.dup, 1) := by decide +kernel
theorem dX0_advance_36 : decode cX0_advance 36 = .ok (.getfield 50, 3) := by decide +kernel
theorem dX0_advance_39 : decode cX0_advance 39 = .ok (.iconst 1, 1) := by decide +kernel
theorem dX0_advance_40 : decode cX0_advance 40 = .ok (.iadd, 1) := by decide +kernel
theorem dX0_advance_41 : decode cX0_advance 41 = .ok (.putfield 50, 3) := by decide +kernel
theorem dX0_advance_44 : decode cX0_advance 44 = .ok (.goto (-36), 3) := by decide +kernel
theorem dX0_advance_47 : decode cX0_advance 47 = .ok (.aload_n 0, 1) := by decide +kernel
theorem dX0_advance_48 : decode cX0_advance 48 = .ok (.aload_n 0, 1) := by decide +kernel
theorem dX0_advance_49 : decode cX0_advance 49 = .ok (.aload_n 0, 1) := by decide +kernel
theorem dX0_advance_50 : decode cX0_advance 50 = .ok (.getfield 50, 3) := by decide +kernel
theorem dX0_advance_53 : decode cX0_advance 53 = .ok (.invokevirtual 104, 3) := by decide +kernel
theorem dX0_advance_56 : decode cX0_advance 56 = .ok (.invokestatic 115, 3) := by decide +kernel
theorem dX0_advance_59 : decode cX0_advance 59 = .ok (.putfield 43, 3) := by decide +kernel
theorem dX0_advance_62 : decode cX0_advance 62 = .ok (.aload_n 0, 1) := by decide +kernel
theorem dX0_advance_63 : decode cX0_advance 63 = .ok (.aload_n 0, 1) := by decide +kernel
theorem dX0_advance_64 : decode cX0_advance 64 = .ok (.getfield 50, 3) := by decide +kernel
theorem dX0_advance_67 : decode cX0_advance 67 = .ok (.aload_n 0, 1) := by decide +kernel
theorem dX0_advance_68 : decode cX0_advance 68 = .ok (.getfield 34, 3) := by decide +kernel
theorem dX0_advance_71 : decode cX0_advance 71 = .ok (.if_icmp .ge 12, 3) := by decide +kernel
theorem dX0_advance_74 : decode cX0_advance 74 = .ok (.aload_n 0, 1) := by decide +kernel
theorem dX0_advance_75 : decode cX0_advance 75 = .ok (.getfield 50, 3) := by decide +kernel
theorem dX0_advance_78 : decode cX0_advance 78 = .ok (.iconst 1, 1) := by decide +kernel
theorem dX0_advance_79 : decode cX0_advance 79 = .ok (.iadd, 1) := by decide +kernel
theorem dX0_advance_80 : decode cX0_advance 80 = .ok (.goto 7, 3) := by decide +kernel
theorem dX0_advance_83 : decode cX0_advance 83 = .ok (.aload_n 0, 1) := by decide +kernel
theorem dX0_advance_84 : decode cX0_advance 84 = .ok (.getfield 50, 3) := by decide +kernel
theorem dX0_advance_87 : decode cX0_advance 87 = .ok (.putfield 37, 3) := by decide +kernel
theorem dX0_advance_90 : decode cX0_advance 90 = .ok (.aload_n 0, 1) := by decide +kernel
theorem dX0_advance_91 : decode cX0_advance 91 = .ok (.getfield 43, 3) := by decide +kernel
theorem dX0_advance_94 : decode cX0_advance 94 = .ok (.iconst 1, 1) := by decide +kernel
theorem dX0_advance_95 : decode cX0_advance 95 = .ok (.if_icmp .eq 11, 3) := by decide +kernel
theorem dX0_advance_98 : decode cX0_advance 98 = .ok (.aload_n 0, 1) := by decide +kernel
theorem dX0_advance_99 : decode cX0_advance 99 = .ok (.getfield 43, 3) := by decide +kernel
theorem dX0_advance_102 : decode cX0_advance 102 = .ok (.iconst 2, 1) := by decide +kernel
theorem dX0_advance_103 : decode cX0_advance 103 = .ok (.if_icmp .ne 7, 3) := by decide +kernel
theorem dX0_advance_106 : decode cX0_advance 106 = .ok (.iconst 1, 1) := by decide +kernel
theorem dX0_advance_107 : decode cX0_advance 107 = .ok (.goto 4, 3) := by decide +kernel
theorem dX0_advance_110 : decode cX0_advance 110 = .ok (.iconst 0, 1) := by decide +kernel
theorem dX0_advance_111 : decode cX0_advance 111 = .ok (.istore_n 1, 1) := by decide +kernel
theorem dX0_advance_112 : decode cX0_advance 112 = .ok (.iload_n 1, 1) := by decide +kernel
theorem dX0_advance_113 : decode cX0_advance 113 = .ok (.ifCond .eq 45, 3) := by decide +kernel
theorem dX0_advance_116 : decode cX0_advance 116 = .ok (.aload_n 0, 1) := by decide +kernel
theorem dX0_advance_117 : decode cX0_advance 117 = .ok (.getfield 37, 3) := by decide +kernel
theorem dX0_advance_120 : decode cX0_advance 120 = .ok (.aload_n 0, 1) := by decide +kernel
theorem dX0_advance_121 : decode cX0_advance 121 = .ok (.getfield 34, 3) := by decide +kernel
theorem dX0_advance_124 : decode cX0_advance 124 = .ok (.if_icmp .ge 34, 3) := by decide +kernel
theorem dX0_advance_127 : decode cX0_advance 127 = .ok (.aload_n 0, 1) := by decide +kernel
theorem dX0_advance_128 : decode cX0_advance 128 = .ok (.aload_n 0, 1) := by decide +kernel
theorem dX0_advance_129 : decode cX0_advance 129 = .ok (.getfield 37, 3) := by decide +kernel
theorem dX0_advance_132 : decode cX0_advance 132 = .ok (.invokevirtual 104, 3) := by decide +kernel
theorem dX0_advance_135 : decode cX0_advance 135 = .ok (.invokestatic 115, 3) := by decide +kernel
theorem dX0_advance_138 : decode cX0_advance 138 = .ok (.aload_n 0, 1) := by decide +kernel
theorem dX0_advance_139 : decode cX0_advance 139 = .ok (.getfield 43, 3) := by decide +kernel
theorem dX0_advance_142 : decode cX0_advance 142 = .ok (.if_icmp .ne 16, 3) := by decide +kernel
theorem dX0_advance_145 : decode cX0_advance 145 = .ok (.aload_n 0, 1) := by decide +kernel
theorem dX0_advance_146 : decode cX0_advance 146 = .ok (.dup, 1) := by decide +kernel
theorem dX0_advance_147 : decode cX0_advance 147 = .ok (.getfield 37, 3) := by decide +kernel
theorem dX0_advance_150 : decode cX0_advance 150 = .ok (.iconst 1, 1) := by decide +kernel
theorem dX0_advance_151 : decode cX0_advance 151 = .ok (.iadd, 1) := by decide +kernel
theorem dX0_advance_152 : decode cX0_advance 152 = .ok (.putfield 37, 3) := by decide +kernel
theorem dX0_advance_155 : decode cX0_advance 155 = .ok (.goto (-43), 3) := by decide +kernel
theorem dX0_advance_158 : decode cX0_advance 158 = .ok (.return_, 1) := by decide +kernel
theorem dX0_kindOf_0 : decode cX0_kindOf 0 = .ok (.iload_n 0, 1) := by decide +kernel
theorem dX0_kindOf_1 : decode cX0_kindOf 1 = .ok (.bipush 97, 2) := by decide +kernel
theorem dX0_kindOf_3 : decode cX0_kindOf 3 = .ok (.if_icmp .lt 11, 3) := by decide +kernel
theorem dX0_kindOf_6 : decode cX0_kindOf 6 = .ok (.iload_n 0, 1) := by decide +kernel
theorem dX0_kindOf_7 : decode cX0_kindOf 7 = .ok (.bipush 122, 2) := by decide +kernel
theorem dX0_kindOf_9 : decode cX0_kindOf 9 = .ok (.if_icmp .gt 5, 3) := by decide +kernel
theorem dX0_kindOf_12 : decode cX0_kindOf 12 = .ok (.iconst 1, 1) := by decide +kernel
theorem dX0_kindOf_13 : decode cX0_kindOf 13 = .ok (.ireturn, 1) := by decide +kernel
theorem dX0_kindOf_14 : decode cX0_kindOf 14 = .ok (.iload_n 0, 1) := by decide +kernel
theorem dX0_kindOf_15 : decode cX0_kindOf 15 = .ok (.bipush 48, 2) := by decide +kernel
theorem dX0_kindOf_17 : decode cX0_kindOf 17 = .ok (.if_icmp .lt 11, 3) := by decide +kernel
theorem dX0_kindOf_20 : decode cX0_kindOf 20 = .ok (.iload_n 0, 1) := by decide +kernel
theorem dX0_kindOf_21 : decode cX0_kindOf 21 = .ok (.bipush 57, 2) := by decide +kernel
theorem dX0_kindOf_23 : decode cX0_kindOf 23 = .ok (.if_icmp .gt 5, 3) := by decide +kernel
theorem dX0_kindOf_26 : decode cX0_kindOf 26 = .ok (.iconst 2, 1) := by decide +kernel
theorem dX0_kindOf_27 : decode cX0_kindOf 27 = .ok (.ireturn, 1) := by decide +kernel
theorem dX0_kindOf_28 : decode cX0_kindOf 28 = .ok (.iload_n 0, 1) := by decide +kernel
theorem dX0_kindOf_29 : decode cX0_kindOf 29 = .ok (.lookupswitch 73 #[(-1, 67), (10, 71), (32, 71), (59, 69), (60, 69), (61, 69), (62, 69)], 67) := by decide +kernel
theorem dX0_kindOf_96 : decode cX0_kindOf 96 = .ok (.iconst 0, 1) := by decide +kernel
theorem dX0_kindOf_97 : decode cX0_kindOf 97 = .ok (.ireturn, 1) := by decide +kernel
theorem dX0_kindOf_98 : decode cX0_kindOf 98 = .ok (.iconst 3, 1) := by decide +kernel
theorem dX0_kindOf_99 : decode cX0_kindOf 99 = .ok (.ireturn, 1) := by decide +kernel
theorem dX0_kindOf_100 : decode cX0_kindOf 100 = .ok (.iconst 4, 1) := by decide +kernel
theorem dX0_kindOf_101 : decode cX0_kindOf 101 = .ok (.ireturn, 1) := by decide +kernel
theorem dX0_kindOf_102 : decode cX0_kindOf 102 = .ok (.iconst 5, 1) := by decide +kernel
theorem dX0_kindOf_103 : decode cX0_kindOf 103 = .ok (.ireturn, 1) := by decide +kernel
theorem dX0_byteAt_0 : decode cX0_byteAt 0 = .ok (.iload_n 1, 1) := by decide +kernel
theorem dX0_byteAt_1 : decode cX0_byteAt 1 = .ok (.ifCond .lt 27, 3) := by decide +kernel
theorem dX0_byteAt_4 : decode cX0_byteAt 4 = .ok (.iload_n 1, 1) := by decide +kernel
theorem dX0_byteAt_5 : decode cX0_byteAt 5 = .ok (.aload_n 0, 1) := by decide +kernel
theorem dX0_byteAt_6 : decode cX0_byteAt 6 = .ok (.getfield 34, 3) := by decide +kernel
theorem dX0_byteAt_9 : decode cX0_byteAt 9 = .ok (.if_icmp .ge 19, 3) := by decide +kernel
theorem dX0_byteAt_12 : decode cX0_byteAt 12 = .ok (.iload_n 1, 1) := by decide +kernel
theorem dX0_byteAt_13 : decode cX0_byteAt 13 = .ok (.sipush 600, 3) := by decide +kernel
theorem dX0_byteAt_16 : decode cX0_byteAt 16 = .ok (.if_icmp .ge 12, 3) := by decide +kernel
theorem dX0_byteAt_19 : decode cX0_byteAt 19 = .ok (.aload_n 0, 1) := by decide +kernel
theorem dX0_byteAt_20 : decode cX0_byteAt 20 = .ok (.getfield 9, 3) := by decide +kernel
theorem dX0_byteAt_23 : decode cX0_byteAt 23 = .ok (.iload_n 1, 1) := by decide +kernel
theorem dX0_byteAt_24 : decode cX0_byteAt 24 = .ok (.iaload, 1) := by decide +kernel
theorem dX0_byteAt_25 : decode cX0_byteAt 25 = .ok (.goto 4, 3) := by decide +kernel
theorem dX0_byteAt_28 : decode cX0_byteAt 28 = .ok (.iconst (-1), 1) := by decide +kernel
theorem dX0_byteAt_29 : decode cX0_byteAt 29 = .ok (.ireturn, 1) := by decide +kernel
theorem dX1_init_0 : decode cX1_init 0 = .ok (.aload_n 0, 1) := by decide +kernel
theorem dX1_init_1 : decode cX1_init 1 = .ok (.invokespecial 3, 3) := by decide +kernel
theorem dX1_init_4 : decode cX1_init 4 = .ok (.aload_n 0, 1) := by decide +kernel
theorem dX1_init_5 : decode cX1_init 5 = .ok (.bipush 12, 2) := by decide +kernel
theorem dX1_init_7 : decode cX1_init 7 = .ok (.newarray .int, 2) := by decide +kernel
theorem dX1_init_9 : decode cX1_init 9 = .ok (.putfield 9, 3) := by decide +kernel
theorem dX1_init_12 : decode cX1_init 12 = .ok (.aload_n 0, 1) := by decide +kernel
theorem dX1_init_13 : decode cX1_init 13 = .ok (.bipush 12, 2) := by decide +kernel
theorem dX1_init_15 : decode cX1_init 15 = .ok (.newarray .int, 2) := by decide +kernel
theorem dX1_init_17 : decode cX1_init 17 = .ok (.putfield 15, 3) := by decide +kernel
theorem dX1_init_20 : decode cX1_init 20 = .ok (.aload_n 0, 1) := by decide +kernel
theorem dX1_init_21 : decode cX1_init 21 = .ok (.bipush 36, 2) := by decide +kernel
theorem dX1_init_23 : decode cX1_init 23 = .ok (.newarray .int, 2) := by decide +kernel
theorem dX1_init_25 : decode cX1_init 25 = .ok (.putfield 18, 3) := by decide +kernel
theorem dX1_init_28 : decode cX1_init 28 = .ok (.aload_n 0, 1) := by decide +kernel
theorem dX1_init_29 : decode cX1_init 29 = .ok (.bipush 36, 2) := by decide +kernel
theorem dX1_init_31 : decode cX1_init 31 = .ok (.newarray .int, 2) := by decide +kernel
theorem dX1_init_33 : decode cX1_init 33 = .ok (.putfield 21, 3) := by decide +kernel
theorem dX1_init_36 : decode cX1_init 36 = .ok (.aload_n 0, 1) := by decide +kernel
theorem dX1_init_37 : decode cX1_init 37 = .ok (.bipush 36, 2) := by decide +kernel
theorem dX1_init_39 : decode cX1_init 39 = .ok (.newarray .int, 2) := by decide +kernel
theorem dX1_init_41 : decode cX1_init 41 = .ok (.putfield 24, 3) := by decide +kernel
theorem dX1_init_44 : decode cX1_init 44 = .ok (.aload_n 0, 1) := by decide +kernel
theorem dX1_init_45 : decode cX1_init 45 = .ok (.iconst 1, 1) := by decide +kernel
theorem dX1_init_46 : decode cX1_init 46 = .ok (.putfield 27, 3) := by decide +kernel
theorem dX1_init_49 : decode cX1_init 49 = .ok (.return_, 1) := by decide +kernel
theorem dX1_clearContract_0 : decode cX1_clearContract 0 = .ok (.aload_n 0, 1) := by decide +kernel
theorem dX1_clearContract_1 : decode cX1_clearContract 1 = .ok (.iconst 0, 1) := by decide +kernel
theorem dX1_clearContract_2 : decode cX1_clearContract 2 = .ok (.putfield 31, 3) := by decide +kernel
theorem dX1_clearContract_5 : decode cX1_clearContract 5 = .ok (.aload_n 0, 1) := by decide +kernel
theorem dX1_clearContract_6 : decode cX1_clearContract 6 = .ok (.iconst 1, 1) := by decide +kernel
theorem dX1_clearContract_7 : decode cX1_clearContract 7 = .ok (.putfield 27, 3) := by decide +kernel
theorem dX1_clearContract_10 : decode cX1_clearContract 10 = .ok (.aload_n 0, 1) := by decide +kernel
theorem dX1_clearContract_11 : decode cX1_clearContract 11 = .ok (.iconst 0, 1) := by decide +kernel
theorem dX1_clearContract_12 : decode cX1_clearContract 12 = .ok (.putfield 34, 3) := by decide +kernel
theorem dX1_clearContract_15 : decode cX1_clearContract 15 = .ok (.return_, 1) := by decide +kernel
theorem dX1_setWeeks_0 : decode cX1_setWeeks 0 = .ok (.aload_n 0, 1) := by decide +kernel
theorem dX1_setWeeks_1 : decode cX1_setWeeks 1 = .ok (.iload_n 1, 1) := by decide +kernel
theorem dX1_setWeeks_2 : decode cX1_setWeeks 2 = .ok (.putfield 27, 3) := by decide +kernel
theorem dX1_setWeeks_5 : decode cX1_setWeeks 5 = .ok (.return_, 1) := by decide +kernel
theorem dX1_setRent_0 : decode cX1_setRent 0 = .ok (.aload_n 0, 1) := by decide +kernel
theorem dX1_setRent_1 : decode cX1_setRent 1 = .ok (.iload_n 1, 1) := by decide +kernel
theorem dX1_setRent_2 : decode cX1_setRent 2 = .ok (.putfield 34, 3) := by decide +kernel
theorem dX1_setRent_5 : decode cX1_setRent 5 = .ok (.return_, 1) := by decide +kernel
theorem dX1_addPart_0 : decode cX1_addPart 0 = .ok (.aload_n 0, 1) := by decide +kernel
theorem dX1_addPart_1 : decode cX1_addPart 1 = .ok (.getfield 31, 3) := by decide +kernel
theorem dX1_addPart_4 : decode cX1_addPart 4 = .ok (.ifCond .lt 42, 3) := by decide +kernel
theorem dX1_addPart_7 : decode cX1_addPart 7 = .ok (.aload_n 0, 1) := by decide +kernel
theorem dX1_addPart_8 : decode cX1_addPart 8 = .ok (.getfield 31, 3) := by decide +kernel
theorem dX1_addPart_11 : decode cX1_addPart 11 = .ok (.bipush 12, 2) := by decide +kernel
theorem dX1_addPart_13 : decode cX1_addPart 13 = .ok (.if_icmp .ge 33, 3) := by decide +kernel
theorem dX1_addPart_16 : decode cX1_addPart 16 = .ok (.aload_n 0, 1) := by decide +kernel
theorem dX1_addPart_17 : decode cX1_addPart 17 = .ok (.getfield 9, 3) := by decide +kernel
theorem dX1_addPart_20 : decode cX1_addPart 20 = .ok (.aload_n 0, 1) := by decide +kernel
theorem dX1_addPart_21 : decode cX1_addPart 21 = .ok (.getfield 31, 3) := by decide +kernel
theorem dX1_addPart_24 : decode cX1_addPart 24 = .ok (.iload_n 1, 1) := by decide +kernel
theorem dX1_addPart_25 : decode cX1_addPart 25 = .ok (.iastore, 1) := by decide +kernel
theorem dX1_addPart_26 : decode cX1_addPart 26 = .ok (.aload_n 0, 1) := by decide +kernel
theorem dX1_addPart_27 : decode cX1_addPart 27 = .ok (.getfield 15, 3) := by decide +kernel
theorem dX1_addPart_30 : decode cX1_addPart 30 = .ok (.aload_n 0, 1) := by decide +kernel
theorem dX1_addPart_31 : decode cX1_addPart 31 = .ok (.getfield 31, 3) := by decide +kernel
theorem dX1_addPart_34 : decode cX1_addPart 34 = .ok (.iconst 0, 1) := by decide +kernel
theorem dX1_addPart_35 : decode cX1_addPart 35 = .ok (.iastore, 1) := by decide +kernel
theorem dX1_addPart_36 : decode cX1_addPart 36 = .ok (.aload_n 0, 1) := by decide +kernel
theorem dX1_addPart_37 : decode cX1_addPart 37 = .ok (.dup, 1) := by decide +kernel
theorem dX1_addPart_38 : decode cX1_addPart 38 = .ok (.getfield 31, 3) := by decide +kernel
theorem dX1_addPart_41 : decode cX1_addPart 41 = .ok (.iconst 1, 1) := by decide +kernel
theorem dX1_addPart_42 : decode cX1_addPart 42 = .ok (.iadd, 1) := by decide +kernel
theorem dX1_addPart_43 : decode cX1_addPart 43 = .ok (.putfield 31, 3) := by decide +kernel
theorem dX1_addPart_46 : decode cX1_addPart 46 = .ok (.return_, 1) := by decide +kernel
theorem dX1_addTest_0 : decode cX1_addTest 0 = .ok (.aload_n 0, 1) := by decide +kernel
theorem dX1_addTest_1 : decode cX1_addTest 1 = .ok (.getfield 31, 3) := by decide +kernel
theorem dX1_addTest_4 : decode cX1_addTest 4 = .ok (.iconst 1, 1) := by decide +kernel
theorem dX1_addTest_5 : decode cX1_addTest 5 = .ok (.isub, 1) := by decide +kernel
theorem dX1_addTest_6 : decode cX1_addTest 6 = .ok (.istore 4, 2) := by decide +kernel
theorem dX1_addTest_8 : decode cX1_addTest 8 = .ok (.iload 4, 2) := by decide +kernel
theorem dX1_addTest_10 : decode cX1_addTest 10 = .ok (.ifCond .lt 10, 3) := by decide +kernel
theorem dX1_addTest_13 : decode cX1_addTest 13 = .ok (.iload 4, 2) := by decide +kernel
theorem dX1_addTest_15 : decode cX1_addTest 15 = .ok (.bipush 12, 2) := by decide +kernel
theorem dX1_addTest_17 : decode cX1_addTest 17 = .ok (.if_icmp .lt 4, 3) := by decide +kernel
theorem dX1_addTest_20 : decode cX1_addTest 20 = .ok (.return_, 1) := by decide +kernel
theorem dX1_addTest_21 : decode cX1_addTest 21 = .ok (.aload_n 0, 1) := by decide +kernel
theorem dX1_addTest_22 : decode cX1_addTest 22 = .ok (.getfield 15, 3) := by decide +kernel
theorem dX1_addTest_25 : decode cX1_addTest 25 = .ok (.iload 4, 2) := by decide +kernel
theorem dX1_addTest_27 : decode cX1_addTest 27 = .ok (.iaload, 1) := by decide +kernel
theorem dX1_addTest_28 : decode cX1_addTest 28 = .ok (.istore 5, 2) := by decide +kernel
theorem dX1_addTest_30 : decode cX1_addTest 30 = .ok (.iload 5, 2) := by decide +kernel
theorem dX1_addTest_32 : decode cX1_addTest 32 = .ok (.ifCond .lt 9, 3) := by decide +kernel
theorem dX1_addTest_35 : decode cX1_addTest 35 = .ok (.iload 5, 2) := by decide +kernel
theorem dX1_addTest_37 : decode cX1_addTest 37 = .ok (.iconst 3, 1) := by decide +kernel
theorem dX1_addTest_38 : decode cX1_addTest 38 = .ok (.if_icmp .lt 4, 3) := by decide +kernel
theorem dX1_addTest_41 : decode cX1_addTest 41 = .ok (.return_, 1) := by decide +kernel
theorem dX1_addTest_42 : decode cX1_addTest 42 = .ok (.aload_n 0, 1) := by decide +kernel
theorem dX1_addTest_43 : decode cX1_addTest 43 = .ok (.getfield 18, 3) := by decide +kernel
theorem dX1_addTest_46 : decode cX1_addTest 46 = .ok (.iload 4, 2) := by decide +kernel
theorem dX1_addTest_48 : decode cX1_addTest 48 = .ok (.iconst 3, 1) := by decide +kernel
theorem dX1_addTest_49 : decode cX1_addTest 49 = .ok (.imul, 1) := by decide +kernel
theorem dX1_addTest_50 : decode cX1_addTest 50 = .ok (.iload 5, 2) := by decide +kernel
theorem dX1_addTest_52 : decode cX1_addTest 52 = .ok (.iadd, 1) := by decide +kernel
theorem dX1_addTest_53 : decode cX1_addTest 53 = .ok (.iload_n 1, 1) := by decide +kernel
theorem dX1_addTest_54 : decode cX1_addTest 54 = .ok (.iastore, 1) := by decide +kernel
theorem dX1_addTest_55 : decode cX1_addTest 55 = .ok (.aload_n 0, 1) := by decide +kernel
theorem dX1_addTest_56 : decode cX1_addTest 56 = .ok (.getfield 21, 3) := by decide +kernel
theorem dX1_addTest_59 : decode cX1_addTest 59 = .ok (.iload 4, 2) := by decide +kernel
theorem dX1_addTest_61 : decode cX1_addTest 61 = .ok (.iconst 3, 1) := by decide +kernel
theorem dX1_addTest_62 : decode cX1_addTest 62 = .ok (.imul, 1) := by decide +kernel
theorem dX1_addTest_63 : decode cX1_addTest 63 = .ok (.iload 5, 2) := by decide +kernel
theorem dX1_addTest_65 : decode cX1_addTest 65 = .ok (.iadd, 1) := by decide +kernel
theorem dX1_addTest_66 : decode cX1_addTest 66 = .ok (.iload_n 2, 1) := by decide +kernel
theorem dX1_addTest_67 : decode cX1_addTest 67 = .ok (.iastore, 1) := by decide +kernel
theorem dX1_addTest_68 : decode cX1_addTest 68 = .ok (.aload_n 0, 1) := by decide +kernel
theorem dX1_addTest_69 : decode cX1_addTest 69 = .ok (.getfield 24, 3) := by decide +kernel
theorem dX1_addTest_72 : decode cX1_addTest 72 = .ok (.iload 4, 2) := by decide +kernel
theorem dX1_addTest_74 : decode cX1_addTest 74 = .ok (.iconst 3, 1) := by decide +kernel
theorem dX1_addTest_75 : decode cX1_addTest 75 = .ok (.imul, 1) := by decide +kernel
theorem dX1_addTest_76 : decode cX1_addTest 76 = .ok (.iload 5, 2) := by decide +kernel
theorem dX1_addTest_78 : decode cX1_addTest 78 = .ok (.iadd, 1) := by decide +kernel
theorem dX1_addTest_79 : decode cX1_addTest 79 = .ok (.iload_n 3, 1) := by decide +kernel
theorem dX1_addTest_80 : decode cX1_addTest 80 = .ok (.iastore, 1) := by decide +kernel
theorem dX1_addTest_81 : decode cX1_addTest 81 = .ok (.aload_n 0, 1) := by decide +kernel
theorem dX1_addTest_82 : decode cX1_addTest 82 = .ok (.getfield 15, 3) := by decide +kernel
theorem dX1_addTest_85 : decode cX1_addTest 85 = .ok (.iload 4, 2) := by decide +kernel
theorem dX1_addTest_87 : decode cX1_addTest 87 = .ok (.dup2, 1) := by decide +kernel
theorem dX1_addTest_88 : decode cX1_addTest 88 = .ok (.iaload, 1) := by decide +kernel
theorem dX1_addTest_89 : decode cX1_addTest 89 = .ok (.iconst 1, 1) := by decide +kernel
theorem dX1_addTest_90 : decode cX1_addTest 90 = .ok (.iadd, 1) := by decide +kernel
theorem dX1_addTest_91 : decode cX1_addTest 91 = .ok (.iastore, 1) := by decide +kernel
theorem dX1_addTest_92 : decode cX1_addTest 92 = .ok (.return_, 1) := by decide +kernel
set_option maxRecDepth 20000 in
theorem ggX1_passWeek_X1_shareFor : GoodIn wsX1_passWeek wsX1_shareFor := goodIn_r _ [15, 16, 17, 18, 19, 20, 14, 21, 22, 23, 24, 25, 26, 27, 28, 29, 30, 31, 32, 33, 1, 34, 35, 36, 37, 38, 39, 40, 41, 42, 43, 44, 45] (by decide +kernel) (by decide +kernel)
set_option maxRecDepth 20000 in
theorem gX1_passWeek_X1_shareFor : GoodIn wsX1_passWeek (wsV RX1 46 RX1 yX1_shareFor wsX1_shareFor) := goodIn_app (goodIn_of _ (by decide +kernel)) ggX1_passWeek_X1_shareFor
theorem dX1_passWeek_0 : decode cX1_passWeek 0 = .ok (.aload_n 0, 1) := by decide +kernel
theorem dX1_passWeek_1 : decode cX1_passWeek 1 = .ok (.getfield 37, 3) := by decide +kernel
theorem dX1_passWeek_4 : decode cX1_passWeek 4 = .ok (.aload_n 0, 1) := by decide +kernel
theorem dX1_passWeek_5 : decode cX1_passWeek 5 = .ok (.getfield 27, 3) := by decide +kernel
theorem dX1_passWeek_8 : decode cX1_passWeek 8 = .ok (.if_icmp .lt 5, 3) := by decide +kernel
theorem dX1_passWeek_11 : decode cX1_passWeek 11 = .ok (.iconst (-1), 1) := by decide +kernel
theorem dX1_passWeek_12 : decode cX1_passWeek 12 = .ok (.ireturn, 1) := by decide +kernel
theorem dX1_passWeek_13 : decode cX1_passWeek 13 = .ok (.aload_n 0, 1) := by decide +kernel
theorem dX1_passWeek_14 : decode cX1_passWeek 14 = .ok (.dup, 1) := by decide +kernel
theorem dX1_passWeek_15 : decode cX1_passWeek 15 = .ok (.getfield 37, 3) := by decide +kernel
theorem dX1_passWeek_18 : decode cX1_passWeek 18 = .ok (.iconst 1, 1) := by decide +kernel
theorem dX1_passWeek_19 : decode cX1_passWeek 19 = .ok (.iadd, 1) := by decide +kernel
theorem dX1_passWeek_20 : decode cX1_passWeek 20 = .ok (.putfield 37, 3) := by decide +kernel
theorem dX1_passWeek_23 : decode cX1_passWeek 23 = .ok (.iload_n 2, 1) := by decide +kernel
theorem dX1_passWeek_24 : decode cX1_passWeek 24 = .ok (.aload_n 0, 1) := by decide +kernel
theorem dX1_passWeek_25 : decode cX1_passWeek 25 = .ok (.getfield 34, 3) := by decide +kernel
theorem dX1_passWeek_28 : decode cX1_passWeek 28 = .ok (.iload_n 2, 1) := by decide +kernel
theorem dX1_passWeek_29 : decode cX1_passWeek 29 = .ok (.invokestatic 40, 3) := by decide +kernel
theorem dX1_passWeek_32 : decode cX1_passWeek 32 = .ok (.isub, 1) := by decide +kernel
theorem dX1_passWeek_33 : decode cX1_passWeek 33 = .ok (.istore_n 3, 1) := by decide +kernel
theorem dX1_passWeek_34 : decode cX1_passWeek 34 = .ok (.iload_n 3, 1) := by decide +kernel
theorem dX1_passWeek_35 : decode cX1_passWeek 35 = .ok (.aload_n 0, 1) := by decide +kernel
theorem dX1_passWeek_36 : decode cX1_passWeek 36 = .ok (.iload_n 1, 1) := by decide +kernel
theorem dX1_passWeek_37 : decode cX1_passWeek 37 = .ok (.iload_n 2, 1) := by decide +kernel
theorem dX1_passWeek_38 : decode cX1_passWeek 38 = .ok (.invokevirtual 46, 3) := by decide +kernel
theorem dX1_passWeek_41 : decode cX1_passWeek 41 = .ok (.imul, 1) := by decide +kernel
theorem dX1_passWeek_42 : decode cX1_passWeek 42 = .ok (.bipush 100, 2) := by decide +kernel
theorem dX1_passWeek_44 : decode cX1_passWeek 44 = .ok (.idiv, 1) := by decide +kernel
theorem dX1_passWeek_45 : decode cX1_passWeek 45 = .ok (.istore 4, 2) := by decide +kernel
theorem dX1_passWeek_47 : decode cX1_passWeek 47 = .ok (.aload_n 0, 1) := by decide +kernel
theorem dX1_passWeek_48 : decode cX1_passWeek 48 = .ok (.dup, 1) := by decide +kernel
theorem dX1_passWeek_49 : decode cX1_passWeek 49 = .ok (.getfield 49, 3) := by decide +kernel
theorem dX1_passWeek_52 : decode cX1_passWeek 52 = .ok (.iload 4, 2) := by decide +kernel
theorem dX1_passWeek_54 : decode cX1_passWeek 54 = .ok (.iadd, 1) := by decide +kernel
theorem dX1_passWeek_55 : decode cX1_passWeek 55 = .ok (.putfield 49, 3) := by decide +kernel
theorem dX1_passWeek_58 : decode cX1_passWeek 58 = .ok (.aload_n 0, 1) := by decide +kernel
theorem dX1_passWeek_59 : decode cX1_passWeek 59 = .ok (.dup, 1) := by decide +kernel
theorem dX1_passWeek_60 : decode cX1_passWeek 60 = .ok (.getfield 52, 3) := by decide +kernel
theorem dX1_passWeek_63 : decode cX1_passWeek 63 = .ok (.iload_n 2, 1) := by decide +kernel
theorem dX1_passWeek_64 : decode cX1_passWeek 64 = .ok (.iload 4, 2) := by decide +kernel
theorem dX1_passWeek_66 : decode cX1_passWeek 66 = .ok (.isub, 1) := by decide +kernel
theorem dX1_passWeek_67 : decode cX1_passWeek 67 = .ok (.iadd, 1) := by decide +kernel
theorem dX1_passWeek_68 : decode cX1_passWeek 68 = .ok (.putfield 52, 3) := by decide +kernel
theorem dX1_passWeek_71 : decode cX1_passWeek 71 = .ok (.aload_n 0, 1) := by decide +kernel
theorem dX1_passWeek_72 : decode cX1_passWeek 72 = .ok (.dup, 1) := by decide +kernel
theorem dX1_passWeek_73 : decode cX1_passWeek 73 = .ok (.getfield 55, 3) := by decide +kernel
theorem dX1_passWeek_76 : decode cX1_passWeek 76 = .ok (.iload_n 1, 1) := by decide +kernel
theorem dX1_passWeek_77 : decode cX1_passWeek 77 = .ok (.iadd, 1) := by decide +kernel
theorem dX1_passWeek_78 : decode cX1_passWeek 78 = .ok (.putfield 55, 3) := by decide +kernel
theorem dX1_passWeek_81 : decode cX1_passWeek 81 = .ok (.iload 4, 2) := by decide +kernel
theorem dX1_passWeek_83 : decode cX1_passWeek 83 = .ok (.ireturn, 1) := by decide +kernel
set_option maxRecDepth 20000 in
theorem ggX1_shareFor_X1_allHold : GoodIn wsX1_shareFor wsX1_allHold := goodIn_r _ [7, 8, 9, 10, 11, 6, 12, 13, 14, 15, 16, 17, 18, 19, 20, 21, 22, 23, 24, 25, 26, 27, 28, 29, 30, 31, 32] (by decide +kernel) (by decide +kernel)
set_option maxRecDepth 20000 in
theorem gX1_shareFor_X1_allHold : GoodIn wsX1_shareFor (wsV RX1 58 RX1 yX1_allHold wsX1_allHold) := goodIn_app (goodIn_of _ (by decide +kernel)) ggX1_shareFor_X1_allHold
theorem dX1_shareFor_0 : decode cX1_shareFor 0 = .ok (.iconst 0, 1) := by decide +kernel
theorem dX1_shareFor_1 : decode cX1_shareFor 1 = .ok (.istore_n 3, 1) := by decide +kernel
theorem dX1_shareFor_2 : decode cX1_shareFor 2 = .ok (.iload_n 3, 1) := by decide +kernel
theorem dX1_shareFor_3 : decode cX1_shareFor 3 = .ok (.aload_n 0, 1) := by decide +kernel
theorem dX1_shareFor_4 : decode cX1_shareFor 4 = .ok (.getfield 31, 3) := by decide +kernel
theorem dX1_shareFor_7 : decode cX1_shareFor 7 = .ok (.if_icmp .ge 32, 3) := by decide +kernel
theorem dX1_shareFor_10 : decode cX1_shareFor 10 = .ok (.iload_n 3, 1) := by decide +kernel
theorem dX1_shareFor_11 : decode cX1_shareFor 11 = .ok (.bipush 12, 2) := by decide +kernel
theorem dX1_shareFor_13 : decode cX1_shareFor 13 = .ok (.if_icmp .ge 26, 3) := by decide +kernel
theorem dX1_shareFor_16 : decode cX1_shareFor 16 = .ok (.aload_n 0, 1) := by decide +kernel
theorem dX1_shareFor_17 : decode cX1_shareFor 17 = .ok (.iload_n 3, 1) := by decide +kernel
theorem dX1_shareFor_18 : decode cX1_shareFor 18 = .ok (.iload_n 1, 1) := by decide +kernel
theorem dX1_shareFor_19 : decode cX1_shareFor 19 = .ok (.iload_n 2, 1) := by decide +kernel
theorem dX1_shareFor_20 : decode cX1_shareFor 20 = .ok (.invokevirtual 58, 3) := by decide +kernel
theorem dX1_shareFor_23 : decode cX1_shareFor 23 = .ok (.ifCond .eq 10, 3) := by decide +kernel
theorem dX1_shareFor_26 : decode cX1_shareFor 26 = .ok (.aload_n 0, 1) := by decide +kernel
theorem dX1_shareFor_27 : decode cX1_shareFor 27 = .ok (.getfield 9, 3) := by decide +kernel
theorem dX1_shareFor_30 : decode cX1_shareFor 30 = .ok (.iload_n 3, 1) := by decide +kernel
theorem dX1_shareFor_31 : decode cX1_shareFor 31 = .ok (.iaload, 1) := by decide +kernel
theorem dX1_shareFor_32 : decode cX1_shareFor 32 = .ok (.ireturn, 1) := by decide +kernel
theorem dX1_shareFor_33 : decode cX1_shareFor 33 = .ok (.iinc 3 1, 3) := by decide +kernel
theorem dX1_shareFor_36 : decode cX1_shareFor 36 = .ok (.goto (-34), 3) := by decide +kernel
theorem dX1_shareFor_39 : decode cX1_shareFor 39 = .ok (.bipush 50, 2) := by decide +kernel
theorem dX1_shareFor_41 : decode cX1_shareFor 41 = .ok (.ireturn, 1) := by decide +kernel
set_option maxRecDepth 20000 in
theorem ggX1_allHold_X1_holds : GoodIn wsX1_allHold wsX1_holds := goodIn_r _ [6, 7, 8, 9, 10, 11, 12, 5, 13, 14, 15, 16, 17, 18, 19, 20, 21, 22, 23, 24, 25, 26] (by decide +kernel) (by decide +kernel)
set_option maxRecDepth 20000 in
theorem gX1_allHold_X1_holds : GoodIn wsX1_allHold (wsV RX1 62 RX1 yX1_holds wsX1_holds) := goodIn_app (goodIn_of _ (by decide +kernel)) ggX1_allHold_X1_holds
theorem dX1_allHold_0 : decode cX1_allHold 0 = .ok (.iload_n 1, 1) := by decide +kernel
theorem dX1_allHold_1 : decode cX1_allHold 1 = .ok (.ifCond .lt 9, 3) := by decide +kernel
theorem dX1_allHold_4 : decode cX1_allHold 4 = .ok (.iload_n 1, 1) := by decide +kernel
theorem dX1_allHold_5 : decode cX1_allHold 5 = .ok (.bipush 12, 2) := by decide +kernel
theorem dX1_allHold_7 : decode cX1_allHold 7 = .ok (.if_icmp .lt 5, 3) := by decide +kernel
theorem dX1_allHold_10 : decode cX1_allHold 10 = .ok (.iconst 0, 1) := by decide +kernel
theorem dX1_allHold_11 : decode cX1_allHold 11 = .ok (.ireturn, 1) := by decide +kernel
theorem dX1_allHold_12 : decode cX1_allHold 12 = .ok (.iconst 0, 1) := by decide +kernel
theorem dX1_allHold_13 : decode cX1_allHold 13 = .ok (.istore 4, 2) := by decide +kernel
theorem dX1_allHold_15 : decode cX1_allHold 15 = .ok (.iload 4, 2) := by decide +kernel
theorem dX1_allHold_17 : decode cX1_allHold 17 = .ok (.aload_n 0, 1) := by decide +kernel
theorem dX1_allHold_18 : decode cX1_allHold 18 = .ok (.getfield 15, 3) := by decide +kernel
theorem dX1_allHold_21 : decode cX1_allHold 21 = .ok (.iload_n 1, 1) := by decide +kernel
theorem dX1_allHold_22 : decode cX1_allHold 22 = .ok (.iaload, 1) := by decide +kernel
theorem dX1_allHold_23 : decode cX1_allHold 23 = .ok (.if_icmp .ge 32, 3) := by decide +kernel
theorem dX1_allHold_26 : decode cX1_allHold 26 = .ok (.iload 4, 2) := by decide +kernel
theorem dX1_allHold_28 : decode cX1_allHold 28 = .ok (.iconst 3, 1) := by decide +kernel
theorem dX1_allHold_29 : decode cX1_allHold 29 = .ok (.if_icmp .ge 26, 3) := by decide +kernel
theorem dX1_allHold_32 : decode cX1_allHold 32 = .ok (.aload_n 0, 1) := by decide +kernel
theorem dX1_allHold_33 : decode cX1_allHold 33 = .ok (.iload_n 1, 1) := by decide +kernel
theorem dX1_allHold_34 : decode cX1_allHold 34 = .ok (.iconst 3, 1) := by decide +kernel
theorem dX1_allHold_35 : decode cX1_allHold 35 = .ok (.imul, 1) := by decide +kernel
theorem dX1_allHold_36 : decode cX1_allHold 36 = .ok (.iload 4, 2) := by decide +kernel
theorem dX1_allHold_38 : decode cX1_allHold 38 = .ok (.iadd, 1) := by decide +kernel
theorem dX1_allHold_39 : decode cX1_allHold 39 = .ok (.iload_n 2, 1) := by decide +kernel
theorem dX1_allHold_40 : decode cX1_allHold 40 = .ok (.iload_n 3, 1) := by decide +kernel
theorem dX1_allHold_41 : decode cX1_allHold 41 = .ok (.invokevirtual 62, 3) := by decide +kernel
theorem dX1_allHold_44 : decode cX1_allHold 44 = .ok (.ifCond .ne 5, 3) := by decide +kernel
theorem dX1_allHold_47 : decode cX1_allHold 47 = .ok (.iconst 0, 1) := by decide +kernel
theorem dX1_allHold_48 : decode cX1_allHold 48 = .ok (.ireturn, 1) := by decide +kernel
theorem dX1_allHold_49 : decode cX1_allHold 49 = .ok (.iinc 4 1, 3) := by decide +kernel
theorem dX1_allHold_52 : decode cX1_allHold 52 = .ok (.goto (-37), 3) := by decide +kernel
theorem dX1_allHold_55 : decode cX1_allHold 55 = .ok (.iconst 1, 1) := by decide +kernel
theorem dX1_allHold_56 : decode cX1_allHold 56 = .ok (.ireturn, 1) := by decide +kernel
set_option maxRecDepth 20000 in
theorem ggX1_holds_X1_valueOf : GoodIn wsX1_holds wsX1_valueOf := goodIn_r _ [8, 9, 10, 11, 12, 13, 14, 15, 16, 17, 18, 19, 20, 21] (by decide +kernel) (by decide +kernel)
set_option maxRecDepth 20000 in
theorem gX1_holds_X1_valueOf : GoodIn wsX1_holds (wsV RX1 65 RX1 yX1_valueOf wsX1_valueOf) := goodIn_app (goodIn_of _ (by decide +kernel)) ggX1_holds_X1_valueOf
theorem dX1_holds_0 : decode cX1_holds 0 = .ok (.iload_n 1, 1) := by decide +kernel
theorem dX1_holds_1 : decode cX1_holds 1 = .ok (.ifCond .lt 9, 3) := by decide +kernel
theorem dX1_holds_4 : decode cX1_holds 4 = .ok (.iload_n 1, 1) := by decide +kernel
theorem dX1_holds_5 : decode cX1_holds 5 = .ok (.bipush 36, 2) := by decide +kernel
theorem dX1_holds_7 : decode cX1_holds 7 = .ok (.if_icmp .lt 5, 3) := by decide +kernel
theorem dX1_holds_10 : decode cX1_holds 10 = .ok (.iconst 0, 1) := by decide +kernel
theorem dX1_holds_11 : decode cX1_holds 11 = .ok (.ireturn, 1) := by decide +kernel
theorem dX1_holds_12 : decode cX1_holds 12 = .ok (.aload_n 0, 1) := by decide +kernel
theorem dX1_holds_13 : decode cX1_holds 13 = .ok (.aload_n 0, 1) := by decide +kernel
theorem dX1_holds_14 : decode cX1_holds 14 = .ok (.getfield 18, 3) := by decide +kernel
theorem dX1_holds_17 : decode cX1_holds 17 = .ok (.iload_n 1, 1) := by decide +kernel
theorem dX1_holds_18 : decode cX1_holds 18 = .ok (.iaload, 1) := by decide +kernel
theorem dX1_holds_19 : decode cX1_holds 19 = .ok (.iload_n 2, 1) := by decide +kernel
theorem dX1_holds_20 : decode cX1_holds 20 = .ok (.iload_n 3, 1) := by decide +kernel
theorem dX1_holds_21 : decode cX1_holds 21 = .ok (.invokevirtual 65, 3) := by decide +kernel
theorem dX1_holds_24 : decode cX1_holds 24 = .ok (.istore 4, 2) := by decide +kernel
theorem dX1_holds_26 : decode cX1_holds 26 = .ok (.aload_n 0, 1) := by decide +kernel
theorem dX1_holds_27 : decode cX1_holds 27 = .ok (.getfield 21, 3) := by decide +kernel
theorem dX1_holds_30 : decode cX1_holds 30 = .ok (.iload_n 1, 1) := by decide +kernel
theorem dX1_holds_31 : decode cX1_holds 31 = .ok (.iaload, 1) := by decide +kernel
theorem dX1_holds_32 : decode cX1_holds 32 = .ok (.lookupswitch 62 #[(60, 28), (62, 45)], 28) := by decide +kernel
theorem dX1_holds_60 : decode cX1_holds 60 = .ok (.iload 4, 2) := by decide +kernel
theorem dX1_holds_62 : decode cX1_holds 62 = .ok (.aload_n 0, 1) := by decide +kernel
theorem dX1_holds_63 : decode cX1_holds 63 = .ok (.getfield 24, 3) := by decide +kernel
theorem dX1_holds_66 : decode cX1_holds 66 = .ok (.iload_n 1, 1) := by decide +kernel
theorem dX1_holds_67 : decode cX1_holds 67 = .ok (.iaload, 1) := by decide +kernel
theorem dX1_holds_68 : decode cX1_holds 68 = .ok (.if_icmp .ge 7, 3) := by decide +kernel
theorem dX1_holds_71 : decode cX1_holds 71 = .ok (.iconst 1, 1) := by decide +kernel
theorem dX1_holds_72 : decode cX1_holds 72 = .ok (.goto 4, 3) := by decide +kernel
theorem dX1_holds_75 : decode cX1_holds 75 = .ok (.iconst 0, 1) := by decide +kernel
theorem dX1_holds_76 : decode cX1_holds 76 = .ok (.ireturn, 1) := by decide +kernel
theorem dX1_holds_77 : decode cX1_holds 77 = .ok (.iload 4, 2) := by decide +kernel
theorem dX1_holds_79 : decode cX1_holds 79 = .ok (.aload_n 0, 1) := by decide +kernel
theorem dX1_holds_80 : decode cX1_holds 80 = .ok (.getfield 24, 3) := by decide +kernel
theorem dX1_holds_83 : decode cX1_holds 83 = .ok (.iload_n 1, 1) := by decide +kernel
theorem dX1_holds_84 : decode cX1_holds 84 = .ok (.iaload, 1) := by decide +kernel
theorem dX1_holds_85 : decode cX1_holds 85 = .ok (.if_icmp .le 7, 3) := by decide +kernel
theorem dX1_holds_88 : decode cX1_holds 88 = .ok (.iconst 1, 1) := by decide +kernel
theorem dX1_holds_89 : decode cX1_holds 89 = .ok (.goto 4, 3) := by decide +kernel
theorem dX1_holds_92 : decode cX1_holds 92 = .ok (.iconst 0, 1) := by decide +kernel
theorem dX1_holds_93 : decode cX1_holds 93 = .ok (.ireturn, 1) := by decide +kernel
theorem dX1_holds_94 : decode cX1_holds 94 = .ok (.iload 4, 2) := by decide +kernel
theorem dX1_holds_96 : decode cX1_holds 96 = .ok (.aload_n 0, 1) := by decide +kernel
theorem dX1_holds_97 : decode cX1_holds 97 = .ok (.getfield 24, 3) := by decide +kernel
theorem dX1_holds_100 : decode cX1_holds 100 = .ok (.iload_n 1, 1) := by decide +kernel
theorem dX1_holds_101 : decode cX1_holds 101 = .ok (.iaload, 1) := by decide +kernel
theorem dX1_holds_102 : decode cX1_holds 102 = .ok (.if_icmp .ne 7, 3) := by decide +kernel
theorem dX1_holds_105 : decode cX1_holds 105 = .ok (.iconst 1, 1) := by decide +kernel
theorem dX1_holds_106 : decode cX1_holds 106 = .ok (.goto 4, 3) := by decide +kernel
theorem dX1_holds_109 : decode cX1_holds 109 = .ok (.iconst 0, 1) := by decide +kernel
theorem dX1_holds_110 : decode cX1_holds 110 = .ok (.ireturn, 1) := by decide +kernel
theorem dX1_valueOf_0 : decode cX1_valueOf 0 = .ok (.iload_n 1, 1) := by decide +kernel
theorem dX1_valueOf_1 : decode cX1_valueOf 1 = .ok (.lookupswitch 34 #[(0, 27), (1, 32)], 27) := by decide +kernel
theorem dX1_valueOf_28 : decode cX1_valueOf 28 = .ok (.aload_n 0, 1) := by decide +kernel
theorem dX1_valueOf_29 : decode cX1_valueOf 29 = .ok (.getfield 37, 3) := by decide +kernel
theorem dX1_valueOf_32 : decode cX1_valueOf 32 = .ok (.ireturn, 1) := by decide +kernel
theorem dX1_valueOf_33 : decode cX1_valueOf 33 = .ok (.iload_n 2, 1) := by decide +kernel
theorem dX1_valueOf_34 : decode cX1_valueOf 34 = .ok (.ireturn, 1) := by decide +kernel
theorem dX1_valueOf_35 : decode cX1_valueOf 35 = .ok (.iload_n 3, 1) := by decide +kernel
end
section
theorem dX1_valueOf_36 : decode cX1_valueOf 36 = .ok (.ireturn, 1) := by decide +kernel
theorem dX1_tell_0 : decode cX1_tell 0 = .ok (.iload_n 1, 1) := by decide +kernel
theorem dX1_tell_1 : decode cX1_tell 1 = .ok (.tableswitch 69 0 5 #[39, 44, 49, 54, 59, 64], 39) := by decide +kernel
theorem dX1_tell_40 : decode cX1_tell 40 = .ok (.aload_n 0, 1) := by decide +kernel
theorem dX1_tell_41 : decode cX1_tell 41 = .ok (.getfield 27, 3) := by decide +kernel
theorem dX1_tell_44 : decode cX1_tell 44 = .ok (.ireturn, 1) := by decide +kernel
theorem dX1_tell_45 : decode cX1_tell 45 = .ok (.aload_n 0, 1) := by decide +kernel
theorem dX1_tell_46 : decode cX1_tell 46 = .ok (.getfield 37, 3) := by decide +kernel
theorem dX1_tell_49 : decode cX1_tell 49 = .ok (.ireturn, 1) := by decide +kernel
theorem dX1_tell_50 : decode cX1_tell 50 = .ok (.aload_n 0, 1) := by decide +kernel
theorem dX1_tell_51 : decode cX1_tell 51 = .ok (.getfield 49, 3) := by decide +kernel
theorem dX1_tell_54 : decode cX1_tell 54 = .ok (.ireturn, 1) := by decide +kernel
theorem dX1_tell_55 : decode cX1_tell 55 = .ok (.aload_n 0, 1) := by decide +kernel
theorem dX1_tell_56 : decode cX1_tell 56 = .ok (.getfield 52, 3) := by decide +kernel
theorem dX1_tell_59 : decode cX1_tell 59 = .ok (.ireturn, 1) := by decide +kernel
theorem dX1_tell_60 : decode cX1_tell 60 = .ok (.aload_n 0, 1) := by decide +kernel
theorem dX1_tell_61 : decode cX1_tell 61 = .ok (.getfield 55, 3) := by decide +kernel
theorem dX1_tell_64 : decode cX1_tell 64 = .ok (.ireturn, 1) := by decide +kernel
theorem dX1_tell_65 : decode cX1_tell 65 = .ok (.aload_n 0, 1) := by decide +kernel
theorem dX1_tell_66 : decode cX1_tell 66 = .ok (.getfield 34, 3) := by decide +kernel
theorem dX1_tell_69 : decode cX1_tell 69 = .ok (.ireturn, 1) := by decide +kernel
theorem dX1_tell_70 : decode cX1_tell 70 = .ok (.iconst (-1), 1) := by decide +kernel
theorem dX1_tell_71 : decode cX1_tell 71 = .ok (.ireturn, 1) := by decide +kernel
theorem dX2_init_0 : decode cX2_init 0 = .ok (.aload_n 0, 1) := by decide +kernel
theorem dX2_init_1 : decode cX2_init 1 = .ok (.invokespecial 3, 3) := by decide +kernel
theorem dX2_init_4 : decode cX2_init 4 = .ok (.aload_n 0, 1) := by decide +kernel
theorem dX2_init_5 : decode cX2_init 5 = .ok (.bipush 6, 2) := by decide +kernel
theorem dX2_init_7 : decode cX2_init 7 = .ok (.newarray .int, 2) := by decide +kernel
theorem dX2_init_9 : decode cX2_init 9 = .ok (.putfield 9, 3) := by decide +kernel
theorem dX2_init_12 : decode cX2_init 12 = .ok (.aload_n 0, 1) := by decide +kernel
theorem dX2_init_13 : decode cX2_init 13 = .ok (.bipush 6, 2) := by decide +kernel
theorem dX2_init_15 : decode cX2_init 15 = .ok (.newarray .int, 2) := by decide +kernel
theorem dX2_init_17 : decode cX2_init 17 = .ok (.putfield 15, 3) := by decide +kernel
theorem dX2_init_20 : decode cX2_init 20 = .ok (.aload_n 0, 1) := by decide +kernel
theorem dX2_init_21 : decode cX2_init 21 = .ok (.bipush 72, 2) := by decide +kernel
theorem dX2_init_23 : decode cX2_init 23 = .ok (.newarray .int, 2) := by decide +kernel
theorem dX2_init_25 : decode cX2_init 25 = .ok (.putfield 18, 3) := by decide +kernel
theorem dX2_init_28 : decode cX2_init 28 = .ok (.aload_n 0, 1) := by decide +kernel
theorem dX2_init_29 : decode cX2_init 29 = .ok (.bipush 72, 2) := by decide +kernel
theorem dX2_init_31 : decode cX2_init 31 = .ok (.newarray .int, 2) := by decide +kernel
theorem dX2_init_33 : decode cX2_init 33 = .ok (.putfield 21, 3) := by decide +kernel
theorem dX2_init_36 : decode cX2_init 36 = .ok (.aload_n 0, 1) := by decide +kernel
theorem dX2_init_37 : decode cX2_init 37 = .ok (.bipush 72, 2) := by decide +kernel
theorem dX2_init_39 : decode cX2_init 39 = .ok (.newarray .int, 2) := by decide +kernel
theorem dX2_init_41 : decode cX2_init 41 = .ok (.putfield 24, 3) := by decide +kernel
theorem dX2_init_44 : decode cX2_init 44 = .ok (.aload_n 0, 1) := by decide +kernel
theorem dX2_init_45 : decode cX2_init 45 = .ok (.bipush 72, 2) := by decide +kernel
theorem dX2_init_47 : decode cX2_init 47 = .ok (.newarray .int, 2) := by decide +kernel
theorem dX2_init_49 : decode cX2_init 49 = .ok (.putfield 27, 3) := by decide +kernel
theorem dX2_init_52 : decode cX2_init 52 = .ok (.aload_n 0, 1) := by decide +kernel
theorem dX2_init_53 : decode cX2_init 53 = .ok (.bipush 72, 2) := by decide +kernel
theorem dX2_init_55 : decode cX2_init 55 = .ok (.newarray .int, 2) := by decide +kernel
theorem dX2_init_57 : decode cX2_init 57 = .ok (.putfield 30, 3) := by decide +kernel
theorem dX2_init_60 : decode cX2_init 60 = .ok (.aload_n 0, 1) := by decide +kernel
theorem dX2_init_61 : decode cX2_init 61 = .ok (.bipush 72, 2) := by decide +kernel
theorem dX2_init_63 : decode cX2_init 63 = .ok (.newarray .int, 2) := by decide +kernel
theorem dX2_init_65 : decode cX2_init 65 = .ok (.putfield 33, 3) := by decide +kernel
theorem dX2_init_68 : decode cX2_init 68 = .ok (.aload_n 0, 1) := by decide +kernel
theorem dX2_init_69 : decode cX2_init 69 = .ok (.iconst 3, 1) := by decide +kernel
theorem dX2_init_70 : decode cX2_init 70 = .ok (.newarray .int, 2) := by decide +kernel
theorem dX2_init_72 : decode cX2_init 72 = .ok (.putfield 36, 3) := by decide +kernel
theorem dX2_init_75 : decode cX2_init 75 = .ok (.aload_n 0, 1) := by decide +kernel
theorem dX2_init_76 : decode cX2_init 76 = .ok (.aload_n 1, 1) := by decide +kernel
theorem dX2_init_77 : decode cX2_init 77 = .ok (.putfield 39, 3) := by decide +kernel
theorem dX2_init_80 : decode cX2_init 80 = .ok (.iconst 0, 1) := by decide +kernel
theorem dX2_init_81 : decode cX2_init 81 = .ok (.istore_n 2, 1) := by decide +kernel
theorem dX2_init_82 : decode cX2_init 82 = .ok (.iload_n 2, 1) := by decide +kernel
theorem dX2_init_83 : decode cX2_init 83 = .ok (.bipush 6, 2) := by decide +kernel
theorem dX2_init_85 : decode cX2_init 85 = .ok (.if_icmp .ge 16, 3) := by decide +kernel
theorem dX2_init_88 : decode cX2_init 88 = .ok (.aload_n 0, 1) := by decide +kernel
theorem dX2_init_89 : decode cX2_init 89 = .ok (.getfield 15, 3) := by decide +kernel
theorem dX2_init_92 : decode cX2_init 92 = .ok (.iload_n 2, 1) := by decide +kernel
theorem dX2_init_93 : decode cX2_init 93 = .ok (.iconst (-1), 1) := by decide +kernel
theorem dX2_init_94 : decode cX2_init 94 = .ok (.iastore, 1) := by decide +kernel
theorem dX2_init_95 : decode cX2_init 95 = .ok (.iinc 2 1, 3) := by decide +kernel
theorem dX2_init_98 : decode cX2_init 98 = .ok (.goto (-16), 3) := by decide +kernel
theorem dX2_init_101 : decode cX2_init 101 = .ok (.iconst 0, 1) := by decide +kernel
theorem dX2_init_102 : decode cX2_init 102 = .ok (.istore_n 2, 1) := by decide +kernel
theorem dX2_init_103 : decode cX2_init 103 = .ok (.iload_n 2, 1) := by decide +kernel
theorem dX2_init_104 : decode cX2_init 104 = .ok (.bipush 72, 2) := by decide +kernel
theorem dX2_init_106 : decode cX2_init 106 = .ok (.if_icmp .ge 37, 3) := by decide +kernel
theorem dX2_init_109 : decode cX2_init 109 = .ok (.aload_n 0, 1) := by decide +kernel
theorem dX2_init_110 : decode cX2_init 110 = .ok (.getfield 21, 3) := by decide +kernel
theorem dX2_init_113 : decode cX2_init 113 = .ok (.iload_n 2, 1) := by decide +kernel
theorem dX2_init_114 : decode cX2_init 114 = .ok (.iconst (-1), 1) := by decide +kernel
theorem dX2_init_115 : decode cX2_init 115 = .ok (.iastore, 1) := by decide +kernel
theorem dX2_init_116 : decode cX2_init 116 = .ok (.aload_n 0, 1) := by decide +kernel
theorem dX2_init_117 : decode cX2_init 117 = .ok (.getfield 27, 3) := by decide +kernel
theorem dX2_init_120 : decode cX2_init 120 = .ok (.iload_n 2, 1) := by decide +kernel
theorem dX2_init_121 : decode cX2_init 121 = .ok (.iconst (-1), 1) := by decide +kernel
theorem dX2_init_122 : decode cX2_init 122 = .ok (.iastore, 1) := by decide +kernel
theorem dX2_init_123 : decode cX2_init 123 = .ok (.aload_n 0, 1) := by decide +kernel
theorem dX2_init_124 : decode cX2_init 124 = .ok (.getfield 30, 3) := by decide +kernel
theorem dX2_init_127 : decode cX2_init 127 = .ok (.iload_n 2, 1) := by decide +kernel
theorem dX2_init_128 : decode cX2_init 128 = .ok (.iconst (-1), 1) := by decide +kernel
theorem dX2_init_129 : decode cX2_init 129 = .ok (.iastore, 1) := by decide +kernel
theorem dX2_init_130 : decode cX2_init 130 = .ok (.aload_n 0, 1) := by decide +kernel
theorem dX2_init_131 : decode cX2_init 131 = .ok (.getfield 33, 3) := by decide +kernel
theorem dX2_init_134 : decode cX2_init 134 = .ok (.iload_n 2, 1) := by decide +kernel
theorem dX2_init_135 : decode cX2_init 135 = .ok (.iconst (-1), 1) := by decide +kernel
theorem dX2_init_136 : decode cX2_init 136 = .ok (.iastore, 1) := by decide +kernel
theorem dX2_init_137 : decode cX2_init 137 = .ok (.iinc 2 1, 3) := by decide +kernel
theorem dX2_init_140 : decode cX2_init 140 = .ok (.goto (-37), 3) := by decide +kernel
theorem dX2_init_143 : decode cX2_init 143 = .ok (.return_, 1) := by decide +kernel
theorem dX2_today_0 : decode cX2_today 0 = .ok (.aload_n 0, 1) := by decide +kernel
theorem dX2_today_1 : decode cX2_today 1 = .ok (.getfield 43, 3) := by decide +kernel
theorem dX2_today_4 : decode cX2_today 4 = .ok (.ireturn, 1) := by decide +kernel
theorem dX2_gangs_0 : decode cX2_gangs 0 = .ok (.aload_n 0, 1) := by decide +kernel
theorem dX2_gangs_1 : decode cX2_gangs 1 = .ok (.getfield 47, 3) := by decide +kernel
theorem dX2_gangs_4 : decode cX2_gangs 4 = .ok (.ireturn, 1) := by decide +kernel
theorem dX2_finishedSquares_0 : decode cX2_finishedSquares 0 = .ok (.iconst 0, 1) := by decide +kernel
theorem dX2_finishedSquares_1 : decode cX2_finishedSquares 1 = .ok (.istore_n 1, 1) := by decide +kernel
theorem dX2_finishedSquares_2 : decode cX2_finishedSquares 2 = .ok (.iconst 0, 1) := by decide +kernel
theorem dX2_finishedSquares_3 : decode cX2_finishedSquares 3 = .ok (.istore_n 2, 1) := by decide +kernel
theorem dX2_finishedSquares_4 : decode cX2_finishedSquares 4 = .ok (.iload_n 2, 1) := by decide +kernel
theorem dX2_finishedSquares_5 : decode cX2_finishedSquares 5 = .ok (.bipush 72, 2) := by decide +kernel
theorem dX2_finishedSquares_7 : decode cX2_finishedSquares 7 = .ok (.if_icmp .ge 27, 3) := by decide +kernel
theorem dX2_finishedSquares_10 : decode cX2_finishedSquares 10 = .ok (.iload_n 1, 1) := by decide +kernel
theorem dX2_finishedSquares_11 : decode cX2_finishedSquares 11 = .ok (.aload_n 0, 1) := by decide +kernel
theorem dX2_finishedSquares_12 : decode cX2_finishedSquares 12 = .ok (.getfield 18, 3) := by decide +kernel
theorem dX2_finishedSquares_15 : decode cX2_finishedSquares 15 = .ok (.iload_n 2, 1) := by decide +kernel
theorem dX2_finishedSquares_16 : decode cX2_finishedSquares 16 = .ok (.iaload, 1) := by decide +kernel
theorem dX2_finishedSquares_17 : decode cX2_finishedSquares 17 = .ok (.iconst 2, 1) := by decide +kernel
theorem dX2_finishedSquares_18 : decode cX2_finishedSquares 18 = .ok (.if_icmp .ne 7, 3) := by decide +kernel
theorem dX2_finishedSquares_21 : decode cX2_finishedSquares 21 = .ok (.iconst 1, 1) := by decide +kernel
theorem dX2_finishedSquares_22 : decode cX2_finishedSquares 22 = .ok (.goto 4, 3) := by decide +kernel
theorem dX2_finishedSquares_25 : decode cX2_finishedSquares 25 = .ok (.iconst 0, 1) := by decide +kernel
theorem dX2_finishedSquares_26 : decode cX2_finishedSquares 26 = .ok (.iadd, 1) := by decide +kernel
theorem dX2_finishedSquares_27 : decode cX2_finishedSquares 27 = .ok (.istore_n 1, 1) := by decide +kernel
theorem dX2_finishedSquares_28 : decode cX2_finishedSquares 28 = .ok (.iinc 2 1, 3) := by decide +kernel
theorem dX2_finishedSquares_31 : decode cX2_finishedSquares 31 = .ok (.goto (-27), 3) := by decide +kernel
theorem dX2_finishedSquares_34 : decode cX2_finishedSquares 34 = .ok (.iload_n 1, 1) := by decide +kernel
theorem dX2_finishedSquares_35 : decode cX2_finishedSquares 35 = .ok (.ireturn, 1) := by decide +kernel
theorem dX2_hire_0 : decode cX2_hire 0 = .ok (.iload_n 1, 1) := by decide +kernel
theorem dX2_hire_1 : decode cX2_hire 1 = .ok (.iconst 1, 1) := by decide +kernel
theorem dX2_hire_2 : decode cX2_hire 2 = .ok (.if_icmp .lt 25, 3) := by decide +kernel
theorem dX2_hire_5 : decode cX2_hire 5 = .ok (.iload_n 1, 1) := by decide +kernel
theorem dX2_hire_6 : decode cX2_hire 6 = .ok (.bipush 20, 2) := by decide +kernel
theorem dX2_hire_8 : decode cX2_hire 8 = .ok (.if_icmp .gt 19, 3) := by decide +kernel
theorem dX2_hire_11 : decode cX2_hire 11 = .ok (.aload_n 0, 1) := by decide +kernel
theorem dX2_hire_12 : decode cX2_hire 12 = .ok (.getfield 47, 3) := by decide +kernel
theorem dX2_hire_15 : decode cX2_hire 15 = .ok (.ifCond .lt 12, 3) := by decide +kernel
theorem dX2_hire_18 : decode cX2_hire 18 = .ok (.aload_n 0, 1) := by decide +kernel
theorem dX2_hire_19 : decode cX2_hire 19 = .ok (.getfield 47, 3) := by decide +kernel
theorem dX2_hire_22 : decode cX2_hire 22 = .ok (.bipush 6, 2) := by decide +kernel
theorem dX2_hire_24 : decode cX2_hire 24 = .ok (.if_icmp .lt 5, 3) := by decide +kernel
theorem dX2_hire_27 : decode cX2_hire 27 = .ok (.iconst (-1), 1) := by decide +kernel
theorem dX2_hire_28 : decode cX2_hire 28 = .ok (.ireturn, 1) := by decide +kernel
theorem dX2_hire_29 : decode cX2_hire 29 = .ok (.aload_n 0, 1) := by decide +kernel
theorem dX2_hire_30 : decode cX2_hire 30 = .ok (.getfield 9, 3) := by decide +kernel
theorem dX2_hire_33 : decode cX2_hire 33 = .ok (.aload_n 0, 1) := by decide +kernel
theorem dX2_hire_34 : decode cX2_hire 34 = .ok (.getfield 47, 3) := by decide +kernel
theorem dX2_hire_37 : decode cX2_hire 37 = .ok (.iload_n 1, 1) := by decide +kernel
theorem dX2_hire_38 : decode cX2_hire 38 = .ok (.iastore, 1) := by decide +kernel
theorem dX2_hire_39 : decode cX2_hire 39 = .ok (.aload_n 0, 1) := by decide +kernel
theorem dX2_hire_40 : decode cX2_hire 40 = .ok (.dup, 1) := by decide +kernel
theorem dX2_hire_41 : decode cX2_hire 41 = .ok (.getfield 47, 3) := by decide +kernel
theorem dX2_hire_44 : decode cX2_hire 44 = .ok (.dup_x1, 1) := by decide +kernel
theorem dX2_hire_45 : decode cX2_hire 45 = .ok (.iconst 1, 1) := by decide +kernel
theorem dX2_hire_46 : decode cX2_hire 46 = .ok (.iadd, 1) := by decide +kernel
theorem dX2_hire_47 : decode cX2_hire 47 = .ok (.putfield 47, 3) := by decide +kernel
theorem dX2_hire_50 : decode cX2_hire 50 = .ok (.ireturn, 1) := by decide +kernel
theorem dX2_isGang_0 : decode cX2_isGang 0 = .ok (.iload_n 1, 1) := by decide +kernel
theorem dX2_isGang_1 : decode cX2_isGang 1 = .ok (.ifCond .lt 21, 3) := by decide +kernel
theorem dX2_isGang_4 : decode cX2_isGang 4 = .ok (.iload_n 1, 1) := by decide +kernel
theorem dX2_isGang_5 : decode cX2_isGang 5 = .ok (.aload_n 0, 1) := by decide +kernel
theorem dX2_isGang_6 : decode cX2_isGang 6 = .ok (.getfield 47, 3) := by decide +kernel
theorem dX2_isGang_9 : decode cX2_isGang 9 = .ok (.if_icmp .ge 13, 3) := by decide +kernel
theorem dX2_isGang_12 : decode cX2_isGang 12 = .ok (.iload_n 1, 1) := by decide +kernel
theorem dX2_isGang_13 : decode cX2_isGang 13 = .ok (.bipush 6, 2) := by decide +kernel
theorem dX2_isGang_15 : decode cX2_isGang 15 = .ok (.if_icmp .ge 7, 3) := by decide +kernel
theorem dX2_isGang_18 : decode cX2_isGang 18 = .ok (.iconst 1, 1) := by decide +kernel
theorem dX2_isGang_19 : decode cX2_isGang 19 = .ok (.goto 4, 3) := by decide +kernel
theorem dX2_isGang_22 : decode cX2_isGang 22 = .ok (.iconst 0, 1) := by decide +kernel
theorem dX2_isGang_23 : decode cX2_isGang 23 = .ok (.ireturn, 1) := by decide +kernel
set_option maxRecDepth 20000 in
theorem ggX2_firstCoatWork_X4_colouredIn : GoodIn wsX2_firstCoatWork wsX4_colouredIn := goodIn_r _ [6, 7, 8, 9, 10, 23, 24] (by decide +kernel) (by decide +kernel)
set_option maxRecDepth 20000 in
theorem gX2_firstCoatWork_X4_colouredIn : GoodIn wsX2_firstCoatWork (wsV RX2 50 RX4 yX4_colouredIn wsX4_colouredIn) := goodIn_app (goodIn_of _ (by decide +kernel)) ggX2_firstCoatWork_X4_colouredIn
theorem dX2_firstCoatWork_0 : decode cX2_firstCoatWork 0 = .ok (.iconst 3, 1) := by decide +kernel
theorem dX2_firstCoatWork_1 : decode cX2_firstCoatWork 1 = .ok (.aload_n 0, 1) := by decide +kernel
theorem dX2_firstCoatWork_2 : decode cX2_firstCoatWork 2 = .ok (.getfield 39, 3) := by decide +kernel
theorem dX2_firstCoatWork_5 : decode cX2_firstCoatWork 5 = .ok (.iload_n 1, 1) := by decide +kernel
theorem dX2_firstCoatWork_6 : decode cX2_firstCoatWork 6 = .ok (.invokevirtual 50, 3) := by decide +kernel
theorem dX2_firstCoatWork_9 : decode cX2_firstCoatWork 9 = .ok (.iadd, 1) := by decide +kernel
theorem dX2_firstCoatWork_10 : decode cX2_firstCoatWork 10 = .ok (.ireturn, 1) := by decide +kernel
set_option maxRecDepth 20000 in
theorem ggX2_beginCoat_X2_isGang : GoodIn wsX2_beginCoat wsX2_isGang := goodIn_r _ [15, 16, 31, 32, 33, 34, 35, 36, 37, 38, 39, 40, 41, 42] (by decide +kernel) (by decide +kernel)
set_option maxRecDepth 20000 in
theorem gX2_beginCoat_X2_isGang : GoodIn wsX2_beginCoat (wsV RX2 56 RX2 yX2_isGang wsX2_isGang) := goodIn_app (goodIn_of _ (by decide +kernel)) ggX2_beginCoat_X2_isGang
set_option maxRecDepth 20000 in
theorem ggX2_beginCoat_X5_isSquare : GoodIn wsX2_beginCoat wsX5_isSquare := goodIn_r _ [19] (by decide +kernel) (by decide +kernel)
set_option maxRecDepth 20000 in
theorem gX2_beginCoat_X5_isSquare_n60 : GoodIn wsX2_beginCoat (wsX5_isSquare) := ggX2_beginCoat_X5_isSquare
set_option maxRecDepth 20000 in
theorem ggX2_beginCoat_X2_firstCoatWork : GoodIn wsX2_beginCoat wsX2_firstCoatWork := goodIn_r _ [23, 24, 25, 26, 27, 28, 29, 30, 17, 18, 19, 31, 32, 33, 34, 35, 36, 37, 38, 39, 40, 41, 42, 43, 44] (by decide +kernel) (by decide +kernel)
set_option maxRecDepth 20000 in
theorem gX2_beginCoat_X2_firstCoatWork : GoodIn wsX2_beginCoat (wsV RX2 63 RX2 yX2_firstCoatWork wsX2_firstCoatWork) := goodIn_app (goodIn_of _ (by decide +kernel)) ggX2_beginCoat_X2_firstCoatWork
theorem dX2_beginCoat_0 : decode cX2_beginCoat 0 = .ok (.aload_n 0, 1) := by decide +kernel
theorem dX2_beginCoat_1 : decode cX2_beginCoat 1 = .ok (.iload_n 1, 1) := by decide +kernel
theorem dX2_beginCoat_2 : decode cX2_beginCoat 2 = .ok (.invokevirtual 56, 3) := by decide +kernel
theorem dX2_beginCoat_5 : decode cX2_beginCoat 5 = .ok (.ifCond .eq 10, 3) := by decide +kernel
theorem dX2_beginCoat_8 : decode cX2_beginCoat 8 = .ok (.iload_n 2, 1) := by decide +kernel
theorem dX2_beginCoat_9 : decode cX2_beginCoat 9 = .ok (.invokestatic 60, 3) := by decide +kernel
theorem dX2_beginCoat_12 : decode cX2_beginCoat 12 = .ok (.ifCond .ne 6, 3) := by decide +kernel
theorem dX2_beginCoat_15 : decode cX2_beginCoat 15 = .ok (.bipush (-2), 2) := by decide +kernel
theorem dX2_beginCoat_17 : decode cX2_beginCoat 17 = .ok (.ireturn, 1) := by decide +kernel
theorem dX2_beginCoat_18 : decode cX2_beginCoat 18 = .ok (.aload_n 0, 1) := by decide +kernel
theorem dX2_beginCoat_19 : decode cX2_beginCoat 19 = .ok (.getfield 15, 3) := by decide +kernel
theorem dX2_beginCoat_22 : decode cX2_beginCoat 22 = .ok (.iload_n 1, 1) := by decide +kernel
theorem dX2_beginCoat_23 : decode cX2_beginCoat 23 = .ok (.iaload, 1) := by decide +kernel
theorem dX2_beginCoat_24 : decode cX2_beginCoat 24 = .ok (.iconst (-1), 1) := by decide +kernel
theorem dX2_beginCoat_25 : decode cX2_beginCoat 25 = .ok (.if_icmp .eq 6, 3) := by decide +kernel
theorem dX2_beginCoat_28 : decode cX2_beginCoat 28 = .ok (.bipush (-3), 2) := by decide +kernel
theorem dX2_beginCoat_30 : decode cX2_beginCoat 30 = .ok (.ireturn, 1) := by decide +kernel
theorem dX2_beginCoat_31 : decode cX2_beginCoat 31 = .ok (.aload_n 0, 1) := by decide +kernel
theorem dX2_beginCoat_32 : decode cX2_beginCoat 32 = .ok (.getfield 18, 3) := by decide +kernel
theorem dX2_beginCoat_35 : decode cX2_beginCoat 35 = .ok (.iload_n 2, 1) := by decide +kernel
theorem dX2_beginCoat_36 : decode cX2_beginCoat 36 = .ok (.iaload, 1) := by decide +kernel
theorem dX2_beginCoat_37 : decode cX2_beginCoat 37 = .ok (.iconst 1, 1) := by decide +kernel
theorem dX2_beginCoat_38 : decode cX2_beginCoat 38 = .ok (.iadd, 1) := by decide +kernel
theorem dX2_beginCoat_39 : decode cX2_beginCoat 39 = .ok (.istore_n 3, 1) := by decide +kernel
theorem dX2_beginCoat_40 : decode cX2_beginCoat 40 = .ok (.iload_n 3, 1) := by decide +kernel
theorem dX2_beginCoat_41 : decode cX2_beginCoat 41 = .ok (.iconst 2, 1) := by decide +kernel
theorem dX2_beginCoat_42 : decode cX2_beginCoat 42 = .ok (.if_icmp .le 6, 3) := by decide +kernel
theorem dX2_beginCoat_45 : decode cX2_beginCoat 45 = .ok (.bipush (-4), 2) := by decide +kernel
theorem dX2_beginCoat_47 : decode cX2_beginCoat 47 = .ok (.ireturn, 1) := by decide +kernel
theorem dX2_beginCoat_48 : decode cX2_beginCoat 48 = .ok (.aload_n 0, 1) := by decide +kernel
theorem dX2_beginCoat_49 : decode cX2_beginCoat 49 = .ok (.getfield 21, 3) := by decide +kernel
theorem dX2_beginCoat_52 : decode cX2_beginCoat 52 = .ok (.iload_n 2, 1) := by decide +kernel
theorem dX2_beginCoat_53 : decode cX2_beginCoat 53 = .ok (.iaload, 1) := by decide +kernel
theorem dX2_beginCoat_54 : decode cX2_beginCoat 54 = .ok (.iconst (-1), 1) := by decide +kernel
theorem dX2_beginCoat_55 : decode cX2_beginCoat 55 = .ok (.if_icmp .eq 6, 3) := by decide +kernel
theorem dX2_beginCoat_58 : decode cX2_beginCoat 58 = .ok (.bipush (-5), 2) := by decide +kernel
theorem dX2_beginCoat_60 : decode cX2_beginCoat 60 = .ok (.ireturn, 1) := by decide +kernel
theorem dX2_beginCoat_61 : decode cX2_beginCoat 61 = .ok (.iload_n 3, 1) := by decide +kernel
theorem dX2_beginCoat_62 : decode cX2_beginCoat 62 = .ok (.iconst 2, 1) := by decide +kernel
theorem dX2_beginCoat_63 : decode cX2_beginCoat 63 = .ok (.if_icmp .ne 21, 3) := by decide +kernel
theorem dX2_beginCoat_66 : decode cX2_beginCoat 66 = .ok (.aload_n 0, 1) := by decide +kernel
theorem dX2_beginCoat_67 : decode cX2_beginCoat 67 = .ok (.getfield 43, 3) := by decide +kernel
theorem dX2_beginCoat_70 : decode cX2_beginCoat 70 = .ok (.aload_n 0, 1) := by decide +kernel
theorem dX2_beginCoat_71 : decode cX2_beginCoat 71 = .ok (.getfield 27, 3) := by decide +kernel
theorem dX2_beginCoat_74 : decode cX2_beginCoat 74 = .ok (.iload_n 2, 1) := by decide +kernel
theorem dX2_beginCoat_75 : decode cX2_beginCoat 75 = .ok (.iaload, 1) := by decide +kernel
theorem dX2_beginCoat_76 : decode cX2_beginCoat 76 = .ok (.isub, 1) := by decide +kernel
theorem dX2_beginCoat_77 : decode cX2_beginCoat 77 = .ok (.iconst 3, 1) := by decide +kernel
theorem dX2_beginCoat_78 : decode cX2_beginCoat 78 = .ok (.if_icmp .ge 6, 3) := by decide +kernel
theorem dX2_beginCoat_81 : decode cX2_beginCoat 81 = .ok (.bipush (-6), 2) := by decide +kernel
theorem dX2_beginCoat_83 : decode cX2_beginCoat 83 = .ok (.ireturn, 1) := by decide +kernel
theorem dX2_beginCoat_84 : decode cX2_beginCoat 84 = .ok (.iload_n 2, 1) := by decide +kernel
theorem dX2_beginCoat_85 : decode cX2_beginCoat 85 = .ok (.bipush 36, 2) := by decide +kernel
theorem dX2_beginCoat_87 : decode cX2_beginCoat 87 = .ok (.if_icmp .ge 19, 3) := by decide +kernel
theorem dX2_beginCoat_90 : decode cX2_beginCoat 90 = .ok (.aload_n 0, 1) := by decide +kernel
theorem dX2_beginCoat_91 : decode cX2_beginCoat 91 = .ok (.getfield 18, 3) := by decide +kernel
theorem dX2_beginCoat_94 : decode cX2_beginCoat 94 = .ok (.iload_n 2, 1) := by decide +kernel
theorem dX2_beginCoat_95 : decode cX2_beginCoat 95 = .ok (.bipush 36, 2) := by decide +kernel
theorem dX2_beginCoat_97 : decode cX2_beginCoat 97 = .ok (.iadd, 1) := by decide +kernel
theorem dX2_beginCoat_98 : decode cX2_beginCoat 98 = .ok (.iaload, 1) := by decide +kernel
theorem dX2_beginCoat_99 : decode cX2_beginCoat 99 = .ok (.iload_n 3, 1) := by decide +kernel
theorem dX2_beginCoat_100 : decode cX2_beginCoat 100 = .ok (.if_icmp .ge 6, 3) := by decide +kernel
theorem dX2_beginCoat_103 : decode cX2_beginCoat 103 = .ok (.bipush (-7), 2) := by decide +kernel
theorem dX2_beginCoat_105 : decode cX2_beginCoat 105 = .ok (.ireturn, 1) := by decide +kernel
theorem dX2_beginCoat_106 : decode cX2_beginCoat 106 = .ok (.aload_n 0, 1) := by decide +kernel
theorem dX2_beginCoat_107 : decode cX2_beginCoat 107 = .ok (.iload_n 2, 1) := by decide +kernel
theorem dX2_beginCoat_108 : decode cX2_beginCoat 108 = .ok (.invokevirtual 63, 3) := by decide +kernel
theorem dX2_beginCoat_111 : decode cX2_beginCoat 111 = .ok (.istore 4, 2) := by decide +kernel
theorem dX2_beginCoat_113 : decode cX2_beginCoat 113 = .ok (.aload_n 0, 1) := by decide +kernel
theorem dX2_beginCoat_114 : decode cX2_beginCoat 114 = .ok (.getfield 24, 3) := by decide +kernel
theorem dX2_beginCoat_117 : decode cX2_beginCoat 117 = .ok (.iload_n 2, 1) := by decide +kernel
theorem dX2_beginCoat_118 : decode cX2_beginCoat 118 = .ok (.iload_n 3, 1) := by decide +kernel
theorem dX2_beginCoat_119 : decode cX2_beginCoat 119 = .ok (.iconst 1, 1) := by decide +kernel
theorem dX2_beginCoat_120 : decode cX2_beginCoat 120 = .ok (.if_icmp .ne 8, 3) := by decide +kernel
theorem dX2_beginCoat_123 : decode cX2_beginCoat 123 = .ok (.iload 4, 2) := by decide +kernel
theorem dX2_beginCoat_125 : decode cX2_beginCoat 125 = .ok (.goto 11, 3) := by decide +kernel
theorem dX2_beginCoat_128 : decode cX2_beginCoat 128 = .ok (.iload 4, 2) := by decide +kernel
theorem dX2_beginCoat_130 : decode cX2_beginCoat 130 = .ok (.iconst 2, 1) := by decide +kernel
theorem dX2_beginCoat_131 : decode cX2_beginCoat 131 = .ok (.idiv, 1) := by decide +kernel
theorem dX2_beginCoat_132 : decode cX2_beginCoat 132 = .ok (.iconst 1, 1) := by decide +kernel
theorem dX2_beginCoat_133 : decode cX2_beginCoat 133 = .ok (.invokestatic 66, 3) := by decide +kernel
theorem dX2_beginCoat_136 : decode cX2_beginCoat 136 = .ok (.iastore, 1) := by decide +kernel
theorem dX2_beginCoat_137 : decode cX2_beginCoat 137 = .ok (.aload_n 0, 1) := by decide +kernel
theorem dX2_beginCoat_138 : decode cX2_beginCoat 138 = .ok (.getfield 21, 3) := by decide +kernel
theorem dX2_beginCoat_141 : decode cX2_beginCoat 141 = .ok (.iload_n 2, 1) := by decide +kernel
theorem dX2_beginCoat_142 : decode cX2_beginCoat 142 = .ok (.iload_n 1, 1) := by decide +kernel
theorem dX2_beginCoat_143 : decode cX2_beginCoat 143 = .ok (.iastore, 1) := by decide +kernel
theorem dX2_beginCoat_144 : decode cX2_beginCoat 144 = .ok (.aload_n 0, 1) := by decide +kernel
theorem dX2_beginCoat_145 : decode cX2_beginCoat 145 = .ok (.getfield 15, 3) := by decide +kernel
theorem dX2_beginCoat_148 : decode cX2_beginCoat 148 = .ok (.iload_n 1, 1) := by decide +kernel
theorem dX2_beginCoat_149 : decode cX2_beginCoat 149 = .ok (.iload_n 2, 1) := by decide +kernel
theorem dX2_beginCoat_150 : decode cX2_beginCoat 150 = .ok (.iastore, 1) := by decide +kernel
theorem dX2_beginCoat_151 : decode cX2_beginCoat 151 = .ok (.iload_n 3, 1) := by decide +kernel
theorem dX2_beginCoat_152 : decode cX2_beginCoat 152 = .ok (.ireturn, 1) := by decide +kernel
set_option maxRecDepth 20000 in
theorem ggX2_passDay_X2_workADay : GoodIn wsX2_passDay wsX2_workADay := goodIn_r _ [7, 8, 9, 10, 11, 12, 13, 14, 15, 16, 6, 17, 18, 19, 20, 21, 22, 23, 24, 25, 26, 27, 1, 28, 29, 30, 2, 31, 32, 33, 34, 35, 36, 37, 38, 39, 40, 41, 42] (by decide +kernel) (by decide +kernel)
set_option maxRecDepth 20000 in
theorem gX2_passDay_X2_workADay : GoodIn wsX2_passDay (wsV RX2 72 RX2 yX2_workADay wsX2_workADay) := goodIn_app (goodIn_of _ (by decide +kernel)) ggX2_passDay_X2_workADay
theorem dX2_passDay_0 : decode cX2_passDay 0 = .ok (.aload_n 0, 1) := by decide +kernel
theorem dX2_passDay_1 : decode cX2_passDay 1 = .ok (.getfield 43, 3) := by decide +kernel
theorem dX2_passDay_4 : decode cX2_passDay 4 = .ok (.sipush 1000, 3) := by decide +kernel
theorem dX2_passDay_7 : decode cX2_passDay 7 = .ok (.if_icmp .lt 5, 3) := by decide +kernel
theorem dX2_passDay_10 : decode cX2_passDay 10 = .ok (.iconst (-1), 1) := by decide +kernel
theorem dX2_passDay_11 : decode cX2_passDay 11 = .ok (.ireturn, 1) := by decide +kernel
theorem dX2_passDay_12 : decode cX2_passDay 12 = .ok (.iconst 0, 1) := by decide +kernel
theorem dX2_passDay_13 : decode cX2_passDay 13 = .ok (.istore_n 1, 1) := by decide +kernel
theorem dX2_passDay_14 : decode cX2_passDay 14 = .ok (.iload_n 1, 1) := by decide +kernel
theorem dX2_passDay_15 : decode cX2_passDay 15 = .ok (.bipush 6, 2) := by decide +kernel
theorem dX2_passDay_17 : decode cX2_passDay 17 = .ok (.if_icmp .ge 20, 3) := by decide +kernel
theorem dX2_passDay_20 : decode cX2_passDay 20 = .ok (.aload_n 0, 1) := by decide +kernel
theorem dX2_passDay_21 : decode cX2_passDay 21 = .ok (.iload_n 1, 1) := by decide +kernel
theorem dX2_passDay_22 : decode cX2_passDay 22 = .ok (.aload_n 0, 1) := by decide +kernel
theorem dX2_passDay_23 : decode cX2_passDay 23 = .ok (.getfield 15, 3) := by decide +kernel
theorem dX2_passDay_26 : decode cX2_passDay 26 = .ok (.iload_n 1, 1) := by decide +kernel
theorem dX2_passDay_27 : decode cX2_passDay 27 = .ok (.iaload, 1) := by decide +kernel
theorem dX2_passDay_28 : decode cX2_passDay 28 = .ok (.invokevirtual 72, 3) := by decide +kernel
theorem dX2_passDay_31 : decode cX2_passDay 31 = .ok (.iinc 1 1, 3) := by decide +kernel
theorem dX2_passDay_34 : decode cX2_passDay 34 = .ok (.goto (-20), 3) := by decide +kernel
theorem dX2_passDay_37 : decode cX2_passDay 37 = .ok (.aload_n 0, 1) := by decide +kernel
theorem dX2_passDay_38 : decode cX2_passDay 38 = .ok (.dup, 1) := by decide +kernel
theorem dX2_passDay_39 : decode cX2_passDay 39 = .ok (.getfield 43, 3) := by decide +kernel
theorem dX2_passDay_42 : decode cX2_passDay 42 = .ok (.iconst 1, 1) := by decide +kernel
theorem dX2_passDay_43 : decode cX2_passDay 43 = .ok (.iadd, 1) := by decide +kernel
theorem dX2_passDay_44 : decode cX2_passDay 44 = .ok (.putfield 43, 3) := by decide +kernel
theorem dX2_passDay_47 : decode cX2_passDay 47 = .ok (.aload_n 0, 1) := by decide +kernel
theorem dX2_passDay_48 : decode cX2_passDay 48 = .ok (.getfield 43, 3) := by decide +kernel
theorem dX2_passDay_51 : decode cX2_passDay 51 = .ok (.ireturn, 1) := by decide +kernel
set_option maxRecDepth 20000 in
theorem ggX2_workADay_X2_isGang : GoodIn wsX2_workADay wsX2_isGang := goodIn_r _ [11, 12, 27, 28, 29, 30, 31, 32, 33, 34, 35, 36, 37, 38] (by decide +kernel) (by decide +kernel)
set_option maxRecDepth 20000 in
theorem gX2_workADay_X2_isGang : GoodIn wsX2_workADay (wsV RX2 56 RX2 yX2_isGang wsX2_isGang) := goodIn_app (goodIn_of _ (by decide +kernel)) ggX2_workADay_X2_isGang
set_option maxRecDepth 20000 in
theorem ggX2_workADay_X5_isSquare : GoodIn wsX2_workADay wsX5_isSquare := goodIn_r _ [15] (by decide +kernel) (by decide +kernel)
set_option maxRecDepth 20000 in
theorem gX2_workADay_X5_isSquare_n60 : GoodIn wsX2_workADay (wsX5_isSquare) := ggX2_workADay_X5_isSquare
set_option maxRecDepth 20000 in
theorem ggX2_workADay_X2_endCoat : GoodIn wsX2_workADay wsX2_endCoat := goodIn_r _ [19, 20, 21, 22, 23, 24, 25, 26, 7, 8, 9, 10, 11, 12, 13, 14, 15, 27, 28, 29, 30, 31, 32, 33, 34, 35, 36, 37, 38] (by decide +kernel) (by decide +kernel)
set_option maxRecDepth 20000 in
theorem gX2_workADay_X2_endCoat : GoodIn wsX2_workADay (wsV RX2 76 RX2 yX2_endCoat wsX2_endCoat) := goodIn_app (goodIn_of _ (by decide +kernel)) ggX2_workADay_X2_endCoat
theorem dX2_workADay_0 : decode cX2_workADay 0 = .ok (.aload_n 0, 1) := by decide +kernel
theorem dX2_workADay_1 : decode cX2_workADay 1 = .ok (.iload_n 1, 1) := by decide +kernel
theorem dX2_workADay_2 : decode cX2_workADay 2 = .ok (.invokevirtual 56, 3) := by decide +kernel
theorem dX2_workADay_5 : decode cX2_workADay 5 = .ok (.ifCond .eq 10, 3) := by decide +kernel
theorem dX2_workADay_8 : decode cX2_workADay 8 = .ok (.iload_n 2, 1) := by decide +kernel
theorem dX2_workADay_9 : decode cX2_workADay 9 = .ok (.invokestatic 60, 3) := by decide +kernel
theorem dX2_workADay_12 : decode cX2_workADay 12 = .ok (.ifCond .ne 4, 3) := by decide +kernel
theorem dX2_workADay_15 : decode cX2_workADay 15 = .ok (.return_, 1) := by decide +kernel
theorem dX2_workADay_16 : decode cX2_workADay 16 = .ok (.aload_n 0, 1) := by decide +kernel
theorem dX2_workADay_17 : decode cX2_workADay 17 = .ok (.getfield 24, 3) := by decide +kernel
theorem dX2_workADay_20 : decode cX2_workADay 20 = .ok (.iload_n 2, 1) := by decide +kernel
theorem dX2_workADay_21 : decode cX2_workADay 21 = .ok (.aload_n 0, 1) := by decide +kernel
theorem dX2_workADay_22 : decode cX2_workADay 22 = .ok (.getfield 24, 3) := by decide +kernel
theorem dX2_workADay_25 : decode cX2_workADay 25 = .ok (.iload_n 2, 1) := by decide +kernel
theorem dX2_workADay_26 : decode cX2_workADay 26 = .ok (.iaload, 1) := by decide +kernel
theorem dX2_workADay_27 : decode cX2_workADay 27 = .ok (.aload_n 0, 1) := by decide +kernel
theorem dX2_workADay_28 : decode cX2_workADay 28 = .ok (.getfield 9, 3) := by decide +kernel
theorem dX2_workADay_31 : decode cX2_workADay 31 = .ok (.iload_n 1, 1) := by decide +kernel
theorem dX2_workADay_32 : decode cX2_workADay 32 = .ok (.iaload, 1) := by decide +kernel
theorem dX2_workADay_33 : decode cX2_workADay 33 = .ok (.isub, 1) := by decide +kernel
theorem dX2_workADay_34 : decode cX2_workADay 34 = .ok (.iconst 0, 1) := by decide +kernel
theorem dX2_workADay_35 : decode cX2_workADay 35 = .ok (.invokestatic 66, 3) := by decide +kernel
theorem dX2_workADay_38 : decode cX2_workADay 38 = .ok (.iastore, 1) := by decide +kernel
theorem dX2_workADay_39 : decode cX2_workADay 39 = .ok (.aload_n 0, 1) := by decide +kernel
theorem dX2_workADay_40 : decode cX2_workADay 40 = .ok (.getfield 24, 3) := by decide +kernel
theorem dX2_workADay_43 : decode cX2_workADay 43 = .ok (.iload_n 2, 1) := by decide +kernel
theorem dX2_workADay_44 : decode cX2_workADay 44 = .ok (.iaload, 1) := by decide +kernel
theorem dX2_workADay_45 : decode cX2_workADay 45 = .ok (.ifCond .ne 9, 3) := by decide +kernel
theorem dX2_workADay_48 : decode cX2_workADay 48 = .ok (.aload_n 0, 1) := by decide +kernel
theorem dX2_workADay_49 : decode cX2_workADay 49 = .ok (.iload_n 1, 1) := by decide +kernel
theorem dX2_workADay_50 : decode cX2_workADay 50 = .ok (.iload_n 2, 1) := by decide +kernel
theorem dX2_workADay_51 : decode cX2_workADay 51 = .ok (.invokevirtual 76, 3) := by decide +kernel
theorem dX2_workADay_54 : decode cX2_workADay 54 = .ok (.return_, 1) := by decide +kernel
set_option maxRecDepth 20000 in
theorem ggX2_endCoat_X2_isGang : GoodIn wsX2_endCoat wsX2_isGang := goodIn_r _ [12, 13, 17, 18, 19, 20, 21, 22, 23, 24, 25, 26, 27, 28] (by decide +kernel) (by decide +kernel)
set_option maxRecDepth 20000 in
theorem gX2_endCoat_X2_isGang : GoodIn wsX2_endCoat (wsV RX2 56 RX2 yX2_isGang wsX2_isGang) := goodIn_app (goodIn_of _ (by decide +kernel)) ggX2_endCoat_X2_isGang
set_option maxRecDepth 20000 in
theorem ggX2_endCoat_X5_isSquare : GoodIn wsX2_endCoat wsX5_isSquare := goodIn_r _ [16] (by decide +kernel) (by decide +kernel)
set_option maxRecDepth 20000 in
theorem gX2_endCoat_X5_isSquare_n60 : GoodIn wsX2_endCoat (wsX5_isSquare) := ggX2_endCoat_X5_isSquare
theorem dX2_endCoat_0 : decode cX2_endCoat 0 = .ok (.aload_n 0, 1) := by decide +kernel
theorem dX2_endCoat_1 : decode cX2_endCoat 1 = .ok (.iload_n 1, 1) := by decide +kernel
theorem dX2_endCoat_2 : decode cX2_endCoat 2 = .ok (.invokevirtual 56, 3) := by decide +kernel
theorem dX2_endCoat_5 : decode cX2_endCoat 5 = .ok (.ifCond .eq 10, 3) := by decide +kernel
theorem dX2_endCoat_8 : decode cX2_endCoat 8 = .ok (.iload_n 2, 1) := by decide +kernel
theorem dX2_endCoat_9 : decode cX2_endCoat 9 = .ok (.invokestatic 60, 3) := by decide +kernel
theorem dX2_endCoat_12 : decode cX2_endCoat 12 = .ok (.ifCond .ne 4, 3) := by decide +kernel
theorem dX2_endCoat_15 : decode cX2_endCoat 15 = .ok (.return_, 1) := by decide +kernel
theorem dX2_endCoat_16 : decode cX2_endCoat 16 = .ok (.aload_n 0, 1) := by decide +kernel
theorem dX2_endCoat_17 : decode cX2_endCoat 17 = .ok (.getfield 18, 3) := by decide +kernel
theorem dX2_endCoat_20 : decode cX2_endCoat 20 = .ok (.iload_n 2, 1) := by decide +kernel
theorem dX2_endCoat_21 : decode cX2_endCoat 21 = .ok (.dup2, 1) := by decide +kernel
theorem dX2_endCoat_22 : decode cX2_endCoat 22 = .ok (.iaload, 1) := by decide +kernel
theorem dX2_endCoat_23 : decode cX2_endCoat 23 = .ok (.iconst 1, 1) := by decide +kernel
theorem dX2_endCoat_24 : decode cX2_endCoat 24 = .ok (.iadd, 1) := by decide +kernel
theorem dX2_endCoat_25 : decode cX2_endCoat 25 = .ok (.iastore, 1) := by decide +kernel
theorem dX2_endCoat_26 : decode cX2_endCoat 26 = .ok (.aload_n 0, 1) := by decide +kernel
theorem dX2_endCoat_27 : decode cX2_endCoat 27 = .ok (.getfield 18, 3) := by decide +kernel
theorem dX2_endCoat_30 : decode cX2_endCoat 30 = .ok (.iload_n 2, 1) := by decide +kernel
theorem dX2_endCoat_31 : decode cX2_endCoat 31 = .ok (.iaload, 1) := by decide +kernel
theorem dX2_endCoat_32 : decode cX2_endCoat 32 = .ok (.iconst 1, 1) := by decide +kernel
theorem dX2_endCoat_33 : decode cX2_endCoat 33 = .ok (.if_icmp .ne 16, 3) := by decide +kernel
theorem dX2_endCoat_36 : decode cX2_endCoat 36 = .ok (.aload_n 0, 1) := by decide +kernel
theorem dX2_endCoat_37 : decode cX2_endCoat 37 = .ok (.getfield 27, 3) := by decide +kernel
theorem dX2_endCoat_40 : decode cX2_endCoat 40 = .ok (.iload_n 2, 1) := by decide +kernel
theorem dX2_endCoat_41 : decode cX2_endCoat 41 = .ok (.aload_n 0, 1) := by decide +kernel
theorem dX2_endCoat_42 : decode cX2_endCoat 42 = .ok (.getfield 43, 3) := by decide +kernel
theorem dX2_endCoat_45 : decode cX2_endCoat 45 = .ok (.iastore, 1) := by decide +kernel
theorem dX2_endCoat_46 : decode cX2_endCoat 46 = .ok (.goto 13, 3) := by decide +kernel
theorem dX2_endCoat_49 : decode cX2_endCoat 49 = .ok (.aload_n 0, 1) := by decide +kernel
theorem dX2_endCoat_50 : decode cX2_endCoat 50 = .ok (.getfield 30, 3) := by decide +kernel
theorem dX2_endCoat_53 : decode cX2_endCoat 53 = .ok (.iload_n 2, 1) := by decide +kernel
theorem dX2_endCoat_54 : decode cX2_endCoat 54 = .ok (.aload_n 0, 1) := by decide +kernel
theorem dX2_endCoat_55 : decode cX2_endCoat 55 = .ok (.getfield 43, 3) := by decide +kernel
theorem dX2_endCoat_58 : decode cX2_endCoat 58 = .ok (.iastore, 1) := by decide +kernel
theorem dX2_endCoat_59 : decode cX2_endCoat 59 = .ok (.aload_n 0, 1) := by decide +kernel
theorem dX2_endCoat_60 : decode cX2_endCoat 60 = .ok (.getfield 33, 3) := by decide +kernel
theorem dX2_endCoat_63 : decode cX2_endCoat 63 = .ok (.iload_n 2, 1) := by decide +kernel
theorem dX2_endCoat_64 : decode cX2_endCoat 64 = .ok (.iload_n 1, 1) := by decide +kernel
theorem dX2_endCoat_65 : decode cX2_endCoat 65 = .ok (.iastore, 1) := by decide +kernel
theorem dX2_endCoat_66 : decode cX2_endCoat 66 = .ok (.aload_n 0, 1) := by decide +kernel
theorem dX2_endCoat_67 : decode cX2_endCoat 67 = .ok (.getfield 21, 3) := by decide +kernel
theorem dX2_endCoat_70 : decode cX2_endCoat 70 = .ok (.iload_n 2, 1) := by decide +kernel
theorem dX2_endCoat_71 : decode cX2_endCoat 71 = .ok (.iconst (-1), 1) := by decide +kernel
theorem dX2_endCoat_72 : decode cX2_endCoat 72 = .ok (.iastore, 1) := by decide +kernel
theorem dX2_endCoat_73 : decode cX2_endCoat 73 = .ok (.aload_n 0, 1) := by decide +kernel
theorem dX2_endCoat_74 : decode cX2_endCoat 74 = .ok (.getfield 15, 3) := by decide +kernel
theorem dX2_endCoat_77 : decode cX2_endCoat 77 = .ok (.iload_n 1, 1) := by decide +kernel
theorem dX2_endCoat_78 : decode cX2_endCoat 78 = .ok (.iconst (-1), 1) := by decide +kernel
theorem dX2_endCoat_79 : decode cX2_endCoat 79 = .ok (.iastore, 1) := by decide +kernel
theorem dX2_endCoat_80 : decode cX2_endCoat 80 = .ok (.return_, 1) := by decide +kernel
set_option maxRecDepth 20000 in
theorem ggX2_tellSquare_X5_isSquare : GoodIn wsX2_tellSquare wsX5_isSquare := goodIn_r _ [9] (by decide +kernel) (by decide +kernel)
set_option maxRecDepth 20000 in
theorem gX2_tellSquare_X5_isSquare_n60 : GoodIn wsX2_tellSquare (wsX5_isSquare) := ggX2_tellSquare_X5_isSquare
set_option maxRecDepth 20000 in
theorem ggX2_tellSquare_X2_firstCoatWork : GoodIn wsX2_tellSquare wsX2_firstCoatWork := goodIn_r _ [14, 15, 16, 17, 18, 19, 20, 21, 7, 8, 9, 22, 23, 24, 25, 26, 27, 28, 29, 30, 31, 32, 33, 34, 35] (by decide +kernel) (by decide +kernel)
set_option maxRecDepth 20000 in
theorem gX2_tellSquare_X2_firstCoatWork : GoodIn wsX2_tellSquare (wsV RX2 63 RX2 yX2_firstCoatWork wsX2_firstCoatWork) := goodIn_app (goodIn_of _ (by decide +kernel)) ggX2_tellSquare_X2_firstCoatWork
theorem dX2_tellSquare_0 : decode cX2_tellSquare 0 = .ok (.iload_n 1, 1) := by decide +kernel
theorem dX2_tellSquare_1 : decode cX2_tellSquare 1 = .ok (.invokestatic 60, 3) := by decide +kernel
theorem dX2_tellSquare_4 : decode cX2_tellSquare 4 = .ok (.ifCond .ne 5, 3) := by decide +kernel
theorem dX2_tellSquare_7 : decode cX2_tellSquare 7 = .ok (.iconst (-1), 1) := by decide +kernel
theorem dX2_tellSquare_8 : decode cX2_tellSquare 8 = .ok (.ireturn, 1) := by decide +kernel
theorem dX2_tellSquare_9 : decode cX2_tellSquare 9 = .ok (.iload_n 2, 1) := by decide +kernel
theorem dX2_tellSquare_10 : decode cX2_tellSquare 10 = .ok (.tableswitch 90 0 6 #[42, 48, 55, 62, 69, 76, 83], 42) := by decide +kernel
theorem dX2_tellSquare_52 : decode cX2_tellSquare 52 = .ok (.aload_n 0, 1) := by decide +kernel
theorem dX2_tellSquare_53 : decode cX2_tellSquare 53 = .ok (.iload_n 1, 1) := by decide +kernel
theorem dX2_tellSquare_54 : decode cX2_tellSquare 54 = .ok (.invokevirtual 63, 3) := by decide +kernel
theorem dX2_tellSquare_57 : decode cX2_tellSquare 57 = .ok (.ireturn, 1) := by decide +kernel
theorem dX2_tellSquare_58 : decode cX2_tellSquare 58 = .ok (.aload_n 0, 1) := by decide +kernel
theorem dX2_tellSquare_59 : decode cX2_tellSquare 59 = .ok (.getfield 18, 3) := by decide +kernel
theorem dX2_tellSquare_62 : decode cX2_tellSquare 62 = .ok (.iload_n 1, 1) := by decide +kernel
theorem dX2_tellSquare_63 : decode cX2_tellSquare 63 = .ok (.iaload, 1) := by decide +kernel
theorem dX2_tellSquare_64 : decode cX2_tellSquare 64 = .ok (.ireturn, 1) := by decide +kernel
theorem dX2_tellSquare_65 : decode cX2_tellSquare 65 = .ok (.aload_n 0, 1) := by decide +kernel
theorem dX2_tellSquare_66 : decode cX2_tellSquare 66 = .ok (.getfield 21, 3) := by decide +kernel
theorem dX2_tellSquare_69 : decode cX2_tellSquare 69 = .ok (.iload_n 1, 1) := by decide +kernel
theorem dX2_tellSquare_70 : decode cX2_tellSquare 70 = .ok (.iaload, 1) := by decide +kernel
theorem dX2_tellSquare_71 : decode cX2_tellSquare 71 = .ok (.ireturn, 1) := by decide +kernel
theorem dX2_tellSquare_72 : decode cX2_tellSquare 72 = .ok (.aload_n 0, 1) := by decide +kernel
theorem dX2_tellSquare_73 : decode cX2_tellSquare 73 = .ok (.getfield 24, 3) := by decide +kernel
theorem dX2_tellSquare_76 : decode cX2_tellSquare 76 = .ok (.iload_n 1, 1) := by decide +kernel
theorem dX2_tellSquare_77 : decode cX2_tellSquare 77 = .ok (.iaload, 1) := by decide +kernel
theorem dX2_tellSquare_78 : decode cX2_tellSquare 78 = .ok (.ireturn, 1) := by decide +kernel
theorem dX2_tellSquare_79 : decode cX2_tellSquare 79 = .ok (.aload_n 0, 1) := by decide +kernel
theorem dX2_tellSquare_80 : decode cX2_tellSquare 80 = .ok (.getfield 27, 3) := by decide +kernel
theorem dX2_tellSquare_83 : decode cX2_tellSquare 83 = .ok (.iload_n 1, 1) := by decide +kernel
theorem dX2_tellSquare_84 : decode cX2_tellSquare 84 = .ok (.iaload, 1) := by decide +kernel
theorem dX2_tellSquare_85 : decode cX2_tellSquare 85 = .ok (.ireturn, 1) := by decide +kernel
theorem dX2_tellSquare_86 : decode cX2_tellSquare 86 = .ok (.aload_n 0, 1) := by decide +kernel
theorem dX2_tellSquare_87 : decode cX2_tellSquare 87 = .ok (.getfield 30, 3) := by decide +kernel
theorem dX2_tellSquare_90 : decode cX2_tellSquare 90 = .ok (.iload_n 1, 1) := by decide +kernel
theorem dX2_tellSquare_91 : decode cX2_tellSquare 91 = .ok (.iaload, 1) := by decide +kernel
theorem dX2_tellSquare_92 : decode cX2_tellSquare 92 = .ok (.ireturn, 1) := by decide +kernel
theorem dX2_tellSquare_93 : decode cX2_tellSquare 93 = .ok (.aload_n 0, 1) := by decide +kernel
theorem dX2_tellSquare_94 : decode cX2_tellSquare 94 = .ok (.getfield 33, 3) := by decide +kernel
theorem dX2_tellSquare_97 : decode cX2_tellSquare 97 = .ok (.iload_n 1, 1) := by decide +kernel
theorem dX2_tellSquare_98 : decode cX2_tellSquare 98 = .ok (.iaload, 1) := by decide +kernel
theorem dX2_tellSquare_99 : decode cX2_tellSquare 99 = .ok (.ireturn, 1) := by decide +kernel
theorem dX2_tellSquare_100 : decode cX2_tellSquare 100 = .ok (.iconst (-1), 1) := by decide +kernel
theorem dX2_tellSquare_101 : decode cX2_tellSquare 101 = .ok (.ireturn, 1) := by decide +kernel
set_option maxRecDepth 20000 in
theorem ggX2_leastDays_X2_leastBelow : GoodIn wsX2_leastDays wsX2_leastBelow := goodIn_r _ [8, 9, 10, 11, 12, 2, 13, 14, 15, 7, 16, 17, 18, 19, 20, 21, 22, 23, 24, 25, 26, 27, 28, 29, 30, 31, 32, 33, 34, 35, 36, 37, 38, 4, 5, 6, 39, 40, 41, 42, 43, 44, 45, 46, 47, 48, 49, 50, 51, 52] (by decide +kernel) (by decide +kernel)
set_option maxRecDepth 20000 in
theorem gX2_leastDays_X2_leastBelow : GoodIn wsX2_leastDays (wsV RX2 82 RX2 yX2_leastBelow wsX2_leastBelow) := goodIn_app (goodIn_of _ (by decide +kernel)) ggX2_leastDays_X2_leastBelow
theorem dX2_leastDays_0 : decode cX2_leastDays 0 = .ok (.iload_n 2, 1) := by decide +kernel
theorem dX2_leastDays_1 : decode cX2_leastDays 1 = .ok (.iconst 1, 1) := by decide +kernel
theorem dX2_leastDays_2 : decode cX2_leastDays 2 = .ok (.if_icmp .lt 21, 3) := by decide +kernel
theorem dX2_leastDays_5 : decode cX2_leastDays 5 = .ok (.iload_n 2, 1) := by decide +kernel
theorem dX2_leastDays_6 : decode cX2_leastDays 6 = .ok (.bipush 6, 2) := by decide +kernel
theorem dX2_leastDays_8 : decode cX2_leastDays 8 = .ok (.if_icmp .gt 15, 3) := by decide +kernel
theorem dX2_leastDays_11 : decode cX2_leastDays 11 = .ok (.iload_n 1, 1) := by decide +kernel
theorem dX2_leastDays_12 : decode cX2_leastDays 12 = .ok (.ifCond .lt 11, 3) := by decide +kernel
theorem dX2_leastDays_15 : decode cX2_leastDays 15 = .ok (.iload_n 1, 1) := by decide +kernel
theorem dX2_leastDays_16 : decode cX2_leastDays 16 = .ok (.bipush 72, 2) := by decide +kernel
theorem dX2_leastDays_18 : decode cX2_leastDays 18 = .ok (.iload_n 2, 1) := by decide +kernel
theorem dX2_leastDays_19 : decode cX2_leastDays 19 = .ok (.isub, 1) := by decide +kernel
theorem dX2_leastDays_20 : decode cX2_leastDays 20 = .ok (.if_icmp .le 5, 3) := by decide +kernel
theorem dX2_leastDays_23 : decode cX2_leastDays 23 = .ok (.iconst (-1), 1) := by decide +kernel
theorem dX2_leastDays_24 : decode cX2_leastDays 24 = .ok (.ireturn, 1) := by decide +kernel
theorem dX2_leastDays_25 : decode cX2_leastDays 25 = .ok (.iload_n 3, 1) := by decide +kernel
theorem dX2_leastDays_26 : decode cX2_leastDays 26 = .ok (.iconst 1, 1) := by decide +kernel
theorem dX2_leastDays_27 : decode cX2_leastDays 27 = .ok (.if_icmp .lt 16, 3) := by decide +kernel
theorem dX2_leastDays_30 : decode cX2_leastDays 30 = .ok (.iload_n 3, 1) := by decide +kernel
theorem dX2_leastDays_31 : decode cX2_leastDays 31 = .ok (.iconst 3, 1) := by decide +kernel
theorem dX2_leastDays_32 : decode cX2_leastDays 32 = .ok (.if_icmp .gt 11, 3) := by decide +kernel
theorem dX2_leastDays_35 : decode cX2_leastDays 35 = .ok (.iload_n 3, 1) := by decide +kernel
theorem dX2_leastDays_36 : decode cX2_leastDays 36 = .ok (.aload_n 0, 1) := by decide +kernel
theorem dX2_leastDays_37 : decode cX2_leastDays 37 = .ok (.getfield 47, 3) := by decide +kernel
theorem dX2_leastDays_40 : decode cX2_leastDays 40 = .ok (.if_icmp .le 5, 3) := by decide +kernel
theorem dX2_leastDays_43 : decode cX2_leastDays 43 = .ok (.iconst (-1), 1) := by decide +kernel
theorem dX2_leastDays_44 : decode cX2_leastDays 44 = .ok (.ireturn, 1) := by decide +kernel
theorem dX2_leastDays_45 : decode cX2_leastDays 45 = .ok (.iconst 0, 1) := by decide +kernel
theorem dX2_leastDays_46 : decode cX2_leastDays 46 = .ok (.istore 4, 2) := by decide +kernel
theorem dX2_leastDays_48 : decode cX2_leastDays 48 = .ok (.iload 4, 2) := by decide +kernel
theorem dX2_leastDays_50 : decode cX2_leastDays 50 = .ok (.iconst 3, 1) := by decide +kernel
theorem dX2_leastDays_51 : decode cX2_leastDays 51 = .ok (.if_icmp .ge 17, 3) := by decide +kernel
theorem dX2_leastDays_54 : decode cX2_leastDays 54 = .ok (.aload_n 0, 1) := by decide +kernel
theorem dX2_leastDays_55 : decode cX2_leastDays 55 = .ok (.getfield 36, 3) := by decide +kernel
theorem dX2_leastDays_58 : decode cX2_leastDays 58 = .ok (.iload 4, 2) := by decide +kernel
theorem dX2_leastDays_60 : decode cX2_leastDays 60 = .ok (.iconst 0, 1) := by decide +kernel
theorem dX2_leastDays_61 : decode cX2_leastDays 61 = .ok (.iastore, 1) := by decide +kernel
theorem dX2_leastDays_62 : decode cX2_leastDays 62 = .ok (.iinc 4 1, 3) := by decide +kernel
theorem dX2_leastDays_65 : decode cX2_leastDays 65 = .ok (.goto (-17), 3) := by decide +kernel
theorem dX2_leastDays_68 : decode cX2_leastDays 68 = .ok (.aload_n 0, 1) := by decide +kernel
theorem dX2_leastDays_69 : decode cX2_leastDays 69 = .ok (.ldc 81, 2) := by decide +kernel
theorem dX2_leastDays_71 : decode cX2_leastDays 71 = .ok (.iload_n 1, 1) := by decide +kernel
theorem dX2_leastDays_72 : decode cX2_leastDays 72 = .ok (.iload_n 1, 1) := by decide +kernel
theorem dX2_leastDays_73 : decode cX2_leastDays 73 = .ok (.iload_n 2, 1) := by decide +kernel
theorem dX2_leastDays_74 : decode cX2_leastDays 74 = .ok (.iadd, 1) := by decide +kernel
theorem dX2_leastDays_75 : decode cX2_leastDays 75 = .ok (.iload_n 3, 1) := by decide +kernel
theorem dX2_leastDays_76 : decode cX2_leastDays 76 = .ok (.invokevirtual 82, 3) := by decide +kernel
theorem dX2_leastDays_79 : decode cX2_leastDays 79 = .ok (.ireturn, 1) := by decide +kernel
set_option maxRecDepth 20000 in
theorem ggX2_leastBelow_X2_mostDays : GoodIn wsX2_leastBelow wsX2_mostDays := goodIn_r _ [10, 11, 12, 3, 13, 14, 15, 16, 9, 17, 18, 5, 36, 37, 38, 39, 40, 41, 42, 43, 44, 45, 46, 47] (by decide +kernel) (by decide +kernel)
set_option maxRecDepth 20000 in
theorem gX2_leastBelow_X2_mostDays : GoodIn wsX2_leastBelow (wsV RX2 86 RX2 yX2_mostDays wsX2_mostDays) := goodIn_app (goodIn_of _ (by decide +kernel)) ggX2_leastBelow_X2_mostDays
set_option maxRecDepth 20000 in
theorem ggX2_leastBelow_X2_firstCoatWork : GoodIn wsX2_leastBelow wsX2_firstCoatWork := goodIn_r _ [22, 23, 24, 25, 26, 27, 28, 29, 30, 31, 32, 36, 37, 38, 39, 40, 41, 42, 43, 44, 45, 46, 47, 48, 49] (by decide +kernel) (by decide +kernel)
set_option maxRecDepth 20000 in
theorem gX2_leastBelow_X2_firstCoatWork : GoodIn wsX2_leastBelow (wsV RX2 63 RX2 yX2_firstCoatWork wsX2_firstCoatWork) := goodIn_app (goodIn_of _ (by decide +kernel)) ggX2_leastBelow_X2_firstCoatWork
set_option maxRecDepth 20000 in
theorem ggX2_leastBelow_X2_daysOf : GoodIn wsX2_leastBelow wsX2_daysOf := goodIn_r _ [17, 18, 5, 36, 37, 38, 39, 40, 41, 42, 43, 44, 45, 46, 47] (by decide +kernel) (by decide +kernel)
set_option maxRecDepth 20000 in
theorem gX2_leastBelow_X2_daysOf : GoodIn wsX2_leastBelow (wsV RX2 92 RX2 yX2_daysOf wsX2_daysOf) := goodIn_app (goodIn_of _ (by decide +kernel)) ggX2_leastBelow_X2_daysOf
set_option maxRecDepth 20000 in
theorem ggX2_leastBelow_X2_leastBelow : GoodIn wsX2_leastBelow wsX2_leastBelow := goodIn_r _ [0, 1, 2, 3, 4, 5, 6, 7, 8, 9, 10, 11, 12, 13, 14, 15, 16, 17, 18, 19, 20, 21, 22, 23, 24, 25, 26, 27, 28, 29, 30, 31, 32, 33, 34, 35, 36, 37, 38, 39, 40, 41, 42, 43, 44, 45, 46, 47, 48, 49] (by decide +kernel) (by decide +kernel)
set_option maxRecDepth 20000 in
theorem gX2_leastBelow_X2_leastBelow : GoodIn wsX2_leastBelow (wsV RX2 82 RX2 yX2_leastBelow wsX2_leastBelow) := goodIn_app (goodIn_of _ (by decide +kernel)) ggX2_leastBelow_X2_leastBelow
theorem dX2_leastBelow_0 : decode cX2_leastBelow 0 = .ok (.iload_n 2, 1) := by decide +kernel
theorem dX2_leastBelow_1 : decode cX2_leastBelow 1 = .ok (.iload_n 3, 1) := by decide +kernel
theorem dX2_leastBelow_2 : decode cX2_leastBelow 2 = .ok (.if_icmp .lt 14, 3) := by decide +kernel
theorem dX2_leastBelow_5 : decode cX2_leastBelow 5 = .ok (.iload_n 1, 1) := by decide +kernel
theorem dX2_leastBelow_6 : decode cX2_leastBelow 6 = .ok (.aload_n 0, 1) := by decide +kernel
theorem dX2_leastBelow_7 : decode cX2_leastBelow 7 = .ok (.iload 4, 2) := by decide +kernel
theorem dX2_leastBelow_9 : decode cX2_leastBelow 9 = .ok (.invokevirtual 86, 3) := by decide +kernel
theorem dX2_leastBelow_12 : decode cX2_leastBelow 12 = .ok (.invokestatic 89, 3) := by decide +kernel
theorem dX2_leastBelow_15 : decode cX2_leastBelow 15 = .ok (.ireturn, 1) := by decide +kernel
theorem dX2_leastBelow_16 : decode cX2_leastBelow 16 = .ok (.aload_n 0, 1) := by decide +kernel
theorem dX2_leastBelow_17 : decode cX2_leastBelow 17 = .ok (.iload_n 2, 1) := by decide +kernel
theorem dX2_leastBelow_18 : decode cX2_leastBelow 18 = .ok (.invokevirtual 63, 3) := by decide +kernel
theorem dX2_leastBelow_21 : decode cX2_leastBelow 21 = .ok (.istore 5, 2) := by decide +kernel
theorem dX2_leastBelow_23 : decode cX2_leastBelow 23 = .ok (.iload_n 1, 1) := by decide +kernel
theorem dX2_leastBelow_24 : decode cX2_leastBelow 24 = .ok (.istore 6, 2) := by decide +kernel
theorem dX2_leastBelow_26 : decode cX2_leastBelow 26 = .ok (.iconst 0, 1) := by decide +kernel
theorem dX2_leastBelow_27 : decode cX2_leastBelow 27 = .ok (.istore 7, 2) := by decide +kernel
theorem dX2_leastBelow_29 : decode cX2_leastBelow 29 = .ok (.iload 7, 2) := by decide +kernel
theorem dX2_leastBelow_31 : decode cX2_leastBelow 31 = .ok (.iload 4, 2) := by decide +kernel
theorem dX2_leastBelow_33 : decode cX2_leastBelow 33 = .ok (.if_icmp .ge 64, 3) := by decide +kernel
theorem dX2_leastBelow_36 : decode cX2_leastBelow 36 = .ok (.iload 7, 2) := by decide +kernel
theorem dX2_leastBelow_38 : decode cX2_leastBelow 38 = .ok (.iconst 3, 1) := by decide +kernel
theorem dX2_leastBelow_39 : decode cX2_leastBelow 39 = .ok (.if_icmp .ge 58, 3) := by decide +kernel
theorem dX2_leastBelow_42 : decode cX2_leastBelow 42 = .ok (.aload_n 0, 1) := by decide +kernel
theorem dX2_leastBelow_43 : decode cX2_leastBelow 43 = .ok (.getfield 36, 3) := by decide +kernel
theorem dX2_leastBelow_46 : decode cX2_leastBelow 46 = .ok (.iload 7, 2) := by decide +kernel
theorem dX2_leastBelow_48 : decode cX2_leastBelow 48 = .ok (.dup2, 1) := by decide +kernel
theorem dX2_leastBelow_49 : decode cX2_leastBelow 49 = .ok (.iaload, 1) := by decide +kernel
theorem dX2_leastBelow_50 : decode cX2_leastBelow 50 = .ok (.iload 5, 2) := by decide +kernel
theorem dX2_leastBelow_52 : decode cX2_leastBelow 52 = .ok (.iadd, 1) := by decide +kernel
theorem dX2_leastBelow_53 : decode cX2_leastBelow 53 = .ok (.iastore, 1) := by decide +kernel
theorem dX2_leastBelow_54 : decode cX2_leastBelow 54 = .ok (.aload_n 0, 1) := by decide +kernel
theorem dX2_leastBelow_55 : decode cX2_leastBelow 55 = .ok (.iload 7, 2) := by decide +kernel
theorem dX2_leastBelow_57 : decode cX2_leastBelow 57 = .ok (.invokevirtual 92, 3) := by decide +kernel
theorem dX2_leastBelow_60 : decode cX2_leastBelow 60 = .ok (.iload 6, 2) := by decide +kernel
theorem dX2_leastBelow_62 : decode cX2_leastBelow 62 = .ok (.if_icmp .ge 17, 3) := by decide +kernel
theorem dX2_leastBelow_65 : decode cX2_leastBelow 65 = .ok (.aload_n 0, 1) := by decide +kernel
theorem dX2_leastBelow_66 : decode cX2_leastBelow 66 = .ok (.iload 6, 2) := by decide +kernel
theorem dX2_leastBelow_68 : decode cX2_leastBelow 68 = .ok (.iload_n 2, 1) := by decide +kernel
theorem dX2_leastBelow_69 : decode cX2_leastBelow 69 = .ok (.iconst 1, 1) := by decide +kernel
theorem dX2_leastBelow_70 : decode cX2_leastBelow 70 = .ok (.iadd, 1) := by decide +kernel
theorem dX2_leastBelow_71 : decode cX2_leastBelow 71 = .ok (.iload_n 3, 1) := by decide +kernel
theorem dX2_leastBelow_72 : decode cX2_leastBelow 72 = .ok (.iload 4, 2) := by decide +kernel
theorem dX2_leastBelow_74 : decode cX2_leastBelow 74 = .ok (.invokevirtual 82, 3) := by decide +kernel
theorem dX2_leastBelow_77 : decode cX2_leastBelow 77 = .ok (.istore 6, 2) := by decide +kernel
theorem dX2_leastBelow_79 : decode cX2_leastBelow 79 = .ok (.aload_n 0, 1) := by decide +kernel
theorem dX2_leastBelow_80 : decode cX2_leastBelow 80 = .ok (.getfield 36, 3) := by decide +kernel
theorem dX2_leastBelow_83 : decode cX2_leastBelow 83 = .ok (.iload 7, 2) := by decide +kernel
theorem dX2_leastBelow_85 : decode cX2_leastBelow 85 = .ok (.dup2, 1) := by decide +kernel
theorem dX2_leastBelow_86 : decode cX2_leastBelow 86 = .ok (.iaload, 1) := by decide +kernel
theorem dX2_leastBelow_87 : decode cX2_leastBelow 87 = .ok (.iload 5, 2) := by decide +kernel
theorem dX2_leastBelow_89 : decode cX2_leastBelow 89 = .ok (.isub, 1) := by decide +kernel
theorem dX2_leastBelow_90 : decode cX2_leastBelow 90 = .ok (.iastore, 1) := by decide +kernel
theorem dX2_leastBelow_91 : decode cX2_leastBelow 91 = .ok (.iinc 7 1, 3) := by decide +kernel
theorem dX2_leastBelow_94 : decode cX2_leastBelow 94 = .ok (.goto (-65), 3) := by decide +kernel
theorem dX2_leastBelow_97 : decode cX2_leastBelow 97 = .ok (.iload 6, 2) := by decide +kernel
theorem dX2_leastBelow_99 : decode cX2_leastBelow 99 = .ok (.ireturn, 1) := by decide +kernel
set_option maxRecDepth 20000 in
theorem ggX2_mostDays_X2_daysOf : GoodIn wsX2_mostDays wsX2_daysOf := goodIn_r _ [9, 10, 11, 12, 13, 14, 15, 16, 17, 18, 19, 20, 21, 22, 23] (by decide +kernel) (by decide +kernel)
set_option maxRecDepth 20000 in
theorem gX2_mostDays_X2_daysOf : GoodIn wsX2_mostDays (wsV RX2 92 RX2 yX2_daysOf wsX2_daysOf) := goodIn_app (goodIn_of _ (by decide +kernel)) ggX2_mostDays_X2_daysOf
theorem dX2_mostDays_0 : decode cX2_mostDays 0 = .ok (.iconst 0, 1) := by decide +kernel
theorem dX2_mostDays_1 : decode cX2_mostDays 1 = .ok (.istore_n 2, 1) := by decide +kernel
theorem dX2_mostDays_2 : decode cX2_mostDays 2 = .ok (.iconst 0, 1) := by decide +kernel
theorem dX2_mostDays_3 : decode cX2_mostDays 3 = .ok (.istore_n 3, 1) := by decide +kernel
theorem dX2_mostDays_4 : decode cX2_mostDays 4 = .ok (.iload_n 3, 1) := by decide +kernel
theorem dX2_mostDays_5 : decode cX2_mostDays 5 = .ok (.iload_n 1, 1) := by decide +kernel
theorem dX2_mostDays_6 : decode cX2_mostDays 6 = .ok (.if_icmp .ge 19, 3) := by decide +kernel
theorem dX2_mostDays_9 : decode cX2_mostDays 9 = .ok (.iload_n 2, 1) := by decide +kernel
theorem dX2_mostDays_10 : decode cX2_mostDays 10 = .ok (.aload_n 0, 1) := by decide +kernel
theorem dX2_mostDays_11 : decode cX2_mostDays 11 = .ok (.iload_n 3, 1) := by decide +kernel
theorem dX2_mostDays_12 : decode cX2_mostDays 12 = .ok (.invokevirtual 92, 3) := by decide +kernel
theorem dX2_mostDays_15 : decode cX2_mostDays 15 = .ok (.invokestatic 66, 3) := by decide +kernel
theorem dX2_mostDays_18 : decode cX2_mostDays 18 = .ok (.istore_n 2, 1) := by decide +kernel
theorem dX2_mostDays_19 : decode cX2_mostDays 19 = .ok (.iinc 3 1, 3) := by decide +kernel
theorem dX2_mostDays_22 : decode cX2_mostDays 22 = .ok (.goto (-18), 3) := by decide +kernel
theorem dX2_mostDays_25 : decode cX2_mostDays 25 = .ok (.iload_n 2, 1) := by decide +kernel
theorem dX2_mostDays_26 : decode cX2_mostDays 26 = .ok (.ireturn, 1) := by decide +kernel
theorem dX2_daysOf_0 : decode cX2_daysOf 0 = .ok (.iload_n 1, 1) := by decide +kernel
theorem dX2_daysOf_1 : decode cX2_daysOf 1 = .ok (.ifCond .lt 18, 3) := by decide +kernel
theorem dX2_daysOf_4 : decode cX2_daysOf 4 = .ok (.iload_n 1, 1) := by decide +kernel
theorem dX2_daysOf_5 : decode cX2_daysOf 5 = .ok (.iconst 3, 1) := by decide +kernel
theorem dX2_daysOf_6 : decode cX2_daysOf 6 = .ok (.if_icmp .ge 13, 3) := by decide +kernel
theorem dX2_daysOf_9 : decode cX2_daysOf 9 = .ok (.aload_n 0, 1) := by decide +kernel
theorem dX2_daysOf_10 : decode cX2_daysOf 10 = .ok (.getfield 9, 3) := by decide +kernel
theorem dX2_daysOf_13 : decode cX2_daysOf 13 = .ok (.iload_n 1, 1) := by decide +kernel
theorem dX2_daysOf_14 : decode cX2_daysOf 14 = .ok (.iaload, 1) := by decide +kernel
theorem dX2_daysOf_15 : decode cX2_daysOf 15 = .ok (.iconst 1, 1) := by decide +kernel
theorem dX2_daysOf_16 : decode cX2_daysOf 16 = .ok (.if_icmp .ge 5, 3) := by decide +kernel
theorem dX2_daysOf_19 : decode cX2_daysOf 19 = .ok (.iconst 0, 1) := by decide +kernel
theorem dX2_daysOf_20 : decode cX2_daysOf 20 = .ok (.ireturn, 1) := by decide +kernel
theorem dX2_daysOf_21 : decode cX2_daysOf 21 = .ok (.aload_n 0, 1) := by decide +kernel
theorem dX2_daysOf_22 : decode cX2_daysOf 22 = .ok (.getfield 36, 3) := by decide +kernel
theorem dX2_daysOf_25 : decode cX2_daysOf 25 = .ok (.iload_n 1, 1) := by decide +kernel
theorem dX2_daysOf_26 : decode cX2_daysOf 26 = .ok (.iaload, 1) := by decide +kernel
theorem dX2_daysOf_27 : decode cX2_daysOf 27 = .ok (.aload_n 0, 1) := by decide +kernel
theorem dX2_daysOf_28 : decode cX2_daysOf 28 = .ok (.getfield 9, 3) := by decide +kernel
theorem dX2_daysOf_31 : decode cX2_daysOf 31 = .ok (.iload_n 1, 1) := by decide +kernel
theorem dX2_daysOf_32 : decode cX2_daysOf 32 = .ok (.iaload, 1) := by decide +kernel
theorem dX2_daysOf_33 : decode cX2_daysOf 33 = .ok (.iadd, 1) := by decide +kernel
theorem dX2_daysOf_34 : decode cX2_daysOf 34 = .ok (.iconst 1, 1) := by decide +kernel
theorem dX2_daysOf_35 : decode cX2_daysOf 35 = .ok (.isub, 1) := by decide +kernel
theorem dX2_daysOf_36 : decode cX2_daysOf 36 = .ok (.aload_n 0, 1) := by decide +kernel
theorem dX2_daysOf_37 : decode cX2_daysOf 37 = .ok (.getfield 9, 3) := by decide +kernel
theorem dX2_daysOf_40 : decode cX2_daysOf 40 = .ok (.iload_n 1, 1) := by decide +kernel
theorem dX2_daysOf_41 : decode cX2_daysOf 41 = .ok (.iaload, 1) := by decide +kernel
theorem dX2_daysOf_42 : decode cX2_daysOf 42 = .ok (.idiv, 1) := by decide +kernel
theorem dX2_daysOf_43 : decode cX2_daysOf 43 = .ok (.ireturn, 1) := by decide +kernel
theorem dX3_init_0 : decode cX3_init 0 = .ok (.aload_n 0, 1) := by decide +kernel
theorem dX3_init_1 : decode cX3_init 1 = .ok (.invokespecial 3, 3) := by decide +kernel
theorem dX3_init_4 : decode cX3_init 4 = .ok (.aload_n 0, 1) := by decide +kernel
theorem dX3_init_5 : decode cX3_init 5 = .ok (.bipush 12, 2) := by decide +kernel
theorem dX3_init_7 : decode cX3_init 7 = .ok (.newarray .int, 2) := by decide +kernel
theorem dX3_init_9 : decode cX3_init 9 = .ok (.putfield 9, 3) := by decide +kernel
theorem dX3_init_12 : decode cX3_init 12 = .ok (.aload_n 0, 1) := by decide +kernel
theorem dX3_init_13 : decode cX3_init 13 = .ok (.bipush 40, 2) := by decide +kernel
theorem dX3_init_15 : decode cX3_init 15 = .ok (.putfield 15, 3) := by decide +kernel
theorem dX3_init_18 : decode cX3_init 18 = .ok (.return_, 1) := by decide +kernel
theorem dX3_setRoom_0 : decode cX3_setRoom 0 = .ok (.iload_n 1, 1) := by decide +kernel
theorem dX3_setRoom_1 : decode cX3_setRoom 1 = .ok (.iconst 1, 1) := by decide +kernel
theorem dX3_setRoom_2 : decode cX3_setRoom 2 = .ok (.if_icmp .lt 10, 3) := by decide +kernel
theorem dX3_setRoom_5 : decode cX3_setRoom 5 = .ok (.iload_n 1, 1) := by decide +kernel
theorem dX3_setRoom_6 : decode cX3_setRoom 6 = .ok (.sipush 200, 3) := by decide +kernel
theorem dX3_setRoom_9 : decode cX3_setRoom 9 = .ok (.if_icmp .le 5, 3) := by decide +kernel
theorem dX3_setRoom_12 : decode cX3_setRoom 12 = .ok (.iconst 0, 1) := by decide +kernel
theorem dX3_setRoom_13 : decode cX3_setRoom 13 = .ok (.ireturn, 1) := by decide +kernel
theorem dX3_setRoom_14 : decode cX3_setRoom 14 = .ok (.aload_n 0, 1) := by decide +kernel
theorem dX3_setRoom_15 : decode cX3_setRoom 15 = .ok (.iload_n 1, 1) := by decide +kernel
theorem dX3_setRoom_16 : decode cX3_setRoom 16 = .ok (.putfield 15, 3) := by decide +kernel
theorem dX3_setRoom_19 : decode cX3_setRoom 19 = .ok (.iconst 1, 1) := by decide +kernel
theorem dX3_setRoom_20 : decode cX3_setRoom 20 = .ok (.ireturn, 1) := by decide +kernel
set_option maxRecDepth 20000 in
theorem ggX3_passMinute_J9_floorMod_7cf53 : GoodIn wsX3_passMinute wsJ9_floorMod_7cf53 := goodIn_r _ [18] (by decide +kernel) (by decide +kernel)
set_option maxRecDepth 20000 in
theorem gX3_passMinute_J9_floorMod_7cf53 : GoodIn wsX3_passMinute (va_wsS RX3 25 yJ9_floorMod_7cf53 wsJ9_floorMod_7cf53) := goodIn_app (goodIn_of _ (by decide +kernel)) ggX3_passMinute_J9_floorMod_7cf53
theorem dX3_passMinute_0 : decode cX3_passMinute 0 = .ok (.iload_n 1, 1) := by decide +kernel
theorem dX3_passMinute_1 : decode cX3_passMinute 1 = .ok (.ifCond .lt 22, 3) := by decide +kernel
theorem dX3_passMinute_4 : decode cX3_passMinute 4 = .ok (.iload_n 1, 1) := by decide +kernel
theorem dX3_passMinute_5 : decode cX3_passMinute 5 = .ok (.sipush 500, 3) := by decide +kernel
theorem dX3_passMinute_8 : decode cX3_passMinute 8 = .ok (.if_icmp .gt 15, 3) := by decide +kernel
theorem dX3_passMinute_11 : decode cX3_passMinute 11 = .ok (.aload_n 0, 1) := by decide +kernel
theorem dX3_passMinute_12 : decode cX3_passMinute 12 = .ok (.getfield 19, 3) := by decide +kernel
theorem dX3_passMinute_15 : decode cX3_passMinute 15 = .ok (.iload_n 1, 1) := by decide +kernel
theorem dX3_passMinute_16 : decode cX3_passMinute 16 = .ok (.iadd, 1) := by decide +kernel
theorem dX3_passMinute_17 : decode cX3_passMinute 17 = .ok (.sipush 2000, 3) := by decide +kernel
theorem dX3_passMinute_20 : decode cX3_passMinute 20 = .ok (.if_icmp .le 5, 3) := by decide +kernel
theorem dX3_passMinute_23 : decode cX3_passMinute 23 = .ok (.iconst (-1), 1) := by decide +kernel
theorem dX3_passMinute_24 : decode cX3_passMinute 24 = .ok (.ireturn, 1) := by decide +kernel
theorem dX3_passMinute_25 : decode cX3_passMinute 25 = .ok (.aload_n 0, 1) := by decide +kernel
theorem dX3_passMinute_26 : decode cX3_passMinute 26 = .ok (.getfield 22, 3) := by decide +kernel
theorem dX3_passMinute_29 : decode cX3_passMinute 29 = .ok (.bipush 12, 2) := by decide +kernel
theorem dX3_passMinute_31 : decode cX3_passMinute 31 = .ok (.invokestatic 25, 3) := by decide +kernel
theorem dX3_passMinute_34 : decode cX3_passMinute 34 = .ok (.istore_n 2, 1) := by decide +kernel
theorem dX3_passMinute_35 : decode cX3_passMinute 35 = .ok (.aload_n 0, 1) := by decide +kernel
theorem dX3_passMinute_36 : decode cX3_passMinute 36 = .ok (.dup, 1) := by decide +kernel
theorem dX3_passMinute_37 : decode cX3_passMinute 37 = .ok (.getfield 31, 3) := by decide +kernel
theorem dX3_passMinute_40 : decode cX3_passMinute 40 = .ok (.aload_n 0, 1) := by decide +kernel
theorem dX3_passMinute_41 : decode cX3_passMinute 41 = .ok (.getfield 9, 3) := by decide +kernel
theorem dX3_passMinute_44 : decode cX3_passMinute 44 = .ok (.iload_n 2, 1) := by decide +kernel
theorem dX3_passMinute_45 : decode cX3_passMinute 45 = .ok (.iaload, 1) := by decide +kernel
theorem dX3_passMinute_46 : decode cX3_passMinute 46 = .ok (.isub, 1) := by decide +kernel
theorem dX3_passMinute_47 : decode cX3_passMinute 47 = .ok (.putfield 31, 3) := by decide +kernel
theorem dX3_passMinute_50 : decode cX3_passMinute 50 = .ok (.aload_n 0, 1) := by decide +kernel
theorem dX3_passMinute_51 : decode cX3_passMinute 51 = .ok (.dup, 1) := by decide +kernel
theorem dX3_passMinute_52 : decode cX3_passMinute 52 = .ok (.getfield 34, 3) := by decide +kernel
theorem dX3_passMinute_55 : decode cX3_passMinute 55 = .ok (.aload_n 0, 1) := by decide +kernel
theorem dX3_passMinute_56 : decode cX3_passMinute 56 = .ok (.getfield 9, 3) := by decide +kernel
theorem dX3_passMinute_59 : decode cX3_passMinute 59 = .ok (.iload_n 2, 1) := by decide +kernel
theorem dX3_passMinute_60 : decode cX3_passMinute 60 = .ok (.iaload, 1) := by decide +kernel
theorem dX3_passMinute_61 : decode cX3_passMinute 61 = .ok (.iadd, 1) := by decide +kernel
theorem dX3_passMinute_62 : decode cX3_passMinute 62 = .ok (.putfield 34, 3) := by decide +kernel
theorem dX3_passMinute_65 : decode cX3_passMinute 65 = .ok (.aload_n 0, 1) := by decide +kernel
theorem dX3_passMinute_66 : decode cX3_passMinute 66 = .ok (.dup, 1) := by decide +kernel
theorem dX3_passMinute_67 : decode cX3_passMinute 67 = .ok (.getfield 19, 3) := by decide +kernel
theorem dX3_passMinute_70 : decode cX3_passMinute 70 = .ok (.iload_n 1, 1) := by decide +kernel
theorem dX3_passMinute_71 : decode cX3_passMinute 71 = .ok (.iadd, 1) := by decide +kernel
theorem dX3_passMinute_72 : decode cX3_passMinute 72 = .ok (.putfield 19, 3) := by decide +kernel
theorem dX3_passMinute_75 : decode cX3_passMinute 75 = .ok (.aload_n 0, 1) := by decide +kernel
theorem dX3_passMinute_76 : decode cX3_passMinute 76 = .ok (.getfield 15, 3) := by decide +kernel
theorem dX3_passMinute_79 : decode cX3_passMinute 79 = .ok (.aload_n 0, 1) := by decide +kernel
theorem dX3_passMinute_80 : decode cX3_passMinute 80 = .ok (.getfield 31, 3) := by decide +kernel
theorem dX3_passMinute_83 : decode cX3_passMinute 83 = .ok (.isub, 1) := by decide +kernel
theorem dX3_passMinute_84 : decode cX3_passMinute 84 = .ok (.iconst 0, 1) := by decide +kernel
theorem dX3_passMinute_85 : decode cX3_passMinute 85 = .ok (.invokestatic 37, 3) := by decide +kernel
theorem dX3_passMinute_88 : decode cX3_passMinute 88 = .ok (.istore_n 3, 1) := by decide +kernel
theorem dX3_passMinute_89 : decode cX3_passMinute 89 = .ok (.iload_n 3, 1) := by decide +kernel
theorem dX3_passMinute_90 : decode cX3_passMinute 90 = .ok (.aload_n 0, 1) := by decide +kernel
theorem dX3_passMinute_91 : decode cX3_passMinute 91 = .ok (.getfield 19, 3) := by decide +kernel
theorem dX3_passMinute_94 : decode cX3_passMinute 94 = .ok (.invokestatic 40, 3) := by decide +kernel
theorem dX3_passMinute_97 : decode cX3_passMinute 97 = .ok (.bipush 8, 2) := by decide +kernel
theorem dX3_passMinute_99 : decode cX3_passMinute 99 = .ok (.invokestatic 40, 3) := by decide +kernel
theorem dX3_passMinute_102 : decode cX3_passMinute 102 = .ok (.istore 4, 2) := by decide +kernel
theorem dX3_passMinute_104 : decode cX3_passMinute 104 = .ok (.aload_n 0, 1) := by decide +kernel
theorem dX3_passMinute_105 : decode cX3_passMinute 105 = .ok (.getfield 9, 3) := by decide +kernel
theorem dX3_passMinute_108 : decode cX3_passMinute 108 = .ok (.iload_n 2, 1) := by decide +kernel
theorem dX3_passMinute_109 : decode cX3_passMinute 109 = .ok (.iload 4, 2) := by decide +kernel
theorem dX3_passMinute_111 : decode cX3_passMinute 111 = .ok (.iastore, 1) := by decide +kernel
theorem dX3_passMinute_112 : decode cX3_passMinute 112 = .ok (.aload_n 0, 1) := by decide +kernel
theorem dX3_passMinute_113 : decode cX3_passMinute 113 = .ok (.dup, 1) := by decide +kernel
theorem dX3_passMinute_114 : decode cX3_passMinute 114 = .ok (.getfield 19, 3) := by decide +kernel
theorem dX3_passMinute_117 : decode cX3_passMinute 117 = .ok (.iload 4, 2) := by decide +kernel
theorem dX3_passMinute_119 : decode cX3_passMinute 119 = .ok (.isub, 1) := by decide +kernel
theorem dX3_passMinute_120 : decode cX3_passMinute 120 = .ok (.putfield 19, 3) := by decide +kernel
theorem dX3_passMinute_123 : decode cX3_passMinute 123 = .ok (.aload_n 0, 1) := by decide +kernel
theorem dX3_passMinute_124 : decode cX3_passMinute 124 = .ok (.dup, 1) := by decide +kernel
theorem dX3_passMinute_125 : decode cX3_passMinute 125 = .ok (.getfield 31, 3) := by decide +kernel
theorem dX3_passMinute_128 : decode cX3_passMinute 128 = .ok (.iload 4, 2) := by decide +kernel
theorem dX3_passMinute_130 : decode cX3_passMinute 130 = .ok (.iadd, 1) := by decide +kernel
theorem dX3_passMinute_131 : decode cX3_passMinute 131 = .ok (.putfield 31, 3) := by decide +kernel
theorem dX3_passMinute_134 : decode cX3_passMinute 134 = .ok (.aload_n 0, 1) := by decide +kernel
theorem dX3_passMinute_135 : decode cX3_passMinute 135 = .ok (.dup, 1) := by decide +kernel
theorem dX3_passMinute_136 : decode cX3_passMinute 136 = .ok (.getfield 22, 3) := by decide +kernel
theorem dX3_passMinute_139 : decode cX3_passMinute 139 = .ok (.iconst 1, 1) := by decide +kernel
theorem dX3_passMinute_140 : decode cX3_passMinute 140 = .ok (.iadd, 1) := by decide +kernel
theorem dX3_passMinute_141 : decode cX3_passMinute 141 = .ok (.putfield 22, 3) := by decide +kernel
theorem dX3_passMinute_144 : decode cX3_passMinute 144 = .ok (.aload_n 0, 1) := by decide +kernel
theorem dX3_passMinute_145 : decode cX3_passMinute 145 = .ok (.aload_n 0, 1) := by decide +kernel
theorem dX3_passMinute_146 : decode cX3_passMinute 146 = .ok (.getfield 43, 3) := by decide +kernel
theorem dX3_passMinute_149 : decode cX3_passMinute 149 = .ok (.aload_n 0, 1) := by decide +kernel
theorem dX3_passMinute_150 : decode cX3_passMinute 150 = .ok (.getfield 31, 3) := by decide +kernel
theorem dX3_passMinute_153 : decode cX3_passMinute 153 = .ok (.invokestatic 37, 3) := by decide +kernel
theorem dX3_passMinute_156 : decode cX3_passMinute 156 = .ok (.putfield 43, 3) := by decide +kernel
theorem dX3_passMinute_159 : decode cX3_passMinute 159 = .ok (.iload 4, 2) := by decide +kernel
theorem dX3_passMinute_161 : decode cX3_passMinute 161 = .ok (.ireturn, 1) := by decide +kernel
theorem dX3_tell_0 : decode cX3_tell 0 = .ok (.iload_n 1, 1) := by decide +kernel
theorem dX3_tell_1 : decode cX3_tell 1 = .ok (.tableswitch 69 0 5 #[39, 44, 49, 54, 59, 64], 39) := by decide +kernel
theorem dX3_tell_40 : decode cX3_tell 40 = .ok (.aload_n 0, 1) := by decide +kernel
theorem dX3_tell_41 : decode cX3_tell 41 = .ok (.getfield 31, 3) := by decide +kernel
theorem dX3_tell_44 : decode cX3_tell 44 = .ok (.ireturn, 1) := by decide +kernel
theorem dX3_tell_45 : decode cX3_tell 45 = .ok (.aload_n 0, 1) := by decide +kernel
theorem dX3_tell_46 : decode cX3_tell 46 = .ok (.getfield 19, 3) := by decide +kernel
theorem dX3_tell_49 : decode cX3_tell 49 = .ok (.ireturn, 1) := by decide +kernel
theorem dX3_tell_50 : decode cX3_tell 50 = .ok (.aload_n 0, 1) := by decide +kernel
theorem dX3_tell_51 : decode cX3_tell 51 = .ok (.getfield 34, 3) := by decide +kernel
theorem dX3_tell_54 : decode cX3_tell 54 = .ok (.ireturn, 1) := by decide +kernel
theorem dX3_tell_55 : decode cX3_tell 55 = .ok (.aload_n 0, 1) := by decide +kernel
theorem dX3_tell_56 : decode cX3_tell 56 = .ok (.getfield 22, 3) := by decide +kernel
theorem dX3_tell_59 : decode cX3_tell 59 = .ok (.ireturn, 1) := by decide +kernel
theorem dX3_tell_60 : decode cX3_tell 60 = .ok (.aload_n 0, 1) := by decide +kernel
theorem dX3_tell_61 : decode cX3_tell 61 = .ok (.getfield 43, 3) := by decide +kernel
theorem dX3_tell_64 : decode cX3_tell 64 = .ok (.ireturn, 1) := by decide +kernel
theorem dX3_tell_65 : decode cX3_tell 65 = .ok (.aload_n 0, 1) := by decide +kernel
theorem dX3_tell_66 : decode cX3_tell 66 = .ok (.getfield 15, 3) := by decide +kernel
theorem dX3_tell_69 : decode cX3_tell 69 = .ok (.ireturn, 1) := by decide +kernel
theorem dX3_tell_70 : decode cX3_tell 70 = .ok (.iconst (-1), 1) := by decide +kernel
theorem dX3_tell_71 : decode cX3_tell 71 = .ok (.ireturn, 1) := by decide +kernel
theorem dX4_init_0 : decode cX4_init 0 = .ok (.aload_n 0, 1) := by decide +kernel
theorem dX4_init_1 : decode cX4_init 1 = .ok (.invokespecial 3, 3) := by decide +kernel
theorem dX4_init_4 : decode cX4_init 4 = .ok (.aload_n 0, 1) := by decide +kernel
theorem dX4_init_5 : decode cX4_init 5 = .ok (.sipush 9600, 3) := by decide +kernel
theorem dX4_init_8 : decode cX4_init 8 = .ok (.newarray .byte, 2) := by decide +kernel
theorem dX4_init_10 : decode cX4_init 10 = .ok (.putfield 9, 3) := by decide +kernel
theorem dX4_init_13 : decode cX4_init 13 = .ok (.aload_n 0, 1) := by decide +kernel
theorem dX4_init_14 : decode cX4_init 14 = .ok (.bipush 72, 2) := by decide +kernel
theorem dX4_init_16 : decode cX4_init 16 = .ok (.newarray .int, 2) := by decide +kernel
theorem dX4_init_18 : decode cX4_init 18 = .ok (.putfield 15, 3) := by decide +kernel
theorem dX4_init_21 : decode cX4_init 21 = .ok (.return_, 1) := by decide +kernel
theorem dX4_isMark_0 : decode cX4_isMark 0 = .ok (.iload_n 0, 1) := by decide +kernel
theorem dX4_isMark_1 : decode cX4_isMark 1 = .ok (.ifCond .lt 33, 3) := by decide +kernel
theorem dX4_isMark_4 : decode cX4_isMark 4 = .ok (.iload_n 0, 1) := by decide +kernel
theorem dX4_isMark_5 : decode cX4_isMark 5 = .ok (.bipush 12, 2) := by decide +kernel
theorem dX4_isMark_7 : decode cX4_isMark 7 = .ok (.if_icmp .ge 27, 3) := by decide +kernel
theorem dX4_isMark_10 : decode cX4_isMark 10 = .ok (.iload_n 1, 1) := by decide +kernel
theorem dX4_isMark_11 : decode cX4_isMark 11 = .ok (.ifCond .lt 23, 3) := by decide +kernel
theorem dX4_isMark_14 : decode cX4_isMark 14 = .ok (.iload_n 1, 1) := by decide +kernel
theorem dX4_isMark_15 : decode cX4_isMark 15 = .ok (.bipush 40, 2) := by decide +kernel
theorem dX4_isMark_17 : decode cX4_isMark 17 = .ok (.if_icmp .ge 17, 3) := by decide +kernel
theorem dX4_isMark_20 : decode cX4_isMark 20 = .ok (.iload_n 2, 1) := by decide +kernel
theorem dX4_isMark_21 : decode cX4_isMark 21 = .ok (.ifCond .lt 13, 3) := by decide +kernel
theorem dX4_isMark_24 : decode cX4_isMark 24 = .ok (.iload_n 2, 1) := by decide +kernel
theorem dX4_isMark_25 : decode cX4_isMark 25 = .ok (.bipush 20, 2) := by decide +kernel
theorem dX4_isMark_27 : decode cX4_isMark 27 = .ok (.if_icmp .ge 7, 3) := by decide +kernel
theorem dX4_isMark_30 : decode cX4_isMark 30 = .ok (.iconst 1, 1) := by decide +kernel
theorem dX4_isMark_31 : decode cX4_isMark 31 = .ok (.goto 4, 3) := by decide +kernel
theorem dX4_isMark_34 : decode cX4_isMark 34 = .ok (.iconst 0, 1) := by decide +kernel
theorem dX4_isMark_35 : decode cX4_isMark 35 = .ok (.ireturn, 1) := by decide +kernel
theorem dX4_isPlace_0 : decode cX4_isPlace 0 = .ok (.iload_n 0, 1) := by decide +kernel
theorem dX4_isPlace_1 : decode cX4_isPlace 1 = .ok (.ifCond .lt 24, 3) := by decide +kernel
theorem dX4_isPlace_4 : decode cX4_isPlace 4 = .ok (.iload_n 0, 1) := by decide +kernel
theorem dX4_isPlace_5 : decode cX4_isPlace 5 = .ok (.sipush 360, 3) := by decide +kernel
theorem dX4_isPlace_8 : decode cX4_isPlace 8 = .ok (.if_icmp .ge 17, 3) := by decide +kernel
theorem dX4_isPlace_11 : decode cX4_isPlace 11 = .ok (.iload_n 1, 1) := by decide +kernel
theorem dX4_isPlace_12 : decode cX4_isPlace 12 = .ok (.ifCond .lt 13, 3) := by decide +kernel
theorem dX4_isPlace_15 : decode cX4_isPlace 15 = .ok (.iload_n 1, 1) := by decide +kernel
theorem dX4_isPlace_16 : decode cX4_isPlace 16 = .ok (.bipush 20, 2) := by decide +kernel
theorem dX4_isPlace_18 : decode cX4_isPlace 18 = .ok (.if_icmp .ge 7, 3) := by decide +kernel
theorem dX4_isPlace_21 : decode cX4_isPlace 21 = .ok (.iconst 1, 1) := by decide +kernel
theorem dX4_isPlace_22 : decode cX4_isPlace 22 = .ok (.goto 4, 3) := by decide +kernel
theorem dX4_isPlace_25 : decode cX4_isPlace 25 = .ok (.iconst 0, 1) := by decide +kernel
theorem dX4_isPlace_26 : decode cX4_isPlace 26 = .ok (.ireturn, 1) := by decide +kernel
theorem dX4_isColour_0 : decode cX4_isColour 0 = .ok (.iload_n 0, 1) := by decide +kernel
theorem dX4_isColour_1 : decode cX4_isColour 1 = .ok (.ifCond .lt 13, 3) := by decide +kernel
theorem dX4_isColour_4 : decode cX4_isColour 4 = .ok (.iload_n 0, 1) := by decide +kernel
theorem dX4_isColour_5 : decode cX4_isColour 5 = .ok (.bipush 7, 2) := by decide +kernel
theorem dX4_isColour_7 : decode cX4_isColour 7 = .ok (.if_icmp .gt 7, 3) := by decide +kernel
theorem dX4_isColour_10 : decode cX4_isColour 10 = .ok (.iconst 1, 1) := by decide +kernel
theorem dX4_isColour_11 : decode cX4_isColour 11 = .ok (.goto 4, 3) := by decide +kernel
theorem dX4_isColour_14 : decode cX4_isColour 14 = .ok (.iconst 0, 1) := by decide +kernel
theorem dX4_isColour_15 : decode cX4_isColour 15 = .ok (.ireturn, 1) := by decide +kernel
set_option maxRecDepth 20000 in
theorem ggX4_columnOf_X4_offsetOf : GoodIn wsX4_columnOf wsX4_offsetOf := goodIn_r _ [4] (by decide +kernel) (by decide +kernel)
set_option maxRecDepth 20000 in
theorem gX4_columnOf_X4_offsetOf : GoodIn wsX4_columnOf (va_wsS RX4 19 yX4_offsetOf wsX4_offsetOf) := goodIn_app (goodIn_of _ (by decide +kernel)) ggX4_columnOf_X4_offsetOf
set_option maxRecDepth 20000 in
theorem ggX4_columnOf_J9_floorMod_7cf53 : GoodIn wsX4_columnOf wsJ9_floorMod_7cf53 := goodIn_r _ [8] (by decide +kernel) (by decide +kernel)
set_option maxRecDepth 20000 in
theorem gX4_columnOf_J9_floorMod_7cf53 : GoodIn wsX4_columnOf (va_wsS RX4 23 yJ9_floorMod_7cf53 wsJ9_floorMod_7cf53) := goodIn_app (goodIn_of _ (by decide +kernel)) ggX4_columnOf_J9_floorMod_7cf53
theorem dX4_columnOf_0 : decode cX4_columnOf 0 = .ok (.bipush 30, 2) := by decide +kernel
theorem dX4_columnOf_2 : decode cX4_columnOf 2 = .ok (.iload_n 0, 1) := by decide +kernel
theorem dX4_columnOf_3 : decode cX4_columnOf 3 = .ok (.imul, 1) := by decide +kernel
theorem dX4_columnOf_4 : decode cX4_columnOf 4 = .ok (.iload_n 1, 1) := by decide +kernel
theorem dX4_columnOf_5 : decode cX4_columnOf 5 = .ok (.invokestatic 19, 3) := by decide +kernel
theorem dX4_columnOf_8 : decode cX4_columnOf 8 = .ok (.iadd, 1) := by decide +kernel
theorem dX4_columnOf_9 : decode cX4_columnOf 9 = .ok (.sipush 360, 3) := by decide +kernel
theorem dX4_columnOf_12 : decode cX4_columnOf 12 = .ok (.invokestatic 23, 3) := by decide +kernel
theorem dX4_columnOf_15 : decode cX4_columnOf 15 = .ok (.ireturn, 1) := by decide +kernel
set_option maxRecDepth 20000 in
theorem ggX4_rowOf_X4_stretchOf : GoodIn wsX4_rowOf wsX4_stretchOf := goodIn_r _ [4] (by decide +kernel) (by decide +kernel)
set_option maxRecDepth 20000 in
theorem gX4_rowOf_X4_stretchOf : GoodIn wsX4_rowOf (va_wsS RX4 29 yX4_stretchOf wsX4_stretchOf) := goodIn_app (goodIn_of _ (by decide +kernel)) ggX4_rowOf_X4_stretchOf
theorem dX4_rowOf_0 : decode cX4_rowOf 0 = .ok (.iload_n 1, 1) := by decide +kernel
theorem dX4_rowOf_1 : decode cX4_rowOf 1 = .ok (.sipush 1000, 3) := by decide +kernel
theorem dX4_rowOf_4 : decode cX4_rowOf 4 = .ok (.imul, 1) := by decide +kernel
theorem dX4_rowOf_5 : decode cX4_rowOf 5 = .ok (.iload_n 0, 1) := by decide +kernel
theorem dX4_rowOf_6 : decode cX4_rowOf 6 = .ok (.invokestatic 29, 3) := by decide +kernel
theorem dX4_rowOf_9 : decode cX4_rowOf 9 = .ok (.idiv, 1) := by decide +kernel
theorem dX4_rowOf_10 : decode cX4_rowOf 10 = .ok (.ireturn, 1) := by decide +kernel
theorem dX4_offsetOf_0 : decode cX4_offsetOf 0 = .ok (.iload_n 0, 1) := by decide +kernel
theorem dX4_offsetOf_1 : decode cX4_offsetOf 1 = .ok (.bipush 20, 2) := by decide +kernel
theorem dX4_offsetOf_3 : decode cX4_offsetOf 3 = .ok (.isub, 1) := by decide +kernel
theorem dX4_offsetOf_4 : decode cX4_offsetOf 4 = .ok (.istore_n 1, 1) := by decide +kernel
theorem dX4_offsetOf_5 : decode cX4_offsetOf 5 = .ok (.iload_n 1, 1) := by decide +kernel
theorem dX4_offsetOf_6 : decode cX4_offsetOf 6 = .ok (.iload_n 1, 1) := by decide +kernel
theorem dX4_offsetOf_7 : decode cX4_offsetOf 7 = .ok (.iload_n 1, 1) := by decide +kernel
theorem dX4_offsetOf_8 : decode cX4_offsetOf 8 = .ok (.imul, 1) := by decide +kernel
theorem dX4_offsetOf_9 : decode cX4_offsetOf 9 = .ok (.iload_n 1, 1) := by decide +kernel
theorem dX4_offsetOf_10 : decode cX4_offsetOf 10 = .ok (.imul, 1) := by decide +kernel
theorem dX4_offsetOf_11 : decode cX4_offsetOf 11 = .ok (.sipush 6000, 3) := by decide +kernel
theorem dX4_offsetOf_14 : decode cX4_offsetOf 14 = .ok (.idiv, 1) := by decide +kernel
theorem dX4_offsetOf_15 : decode cX4_offsetOf 15 = .ok (.isub, 1) := by decide +kernel
theorem dX4_offsetOf_16 : decode cX4_offsetOf 16 = .ok (.ireturn, 1) := by decide +kernel
theorem dX4_stretchOf_0 : decode cX4_stretchOf 0 = .ok (.iload_n 0, 1) := by decide +kernel
theorem dX4_stretchOf_1 : decode cX4_stretchOf 1 = .ok (.bipush 20, 2) := by decide +kernel
theorem dX4_stretchOf_3 : decode cX4_stretchOf 3 = .ok (.isub, 1) := by decide +kernel
theorem dX4_stretchOf_4 : decode cX4_stretchOf 4 = .ok (.istore_n 1, 1) := by decide +kernel
theorem dX4_stretchOf_5 : decode cX4_stretchOf 5 = .ok (.sipush 1000, 3) := by decide +kernel
theorem dX4_stretchOf_8 : decode cX4_stretchOf 8 = .ok (.iload_n 1, 1) := by decide +kernel
theorem dX4_stretchOf_9 : decode cX4_stretchOf 9 = .ok (.iload_n 1, 1) := by decide +kernel
theorem dX4_stretchOf_10 : decode cX4_stretchOf 10 = .ok (.imul, 1) := by decide +kernel
theorem dX4_stretchOf_11 : decode cX4_stretchOf 11 = .ok (.iadd, 1) := by decide +kernel
theorem dX4_stretchOf_12 : decode cX4_stretchOf 12 = .ok (.ireturn, 1) := by decide +kernel
theorem dX4_squareOf_0 : decode cX4_squareOf 0 = .ok (.iload_n 0, 1) := by decide +kernel
end
section
theorem dX4_squareOf_1 : decode cX4_squareOf 1 = .ok (.bipush 10, 2) := by decide +kernel
theorem dX4_squareOf_3 : decode cX4_squareOf 3 = .ok (.idiv, 1) := by decide +kernel
theorem dX4_squareOf_4 : decode cX4_squareOf 4 = .ok (.iload_n 1, 1) := by decide +kernel
theorem dX4_squareOf_5 : decode cX4_squareOf 5 = .ok (.bipush 10, 2) := by decide +kernel
theorem dX4_squareOf_7 : decode cX4_squareOf 7 = .ok (.if_icmp .ge 8, 3) := by decide +kernel
theorem dX4_squareOf_10 : decode cX4_squareOf 10 = .ok (.bipush 36, 2) := by decide +kernel
theorem dX4_squareOf_12 : decode cX4_squareOf 12 = .ok (.goto 4, 3) := by decide +kernel
theorem dX4_squareOf_15 : decode cX4_squareOf 15 = .ok (.iconst 0, 1) := by decide +kernel
theorem dX4_squareOf_16 : decode cX4_squareOf 16 = .ok (.iadd, 1) := by decide +kernel
theorem dX4_squareOf_17 : decode cX4_squareOf 17 = .ok (.ireturn, 1) := by decide +kernel
theorem dX4_placeInMarks_0 : decode cX4_placeInMarks 0 = .ok (.iload_n 0, 1) := by decide +kernel
theorem dX4_placeInMarks_1 : decode cX4_placeInMarks 1 = .ok (.bipush 40, 2) := by decide +kernel
theorem dX4_placeInMarks_3 : decode cX4_placeInMarks 3 = .ok (.imul, 1) := by decide +kernel
theorem dX4_placeInMarks_4 : decode cX4_placeInMarks 4 = .ok (.iload_n 1, 1) := by decide +kernel
theorem dX4_placeInMarks_5 : decode cX4_placeInMarks 5 = .ok (.iadd, 1) := by decide +kernel
theorem dX4_placeInMarks_6 : decode cX4_placeInMarks 6 = .ok (.bipush 20, 2) := by decide +kernel
theorem dX4_placeInMarks_8 : decode cX4_placeInMarks 8 = .ok (.imul, 1) := by decide +kernel
theorem dX4_placeInMarks_9 : decode cX4_placeInMarks 9 = .ok (.iload_n 2, 1) := by decide +kernel
theorem dX4_placeInMarks_10 : decode cX4_placeInMarks 10 = .ok (.iadd, 1) := by decide +kernel
theorem dX4_placeInMarks_11 : decode cX4_placeInMarks 11 = .ok (.ireturn, 1) := by decide +kernel
set_option maxRecDepth 20000 in
theorem ggX4_setMark_X4_isMark : GoodIn wsX4_setMark wsX4_isMark := goodIn_r _ [6] (by decide +kernel) (by decide +kernel)
set_option maxRecDepth 20000 in
theorem gX4_setMark_X4_isMark : GoodIn wsX4_setMark (va_wsS RX4 32 yX4_isMark wsX4_isMark) := goodIn_app (goodIn_of _ (by decide +kernel)) ggX4_setMark_X4_isMark
set_option maxRecDepth 20000 in
theorem ggX4_setMark_X4_isColour : GoodIn wsX4_setMark wsX4_isColour := goodIn_r _ [9] (by decide +kernel) (by decide +kernel)
set_option maxRecDepth 20000 in
theorem gX4_setMark_X4_isColour : GoodIn wsX4_setMark (va_wsS RX4 36 yX4_isColour wsX4_isColour) := goodIn_app (goodIn_of _ (by decide +kernel)) ggX4_setMark_X4_isColour
set_option maxRecDepth 20000 in
theorem ggX4_setMark_X4_columnOf : GoodIn wsX4_setMark wsX4_columnOf := goodIn_r _ [12, 13, 14, 5, 15, 16, 17, 18, 19] (by decide +kernel) (by decide +kernel)
set_option maxRecDepth 20000 in
theorem gX4_setMark_X4_columnOf : GoodIn wsX4_setMark (va_wsS RX4 40 yX4_columnOf wsX4_columnOf) := goodIn_app (goodIn_of _ (by decide +kernel)) ggX4_setMark_X4_columnOf
set_option maxRecDepth 20000 in
theorem ggX4_setMark_X4_rowOf : GoodIn wsX4_setMark wsX4_rowOf := goodIn_r _ [22, 23, 24, 5, 25] (by decide +kernel) (by decide +kernel)
set_option maxRecDepth 20000 in
theorem gX4_setMark_X4_rowOf : GoodIn wsX4_setMark (va_wsS RX4 43 yX4_rowOf wsX4_rowOf) := goodIn_app (goodIn_of _ (by decide +kernel)) ggX4_setMark_X4_rowOf
set_option maxRecDepth 20000 in
theorem ggX4_setMark_X4_viewAt : GoodIn wsX4_setMark wsX4_viewAt := goodIn_r _ [29, 30, 31, 32, 5, 33, 16, 17, 18, 19, 13, 14, 15, 34, 35, 36, 37, 38, 39, 40, 41, 1, 23, 24, 25, 3, 4, 6, 42, 43, 44, 51, 52] (by decide +kernel) (by decide +kernel)
set_option maxRecDepth 20000 in
theorem gX4_setMark_X4_viewAt : GoodIn wsX4_setMark (wsV RX4 46 RX4 yX4_viewAt wsX4_viewAt) := goodIn_app (goodIn_of _ (by decide +kernel)) ggX4_setMark_X4_viewAt
set_option maxRecDepth 20000 in
theorem ggX4_setMark_X4_placeInMarks : GoodIn wsX4_setMark wsX4_placeInMarks := goodIn_r _ [44] (by decide +kernel) (by decide +kernel)
set_option maxRecDepth 20000 in
theorem gX4_setMark_X4_placeInMarks : GoodIn wsX4_setMark (va_wsS RX4 49 yX4_placeInMarks wsX4_placeInMarks) := goodIn_app (goodIn_of _ (by decide +kernel)) ggX4_setMark_X4_placeInMarks
set_option maxRecDepth 20000 in
theorem ggX4_setMark_X4_squareOf : GoodIn wsX4_setMark wsX4_squareOf := goodIn_r _ [47] (by decide +kernel) (by decide +kernel)
set_option maxRecDepth 20000 in
theorem gX4_setMark_X4_squareOf : GoodIn wsX4_setMark (va_wsS RX4 53 yX4_squareOf wsX4_squareOf) := goodIn_app (goodIn_of _ (by decide +kernel)) ggX4_setMark_X4_squareOf
set_option maxRecDepth 20000 in
theorem ggX4_setMark_X5_isSquare : GoodIn wsX4_setMark wsX5_isSquare := goodIn_r _ [50] (by decide +kernel) (by decide +kernel)
set_option maxRecDepth 20000 in
theorem gX4_setMark_X5_isSquare_n56 : GoodIn wsX4_setMark (wsX5_isSquare) := ggX4_setMark_X5_isSquare
theorem dX4_setMark_0 : decode cX4_setMark 0 = .ok (.iload_n 1, 1) := by decide +kernel
theorem dX4_setMark_1 : decode cX4_setMark 1 = .ok (.iload_n 2, 1) := by decide +kernel
theorem dX4_setMark_2 : decode cX4_setMark 2 = .ok (.iload_n 3, 1) := by decide +kernel
theorem dX4_setMark_3 : decode cX4_setMark 3 = .ok (.invokestatic 32, 3) := by decide +kernel
theorem dX4_setMark_6 : decode cX4_setMark 6 = .ok (.ifCond .eq 11, 3) := by decide +kernel
theorem dX4_setMark_9 : decode cX4_setMark 9 = .ok (.iload 4, 2) := by decide +kernel
theorem dX4_setMark_11 : decode cX4_setMark 11 = .ok (.invokestatic 36, 3) := by decide +kernel
theorem dX4_setMark_14 : decode cX4_setMark 14 = .ok (.ifCond .ne 5, 3) := by decide +kernel
theorem dX4_setMark_17 : decode cX4_setMark 17 = .ok (.iconst 0, 1) := by decide +kernel
theorem dX4_setMark_18 : decode cX4_setMark 18 = .ok (.ireturn, 1) := by decide +kernel
theorem dX4_setMark_19 : decode cX4_setMark 19 = .ok (.iload_n 1, 1) := by decide +kernel
theorem dX4_setMark_20 : decode cX4_setMark 20 = .ok (.iload_n 2, 1) := by decide +kernel
theorem dX4_setMark_21 : decode cX4_setMark 21 = .ok (.invokestatic 40, 3) := by decide +kernel
theorem dX4_setMark_24 : decode cX4_setMark 24 = .ok (.istore 5, 2) := by decide +kernel
theorem dX4_setMark_26 : decode cX4_setMark 26 = .ok (.iload_n 2, 1) := by decide +kernel
theorem dX4_setMark_27 : decode cX4_setMark 27 = .ok (.iload_n 3, 1) := by decide +kernel
theorem dX4_setMark_28 : decode cX4_setMark 28 = .ok (.invokestatic 43, 3) := by decide +kernel
theorem dX4_setMark_31 : decode cX4_setMark 31 = .ok (.istore 6, 2) := by decide +kernel
theorem dX4_setMark_33 : decode cX4_setMark 33 = .ok (.aload_n 0, 1) := by decide +kernel
theorem dX4_setMark_34 : decode cX4_setMark 34 = .ok (.iload 5, 2) := by decide +kernel
theorem dX4_setMark_36 : decode cX4_setMark 36 = .ok (.iload 6, 2) := by decide +kernel
theorem dX4_setMark_38 : decode cX4_setMark 38 = .ok (.invokevirtual 46, 3) := by decide +kernel
theorem dX4_setMark_41 : decode cX4_setMark 41 = .ok (.iconst (-1), 1) := by decide +kernel
theorem dX4_setMark_42 : decode cX4_setMark 42 = .ok (.if_icmp .ne 7, 3) := by decide +kernel
theorem dX4_setMark_45 : decode cX4_setMark 45 = .ok (.iconst 0, 1) := by decide +kernel
theorem dX4_setMark_46 : decode cX4_setMark 46 = .ok (.goto 4, 3) := by decide +kernel
theorem dX4_setMark_49 : decode cX4_setMark 49 = .ok (.iconst 1, 1) := by decide +kernel
theorem dX4_setMark_50 : decode cX4_setMark 50 = .ok (.istore 7, 2) := by decide +kernel
theorem dX4_setMark_52 : decode cX4_setMark 52 = .ok (.aload_n 0, 1) := by decide +kernel
theorem dX4_setMark_53 : decode cX4_setMark 53 = .ok (.getfield 9, 3) := by decide +kernel
theorem dX4_setMark_56 : decode cX4_setMark 56 = .ok (.iload_n 1, 1) := by decide +kernel
theorem dX4_setMark_57 : decode cX4_setMark 57 = .ok (.iload_n 2, 1) := by decide +kernel
theorem dX4_setMark_58 : decode cX4_setMark 58 = .ok (.iload_n 3, 1) := by decide +kernel
theorem dX4_setMark_59 : decode cX4_setMark 59 = .ok (.invokestatic 49, 3) := by decide +kernel
theorem dX4_setMark_62 : decode cX4_setMark 62 = .ok (.iload 4, 2) := by decide +kernel
theorem dX4_setMark_64 : decode cX4_setMark 64 = .ok (.i2b, 1) := by decide +kernel
theorem dX4_setMark_65 : decode cX4_setMark 65 = .ok (.bastore, 1) := by decide +kernel
theorem dX4_setMark_66 : decode cX4_setMark 66 = .ok (.aload_n 0, 1) := by decide +kernel
theorem dX4_setMark_67 : decode cX4_setMark 67 = .ok (.iload 5, 2) := by decide +kernel
theorem dX4_setMark_69 : decode cX4_setMark 69 = .ok (.iload 6, 2) := by decide +kernel
theorem dX4_setMark_71 : decode cX4_setMark 71 = .ok (.invokevirtual 46, 3) := by decide +kernel
theorem dX4_setMark_74 : decode cX4_setMark 74 = .ok (.iconst (-1), 1) := by decide +kernel
theorem dX4_setMark_75 : decode cX4_setMark 75 = .ok (.if_icmp .ne 7, 3) := by decide +kernel
theorem dX4_setMark_78 : decode cX4_setMark 78 = .ok (.iconst 0, 1) := by decide +kernel
theorem dX4_setMark_79 : decode cX4_setMark 79 = .ok (.goto 4, 3) := by decide +kernel
theorem dX4_setMark_82 : decode cX4_setMark 82 = .ok (.iconst 1, 1) := by decide +kernel
theorem dX4_setMark_83 : decode cX4_setMark 83 = .ok (.istore 8, 2) := by decide +kernel
theorem dX4_setMark_85 : decode cX4_setMark 85 = .ok (.iload 5, 2) := by decide +kernel
theorem dX4_setMark_87 : decode cX4_setMark 87 = .ok (.iload 6, 2) := by decide +kernel
theorem dX4_setMark_89 : decode cX4_setMark 89 = .ok (.invokestatic 53, 3) := by decide +kernel
theorem dX4_setMark_92 : decode cX4_setMark 92 = .ok (.istore 9, 2) := by decide +kernel
theorem dX4_setMark_94 : decode cX4_setMark 94 = .ok (.iload 9, 2) := by decide +kernel
theorem dX4_setMark_96 : decode cX4_setMark 96 = .ok (.invokestatic 56, 3) := by decide +kernel
theorem dX4_setMark_99 : decode cX4_setMark 99 = .ok (.ifCond .eq 18, 3) := by decide +kernel
theorem dX4_setMark_102 : decode cX4_setMark 102 = .ok (.aload_n 0, 1) := by decide +kernel
theorem dX4_setMark_103 : decode cX4_setMark 103 = .ok (.getfield 15, 3) := by decide +kernel
theorem dX4_setMark_106 : decode cX4_setMark 106 = .ok (.iload 9, 2) := by decide +kernel
theorem dX4_setMark_108 : decode cX4_setMark 108 = .ok (.dup2, 1) := by decide +kernel
theorem dX4_setMark_109 : decode cX4_setMark 109 = .ok (.iaload, 1) := by decide +kernel
theorem dX4_setMark_110 : decode cX4_setMark 110 = .ok (.iload 8, 2) := by decide +kernel
theorem dX4_setMark_112 : decode cX4_setMark 112 = .ok (.iload 7, 2) := by decide +kernel
theorem dX4_setMark_114 : decode cX4_setMark 114 = .ok (.isub, 1) := by decide +kernel
theorem dX4_setMark_115 : decode cX4_setMark 115 = .ok (.iadd, 1) := by decide +kernel
theorem dX4_setMark_116 : decode cX4_setMark 116 = .ok (.iastore, 1) := by decide +kernel
theorem dX4_setMark_117 : decode cX4_setMark 117 = .ok (.iconst 1, 1) := by decide +kernel
theorem dX4_setMark_118 : decode cX4_setMark 118 = .ok (.ireturn, 1) := by decide +kernel
set_option maxRecDepth 20000 in
theorem ggX4_drawLine_X4_isMark : GoodIn wsX4_drawLine wsX4_isMark := goodIn_r _ [11] (by decide +kernel) (by decide +kernel)
set_option maxRecDepth 20000 in
theorem gX4_drawLine_X4_isMark : GoodIn wsX4_drawLine (va_wsS RX4 32 yX4_isMark wsX4_isMark) := goodIn_app (goodIn_of _ (by decide +kernel)) ggX4_drawLine_X4_isMark
set_option maxRecDepth 20000 in
theorem ggX4_drawLine_X4_isColour : GoodIn wsX4_drawLine wsX4_isColour := goodIn_r _ [14] (by decide +kernel) (by decide +kernel)
set_option maxRecDepth 20000 in
theorem gX4_drawLine_X4_isColour : GoodIn wsX4_drawLine (va_wsS RX4 36 yX4_isColour wsX4_isColour) := goodIn_app (goodIn_of _ (by decide +kernel)) ggX4_drawLine_X4_isColour
set_option maxRecDepth 20000 in
theorem ggX4_drawLine_X4_partOfWay : GoodIn wsX4_drawLine wsX4_partOfWay := goodIn_r _ [17, 18, 19, 20, 21] (by decide +kernel) (by decide +kernel)
set_option maxRecDepth 20000 in
theorem gX4_drawLine_X4_partOfWay : GoodIn wsX4_drawLine (va_wsS RX4 65 yX4_partOfWay wsX4_partOfWay) := goodIn_app (goodIn_of _ (by decide +kernel)) ggX4_drawLine_X4_partOfWay
set_option maxRecDepth 20000 in
theorem ggX4_drawLine_X4_setMark : GoodIn wsX4_drawLine wsX4_setMark := goodIn_r _ [25, 26, 27, 8, 9, 10, 11, 12, 13, 14, 28, 29, 30, 31, 32, 33, 34, 35, 20, 36, 37, 38, 39, 40, 41, 42, 43, 44, 45, 46, 47, 48, 49, 50, 51, 52, 53, 54, 55, 56, 3, 57, 58, 59, 60, 61, 62, 63, 64, 65, 66, 67, 68] (by decide +kernel) (by decide +kernel)
set_option maxRecDepth 20000 in
theorem gX4_drawLine_X4_setMark : GoodIn wsX4_drawLine (wsV RX4 68 RX4 yX4_setMark wsX4_setMark) := goodIn_app (goodIn_of _ (by decide +kernel)) ggX4_drawLine_X4_setMark
theorem dX4_drawLine_0 : decode cX4_drawLine 0 = .ok (.iload_n 1, 1) := by decide +kernel
theorem dX4_drawLine_1 : decode cX4_drawLine 1 = .ok (.iload_n 2, 1) := by decide +kernel
theorem dX4_drawLine_2 : decode cX4_drawLine 2 = .ok (.iload_n 3, 1) := by decide +kernel
theorem dX4_drawLine_3 : decode cX4_drawLine 3 = .ok (.invokestatic 32, 3) := by decide +kernel
theorem dX4_drawLine_6 : decode cX4_drawLine 6 = .ok (.ifCond .eq 22, 3) := by decide +kernel
theorem dX4_drawLine_9 : decode cX4_drawLine 9 = .ok (.iload_n 1, 1) := by decide +kernel
theorem dX4_drawLine_10 : decode cX4_drawLine 10 = .ok (.iload 4, 2) := by decide +kernel
theorem dX4_drawLine_12 : decode cX4_drawLine 12 = .ok (.iload 5, 2) := by decide +kernel
theorem dX4_drawLine_14 : decode cX4_drawLine 14 = .ok (.invokestatic 32, 3) := by decide +kernel
theorem dX4_drawLine_17 : decode cX4_drawLine 17 = .ok (.ifCond .eq 11, 3) := by decide +kernel
theorem dX4_drawLine_20 : decode cX4_drawLine 20 = .ok (.iload 6, 2) := by decide +kernel
theorem dX4_drawLine_22 : decode cX4_drawLine 22 = .ok (.invokestatic 36, 3) := by decide +kernel
theorem dX4_drawLine_25 : decode cX4_drawLine 25 = .ok (.ifCond .ne 5, 3) := by decide +kernel
theorem dX4_drawLine_28 : decode cX4_drawLine 28 = .ok (.iconst (-1), 1) := by decide +kernel
theorem dX4_drawLine_29 : decode cX4_drawLine 29 = .ok (.ireturn, 1) := by decide +kernel
theorem dX4_drawLine_30 : decode cX4_drawLine 30 = .ok (.iload 4, 2) := by decide +kernel
theorem dX4_drawLine_32 : decode cX4_drawLine 32 = .ok (.iload_n 2, 1) := by decide +kernel
theorem dX4_drawLine_33 : decode cX4_drawLine 33 = .ok (.isub, 1) := by decide +kernel
theorem dX4_drawLine_34 : decode cX4_drawLine 34 = .ok (.invokestatic 59, 3) := by decide +kernel
theorem dX4_drawLine_37 : decode cX4_drawLine 37 = .ok (.iload 5, 2) := by decide +kernel
theorem dX4_drawLine_39 : decode cX4_drawLine 39 = .ok (.iload_n 3, 1) := by decide +kernel
theorem dX4_drawLine_40 : decode cX4_drawLine 40 = .ok (.isub, 1) := by decide +kernel
theorem dX4_drawLine_41 : decode cX4_drawLine 41 = .ok (.invokestatic 59, 3) := by decide +kernel
theorem dX4_drawLine_44 : decode cX4_drawLine 44 = .ok (.invokestatic 62, 3) := by decide +kernel
theorem dX4_drawLine_47 : decode cX4_drawLine 47 = .ok (.istore 7, 2) := by decide +kernel
theorem dX4_drawLine_49 : decode cX4_drawLine 49 = .ok (.iconst 0, 1) := by decide +kernel
theorem dX4_drawLine_50 : decode cX4_drawLine 50 = .ok (.istore 8, 2) := by decide +kernel
theorem dX4_drawLine_52 : decode cX4_drawLine 52 = .ok (.iload 8, 2) := by decide +kernel
theorem dX4_drawLine_54 : decode cX4_drawLine 54 = .ok (.iload 7, 2) := by decide +kernel
theorem dX4_drawLine_56 : decode cX4_drawLine 56 = .ok (.if_icmp .gt 43, 3) := by decide +kernel
theorem dX4_drawLine_59 : decode cX4_drawLine 59 = .ok (.aload_n 0, 1) := by decide +kernel
theorem dX4_drawLine_60 : decode cX4_drawLine 60 = .ok (.iload_n 1, 1) := by decide +kernel
theorem dX4_drawLine_61 : decode cX4_drawLine 61 = .ok (.iload_n 2, 1) := by decide +kernel
theorem dX4_drawLine_62 : decode cX4_drawLine 62 = .ok (.iload 8, 2) := by decide +kernel
theorem dX4_drawLine_64 : decode cX4_drawLine 64 = .ok (.iload 4, 2) := by decide +kernel
theorem dX4_drawLine_66 : decode cX4_drawLine 66 = .ok (.iload_n 2, 1) := by decide +kernel
theorem dX4_drawLine_67 : decode cX4_drawLine 67 = .ok (.isub, 1) := by decide +kernel
theorem dX4_drawLine_68 : decode cX4_drawLine 68 = .ok (.iload 7, 2) := by decide +kernel
theorem dX4_drawLine_70 : decode cX4_drawLine 70 = .ok (.invokestatic 65, 3) := by decide +kernel
theorem dX4_drawLine_73 : decode cX4_drawLine 73 = .ok (.iadd, 1) := by decide +kernel
theorem dX4_drawLine_74 : decode cX4_drawLine 74 = .ok (.iload_n 3, 1) := by decide +kernel
theorem dX4_drawLine_75 : decode cX4_drawLine 75 = .ok (.iload 8, 2) := by decide +kernel
theorem dX4_drawLine_77 : decode cX4_drawLine 77 = .ok (.iload 5, 2) := by decide +kernel
theorem dX4_drawLine_79 : decode cX4_drawLine 79 = .ok (.iload_n 3, 1) := by decide +kernel
theorem dX4_drawLine_80 : decode cX4_drawLine 80 = .ok (.isub, 1) := by decide +kernel
theorem dX4_drawLine_81 : decode cX4_drawLine 81 = .ok (.iload 7, 2) := by decide +kernel
theorem dX4_drawLine_83 : decode cX4_drawLine 83 = .ok (.invokestatic 65, 3) := by decide +kernel
theorem dX4_drawLine_86 : decode cX4_drawLine 86 = .ok (.iadd, 1) := by decide +kernel
theorem dX4_drawLine_87 : decode cX4_drawLine 87 = .ok (.iload 6, 2) := by decide +kernel
theorem dX4_drawLine_89 : decode cX4_drawLine 89 = .ok (.invokevirtual 68, 3) := by decide +kernel
theorem dX4_drawLine_92 : decode cX4_drawLine 92 = .ok (.pop, 1) := by decide +kernel
theorem dX4_drawLine_93 : decode cX4_drawLine 93 = .ok (.iinc 8 1, 3) := by decide +kernel
theorem dX4_drawLine_96 : decode cX4_drawLine 96 = .ok (.goto (-44), 3) := by decide +kernel
theorem dX4_drawLine_99 : decode cX4_drawLine 99 = .ok (.iload 7, 2) := by decide +kernel
theorem dX4_drawLine_101 : decode cX4_drawLine 101 = .ok (.iconst 1, 1) := by decide +kernel
theorem dX4_drawLine_102 : decode cX4_drawLine 102 = .ok (.iadd, 1) := by decide +kernel
theorem dX4_drawLine_103 : decode cX4_drawLine 103 = .ok (.ireturn, 1) := by decide +kernel
set_option maxRecDepth 20000 in
theorem ggX4_partOfWay_J9_floorDiv_7cf53 : GoodIn wsX4_partOfWay wsJ9_floorDiv_7cf53 := goodIn_r _ [4] (by decide +kernel) (by decide +kernel)
set_option maxRecDepth 20000 in
theorem gX4_partOfWay_J9_floorDiv_7cf53 : GoodIn wsX4_partOfWay (va_wsS RX4 72 yJ9_floorDiv_7cf53 wsJ9_floorDiv_7cf53) := goodIn_app (goodIn_of _ (by decide +kernel)) ggX4_partOfWay_J9_floorDiv_7cf53
theorem dX4_partOfWay_0 : decode cX4_partOfWay 0 = .ok (.iload_n 2, 1) := by decide +kernel
theorem dX4_partOfWay_1 : decode cX4_partOfWay 1 = .ok (.iconst 1, 1) := by decide +kernel
theorem dX4_partOfWay_2 : decode cX4_partOfWay 2 = .ok (.if_icmp .ge 7, 3) := by decide +kernel
theorem dX4_partOfWay_5 : decode cX4_partOfWay 5 = .ok (.iconst 0, 1) := by decide +kernel
theorem dX4_partOfWay_6 : decode cX4_partOfWay 6 = .ok (.goto 10, 3) := by decide +kernel
theorem dX4_partOfWay_9 : decode cX4_partOfWay 9 = .ok (.iload_n 0, 1) := by decide +kernel
theorem dX4_partOfWay_10 : decode cX4_partOfWay 10 = .ok (.iload_n 1, 1) := by decide +kernel
theorem dX4_partOfWay_11 : decode cX4_partOfWay 11 = .ok (.imul, 1) := by decide +kernel
theorem dX4_partOfWay_12 : decode cX4_partOfWay 12 = .ok (.iload_n 2, 1) := by decide +kernel
theorem dX4_partOfWay_13 : decode cX4_partOfWay 13 = .ok (.invokestatic 72, 3) := by decide +kernel
theorem dX4_partOfWay_16 : decode cX4_partOfWay 16 = .ok (.ireturn, 1) := by decide +kernel
set_option maxRecDepth 20000 in
theorem ggX4_colourAt_X4_viewAt : GoodIn wsX4_colourAt wsX4_viewAt := goodIn_r _ [5, 6, 7, 8, 4, 9, 10, 11, 12, 13, 14, 15, 16, 17, 18, 19, 20, 21, 22, 23, 24, 25, 26, 27, 28, 29, 30, 31, 32, 33, 34, 35, 36] (by decide +kernel) (by decide +kernel)
set_option maxRecDepth 20000 in
theorem gX4_colourAt_X4_viewAt : GoodIn wsX4_colourAt (wsV RX4 46 RX4 yX4_viewAt wsX4_viewAt) := goodIn_app (goodIn_of _ (by decide +kernel)) ggX4_colourAt_X4_viewAt
set_option maxRecDepth 20000 in
theorem ggX4_colourAt_X4_colourShown : GoodIn wsX4_colourAt wsX4_colourShown := goodIn_r _ [9, 10, 11, 12, 13, 14, 15, 4, 16, 17, 18, 19, 20, 21, 22, 23, 24, 25, 26, 27, 28, 29, 30, 31, 32, 33, 34, 35, 36] (by decide +kernel) (by decide +kernel)
set_option maxRecDepth 20000 in
theorem gX4_colourAt_X4_colourShown : GoodIn wsX4_colourAt (wsV RX4 75 RX4 yX4_colourShown wsX4_colourShown) := goodIn_app (goodIn_of _ (by decide +kernel)) ggX4_colourAt_X4_colourShown
theorem dX4_colourAt_0 : decode cX4_colourAt 0 = .ok (.aload_n 0, 1) := by decide +kernel
theorem dX4_colourAt_1 : decode cX4_colourAt 1 = .ok (.iload_n 1, 1) := by decide +kernel
theorem dX4_colourAt_2 : decode cX4_colourAt 2 = .ok (.iload_n 2, 1) := by decide +kernel
theorem dX4_colourAt_3 : decode cX4_colourAt 3 = .ok (.invokevirtual 46, 3) := by decide +kernel
theorem dX4_colourAt_6 : decode cX4_colourAt 6 = .ok (.istore_n 3, 1) := by decide +kernel
theorem dX4_colourAt_7 : decode cX4_colourAt 7 = .ok (.iload_n 3, 1) := by decide +kernel
theorem dX4_colourAt_8 : decode cX4_colourAt 8 = .ok (.iconst (-1), 1) := by decide +kernel
theorem dX4_colourAt_9 : decode cX4_colourAt 9 = .ok (.if_icmp .ne 7, 3) := by decide +kernel
theorem dX4_colourAt_12 : decode cX4_colourAt 12 = .ok (.iconst 0, 1) := by decide +kernel
theorem dX4_colourAt_13 : decode cX4_colourAt 13 = .ok (.goto 10, 3) := by decide +kernel
theorem dX4_colourAt_16 : decode cX4_colourAt 16 = .ok (.aload_n 0, 1) := by decide +kernel
theorem dX4_colourAt_17 : decode cX4_colourAt 17 = .ok (.iload_n 3, 1) := by decide +kernel
theorem dX4_colourAt_18 : decode cX4_colourAt 18 = .ok (.iload_n 1, 1) := by decide +kernel
theorem dX4_colourAt_19 : decode cX4_colourAt 19 = .ok (.iload_n 2, 1) := by decide +kernel
theorem dX4_colourAt_20 : decode cX4_colourAt 20 = .ok (.invokevirtual 75, 3) := by decide +kernel
theorem dX4_colourAt_23 : decode cX4_colourAt 23 = .ok (.ireturn, 1) := by decide +kernel
set_option maxRecDepth 20000 in
theorem ggX4_viewAt_X4_colourShown : GoodIn wsX4_viewAt wsX4_colourShown := goodIn_r _ [5, 6, 7, 8, 9, 10, 11, 4, 12, 13, 14, 15, 16, 17, 18, 19, 20, 21, 22, 23, 24, 25, 26, 27, 28, 29, 30, 31, 32] (by decide +kernel) (by decide +kernel)
set_option maxRecDepth 20000 in
theorem gX4_viewAt_X4_colourShown : GoodIn wsX4_viewAt (wsV RX4 75 RX4 yX4_colourShown wsX4_colourShown) := goodIn_app (goodIn_of _ (by decide +kernel)) ggX4_viewAt_X4_colourShown
theorem dX4_viewAt_0 : decode cX4_viewAt 0 = .ok (.iload_n 1, 1) := by decide +kernel
theorem dX4_viewAt_1 : decode cX4_viewAt 1 = .ok (.bipush 30, 2) := by decide +kernel
theorem dX4_viewAt_3 : decode cX4_viewAt 3 = .ok (.idiv, 1) := by decide +kernel
theorem dX4_viewAt_4 : decode cX4_viewAt 4 = .ok (.istore_n 3, 1) := by decide +kernel
theorem dX4_viewAt_5 : decode cX4_viewAt 5 = .ok (.iload_n 3, 1) := by decide +kernel
theorem dX4_viewAt_6 : decode cX4_viewAt 6 = .ok (.iconst 1, 1) := by decide +kernel
theorem dX4_viewAt_7 : decode cX4_viewAt 7 = .ok (.iadd, 1) := by decide +kernel
theorem dX4_viewAt_8 : decode cX4_viewAt 8 = .ok (.bipush 12, 2) := by decide +kernel
theorem dX4_viewAt_10 : decode cX4_viewAt 10 = .ok (.irem, 1) := by decide +kernel
theorem dX4_viewAt_11 : decode cX4_viewAt 11 = .ok (.istore 4, 2) := by decide +kernel
theorem dX4_viewAt_13 : decode cX4_viewAt 13 = .ok (.iload_n 1, 1) := by decide +kernel
theorem dX4_viewAt_14 : decode cX4_viewAt 14 = .ok (.bipush 30, 2) := by decide +kernel
theorem dX4_viewAt_16 : decode cX4_viewAt 16 = .ok (.irem, 1) := by decide +kernel
theorem dX4_viewAt_17 : decode cX4_viewAt 17 = .ok (.istore 5, 2) := by decide +kernel
theorem dX4_viewAt_19 : decode cX4_viewAt 19 = .ok (.bipush 30, 2) := by decide +kernel
theorem dX4_viewAt_21 : decode cX4_viewAt 21 = .ok (.iload 5, 2) := by decide +kernel
theorem dX4_viewAt_23 : decode cX4_viewAt 23 = .ok (.isub, 1) := by decide +kernel
theorem dX4_viewAt_24 : decode cX4_viewAt 24 = .ok (.istore 6, 2) := by decide +kernel
theorem dX4_viewAt_26 : decode cX4_viewAt 26 = .ok (.iload 5, 2) := by decide +kernel
theorem dX4_viewAt_28 : decode cX4_viewAt 28 = .ok (.iload 6, 2) := by decide +kernel
theorem dX4_viewAt_30 : decode cX4_viewAt 30 = .ok (.if_icmp .lt 16, 3) := by decide +kernel
theorem dX4_viewAt_33 : decode cX4_viewAt 33 = .ok (.iload 5, 2) := by decide +kernel
theorem dX4_viewAt_35 : decode cX4_viewAt 35 = .ok (.iload 6, 2) := by decide +kernel
theorem dX4_viewAt_37 : decode cX4_viewAt 37 = .ok (.if_icmp .ne 13, 3) := by decide +kernel
theorem dX4_viewAt_40 : decode cX4_viewAt 40 = .ok (.iload_n 3, 1) := by decide +kernel
theorem dX4_viewAt_41 : decode cX4_viewAt 41 = .ok (.iload 4, 2) := by decide +kernel
theorem dX4_viewAt_43 : decode cX4_viewAt 43 = .ok (.if_icmp .ge 7, 3) := by decide +kernel
theorem dX4_viewAt_46 : decode cX4_viewAt 46 = .ok (.iconst 1, 1) := by decide +kernel
theorem dX4_viewAt_47 : decode cX4_viewAt 47 = .ok (.goto 4, 3) := by decide +kernel
theorem dX4_viewAt_50 : decode cX4_viewAt 50 = .ok (.iconst 0, 1) := by decide +kernel
theorem dX4_viewAt_51 : decode cX4_viewAt 51 = .ok (.istore 7, 2) := by decide +kernel
theorem dX4_viewAt_53 : decode cX4_viewAt 53 = .ok (.iload 7, 2) := by decide +kernel
theorem dX4_viewAt_55 : decode cX4_viewAt 55 = .ok (.ifCond .eq 7, 3) := by decide +kernel
theorem dX4_viewAt_58 : decode cX4_viewAt 58 = .ok (.iload_n 3, 1) := by decide +kernel
theorem dX4_viewAt_59 : decode cX4_viewAt 59 = .ok (.goto 5, 3) := by decide +kernel
theorem dX4_viewAt_62 : decode cX4_viewAt 62 = .ok (.iload 4, 2) := by decide +kernel
theorem dX4_viewAt_64 : decode cX4_viewAt 64 = .ok (.istore 8, 2) := by decide +kernel
theorem dX4_viewAt_66 : decode cX4_viewAt 66 = .ok (.iload 7, 2) := by decide +kernel
theorem dX4_viewAt_68 : decode cX4_viewAt 68 = .ok (.ifCond .eq 8, 3) := by decide +kernel
theorem dX4_viewAt_71 : decode cX4_viewAt 71 = .ok (.iload 4, 2) := by decide +kernel
theorem dX4_viewAt_73 : decode cX4_viewAt 73 = .ok (.goto 4, 3) := by decide +kernel
theorem dX4_viewAt_76 : decode cX4_viewAt 76 = .ok (.iload_n 3, 1) := by decide +kernel
theorem dX4_viewAt_77 : decode cX4_viewAt 77 = .ok (.istore 9, 2) := by decide +kernel
theorem dX4_viewAt_79 : decode cX4_viewAt 79 = .ok (.aload_n 0, 1) := by decide +kernel
theorem dX4_viewAt_80 : decode cX4_viewAt 80 = .ok (.iload 8, 2) := by decide +kernel
theorem dX4_viewAt_82 : decode cX4_viewAt 82 = .ok (.iload_n 1, 1) := by decide +kernel
theorem dX4_viewAt_83 : decode cX4_viewAt 83 = .ok (.iload_n 2, 1) := by decide +kernel
theorem dX4_viewAt_84 : decode cX4_viewAt 84 = .ok (.invokevirtual 75, 3) := by decide +kernel
theorem dX4_viewAt_87 : decode cX4_viewAt 87 = .ok (.ifCond .eq 6, 3) := by decide +kernel
theorem dX4_viewAt_90 : decode cX4_viewAt 90 = .ok (.iload 8, 2) := by decide +kernel
theorem dX4_viewAt_92 : decode cX4_viewAt 92 = .ok (.ireturn, 1) := by decide +kernel
theorem dX4_viewAt_93 : decode cX4_viewAt 93 = .ok (.aload_n 0, 1) := by decide +kernel
theorem dX4_viewAt_94 : decode cX4_viewAt 94 = .ok (.iload 9, 2) := by decide +kernel
theorem dX4_viewAt_96 : decode cX4_viewAt 96 = .ok (.iload_n 1, 1) := by decide +kernel
theorem dX4_viewAt_97 : decode cX4_viewAt 97 = .ok (.iload_n 2, 1) := by decide +kernel
theorem dX4_viewAt_98 : decode cX4_viewAt 98 = .ok (.invokevirtual 75, 3) := by decide +kernel
theorem dX4_viewAt_101 : decode cX4_viewAt 101 = .ok (.ifCond .eq 8, 3) := by decide +kernel
theorem dX4_viewAt_104 : decode cX4_viewAt 104 = .ok (.iload 9, 2) := by decide +kernel
theorem dX4_viewAt_106 : decode cX4_viewAt 106 = .ok (.goto 4, 3) := by decide +kernel
theorem dX4_viewAt_109 : decode cX4_viewAt 109 = .ok (.iconst (-1), 1) := by decide +kernel
theorem dX4_viewAt_110 : decode cX4_viewAt 110 = .ok (.ireturn, 1) := by decide +kernel
set_option maxRecDepth 20000 in
theorem ggX4_quarrelsBehind_X4_colourShown : GoodIn wsX4_quarrelsBehind wsX4_colourShown := goodIn_r _ [5, 6, 7, 8, 9, 10, 11, 4, 12, 13, 14, 15, 16, 17, 18, 19, 20, 21, 22, 23, 24, 25, 26, 27, 28, 29, 30, 31, 32] (by decide +kernel) (by decide +kernel)
set_option maxRecDepth 20000 in
theorem gX4_quarrelsBehind_X4_colourShown : GoodIn wsX4_quarrelsBehind (wsV RX4 75 RX4 yX4_colourShown wsX4_colourShown) := goodIn_app (goodIn_of _ (by decide +kernel)) ggX4_quarrelsBehind_X4_colourShown
theorem dX4_quarrelsBehind_0 : decode cX4_quarrelsBehind 0 = .ok (.iload_n 1, 1) := by decide +kernel
theorem dX4_quarrelsBehind_1 : decode cX4_quarrelsBehind 1 = .ok (.ifCond .lt 9, 3) := by decide +kernel
theorem dX4_quarrelsBehind_4 : decode cX4_quarrelsBehind 4 = .ok (.iload_n 1, 1) := by decide +kernel
theorem dX4_quarrelsBehind_5 : decode cX4_quarrelsBehind 5 = .ok (.bipush 12, 2) := by decide +kernel
theorem dX4_quarrelsBehind_7 : decode cX4_quarrelsBehind 7 = .ok (.if_icmp .lt 5, 3) := by decide +kernel
theorem dX4_quarrelsBehind_10 : decode cX4_quarrelsBehind 10 = .ok (.iconst (-1), 1) := by decide +kernel
theorem dX4_quarrelsBehind_11 : decode cX4_quarrelsBehind 11 = .ok (.ireturn, 1) := by decide +kernel
theorem dX4_quarrelsBehind_12 : decode cX4_quarrelsBehind 12 = .ok (.iload_n 1, 1) := by decide +kernel
theorem dX4_quarrelsBehind_13 : decode cX4_quarrelsBehind 13 = .ok (.iconst 1, 1) := by decide +kernel
theorem dX4_quarrelsBehind_14 : decode cX4_quarrelsBehind 14 = .ok (.iadd, 1) := by decide +kernel
theorem dX4_quarrelsBehind_15 : decode cX4_quarrelsBehind 15 = .ok (.bipush 12, 2) := by decide +kernel
theorem dX4_quarrelsBehind_17 : decode cX4_quarrelsBehind 17 = .ok (.irem, 1) := by decide +kernel
theorem dX4_quarrelsBehind_18 : decode cX4_quarrelsBehind 18 = .ok (.istore_n 2, 1) := by decide +kernel
theorem dX4_quarrelsBehind_19 : decode cX4_quarrelsBehind 19 = .ok (.iconst 0, 1) := by decide +kernel
theorem dX4_quarrelsBehind_20 : decode cX4_quarrelsBehind 20 = .ok (.istore_n 3, 1) := by decide +kernel
theorem dX4_quarrelsBehind_21 : decode cX4_quarrelsBehind 21 = .ok (.bipush 11, 2) := by decide +kernel
theorem dX4_quarrelsBehind_23 : decode cX4_quarrelsBehind 23 = .ok (.istore 4, 2) := by decide +kernel
theorem dX4_quarrelsBehind_25 : decode cX4_quarrelsBehind 25 = .ok (.iload 4, 2) := by decide +kernel
theorem dX4_quarrelsBehind_27 : decode cX4_quarrelsBehind 27 = .ok (.bipush 18, 2) := by decide +kernel
theorem dX4_quarrelsBehind_29 : decode cX4_quarrelsBehind 29 = .ok (.if_icmp .gt 84, 3) := by decide +kernel
theorem dX4_quarrelsBehind_32 : decode cX4_quarrelsBehind 32 = .ok (.bipush 30, 2) := by decide +kernel
theorem dX4_quarrelsBehind_34 : decode cX4_quarrelsBehind 34 = .ok (.iload_n 1, 1) := by decide +kernel
theorem dX4_quarrelsBehind_35 : decode cX4_quarrelsBehind 35 = .ok (.imul, 1) := by decide +kernel
theorem dX4_quarrelsBehind_36 : decode cX4_quarrelsBehind 36 = .ok (.iload 4, 2) := by decide +kernel
theorem dX4_quarrelsBehind_38 : decode cX4_quarrelsBehind 38 = .ok (.iadd, 1) := by decide +kernel
theorem dX4_quarrelsBehind_39 : decode cX4_quarrelsBehind 39 = .ok (.sipush 360, 3) := by decide +kernel
theorem dX4_quarrelsBehind_42 : decode cX4_quarrelsBehind 42 = .ok (.irem, 1) := by decide +kernel
theorem dX4_quarrelsBehind_43 : decode cX4_quarrelsBehind 43 = .ok (.istore 5, 2) := by decide +kernel
theorem dX4_quarrelsBehind_45 : decode cX4_quarrelsBehind 45 = .ok (.iconst 0, 1) := by decide +kernel
theorem dX4_quarrelsBehind_46 : decode cX4_quarrelsBehind 46 = .ok (.istore 6, 2) := by decide +kernel
theorem dX4_quarrelsBehind_48 : decode cX4_quarrelsBehind 48 = .ok (.iload 6, 2) := by decide +kernel
theorem dX4_quarrelsBehind_50 : decode cX4_quarrelsBehind 50 = .ok (.bipush 20, 2) := by decide +kernel
theorem dX4_quarrelsBehind_52 : decode cX4_quarrelsBehind 52 = .ok (.if_icmp .ge 55, 3) := by decide +kernel
theorem dX4_quarrelsBehind_55 : decode cX4_quarrelsBehind 55 = .ok (.aload_n 0, 1) := by decide +kernel
theorem dX4_quarrelsBehind_56 : decode cX4_quarrelsBehind 56 = .ok (.iload_n 1, 1) := by decide +kernel
theorem dX4_quarrelsBehind_57 : decode cX4_quarrelsBehind 57 = .ok (.iload 5, 2) := by decide +kernel
theorem dX4_quarrelsBehind_59 : decode cX4_quarrelsBehind 59 = .ok (.iload 6, 2) := by decide +kernel
theorem dX4_quarrelsBehind_61 : decode cX4_quarrelsBehind 61 = .ok (.invokevirtual 75, 3) := by decide +kernel
theorem dX4_quarrelsBehind_64 : decode cX4_quarrelsBehind 64 = .ok (.istore 7, 2) := by decide +kernel
theorem dX4_quarrelsBehind_66 : decode cX4_quarrelsBehind 66 = .ok (.iload 7, 2) := by decide +kernel
theorem dX4_quarrelsBehind_68 : decode cX4_quarrelsBehind 68 = .ok (.ifCond .ne 7, 3) := by decide +kernel
theorem dX4_quarrelsBehind_71 : decode cX4_quarrelsBehind 71 = .ok (.iconst 0, 1) := by decide +kernel
theorem dX4_quarrelsBehind_72 : decode cX4_quarrelsBehind 72 = .ok (.goto 12, 3) := by decide +kernel
theorem dX4_quarrelsBehind_75 : decode cX4_quarrelsBehind 75 = .ok (.aload_n 0, 1) := by decide +kernel
theorem dX4_quarrelsBehind_76 : decode cX4_quarrelsBehind 76 = .ok (.iload_n 2, 1) := by decide +kernel
theorem dX4_quarrelsBehind_77 : decode cX4_quarrelsBehind 77 = .ok (.iload 5, 2) := by decide +kernel
theorem dX4_quarrelsBehind_79 : decode cX4_quarrelsBehind 79 = .ok (.iload 6, 2) := by decide +kernel
theorem dX4_quarrelsBehind_81 : decode cX4_quarrelsBehind 81 = .ok (.invokevirtual 75, 3) := by decide +kernel
theorem dX4_quarrelsBehind_84 : decode cX4_quarrelsBehind 84 = .ok (.istore 8, 2) := by decide +kernel
theorem dX4_quarrelsBehind_86 : decode cX4_quarrelsBehind 86 = .ok (.iload 8, 2) := by decide +kernel
theorem dX4_quarrelsBehind_88 : decode cX4_quarrelsBehind 88 = .ok (.ifCond .eq 13, 3) := by decide +kernel
theorem dX4_quarrelsBehind_91 : decode cX4_quarrelsBehind 91 = .ok (.iload 8, 2) := by decide +kernel
theorem dX4_quarrelsBehind_93 : decode cX4_quarrelsBehind 93 = .ok (.iload 7, 2) := by decide +kernel
theorem dX4_quarrelsBehind_95 : decode cX4_quarrelsBehind 95 = .ok (.if_icmp .eq 6, 3) := by decide +kernel
theorem dX4_quarrelsBehind_98 : decode cX4_quarrelsBehind 98 = .ok (.iinc 3 1, 3) := by decide +kernel
theorem dX4_quarrelsBehind_101 : decode cX4_quarrelsBehind 101 = .ok (.iinc 6 1, 3) := by decide +kernel
theorem dX4_quarrelsBehind_104 : decode cX4_quarrelsBehind 104 = .ok (.goto (-56), 3) := by decide +kernel
theorem dX4_quarrelsBehind_107 : decode cX4_quarrelsBehind 107 = .ok (.iinc 4 1, 3) := by decide +kernel
theorem dX4_quarrelsBehind_110 : decode cX4_quarrelsBehind 110 = .ok (.goto (-85), 3) := by decide +kernel
theorem dX4_quarrelsBehind_113 : decode cX4_quarrelsBehind 113 = .ok (.iload_n 3, 1) := by decide +kernel
theorem dX4_quarrelsBehind_114 : decode cX4_quarrelsBehind 114 = .ok (.ireturn, 1) := by decide +kernel
set_option maxRecDepth 20000 in
theorem ggX4_colourShown_J9_floorMod_7cf53 : GoodIn wsX4_colourShown wsJ9_floorMod_7cf53 := goodIn_r _ [4] (by decide +kernel) (by decide +kernel)
set_option maxRecDepth 20000 in
theorem gX4_colourShown_J9_floorMod_7cf53 : GoodIn wsX4_colourShown (va_wsS RX4 23 yJ9_floorMod_7cf53 wsJ9_floorMod_7cf53) := goodIn_app (goodIn_of _ (by decide +kernel)) ggX4_colourShown_J9_floorMod_7cf53
set_option maxRecDepth 20000 in
theorem ggX4_colourShown_X4_offsetOf : GoodIn wsX4_colourShown wsX4_offsetOf := goodIn_r _ [8] (by decide +kernel) (by decide +kernel)
set_option maxRecDepth 20000 in
theorem gX4_colourShown_X4_offsetOf : GoodIn wsX4_colourShown (va_wsS RX4 19 yX4_offsetOf wsX4_offsetOf) := goodIn_app (goodIn_of _ (by decide +kernel)) ggX4_colourShown_X4_offsetOf
set_option maxRecDepth 20000 in
theorem ggX4_colourShown_X4_colourInStrip : GoodIn wsX4_colourShown wsX4_colourInStrip := goodIn_r _ [12, 13, 14, 15, 16, 17, 18, 19, 7, 20, 21, 22, 23, 24, 25, 26, 27, 28] (by decide +kernel) (by decide +kernel)
set_option maxRecDepth 20000 in
theorem gX4_colourShown_X4_colourInStrip : GoodIn wsX4_colourShown (wsV RX4 78 RX4 yX4_colourInStrip wsX4_colourInStrip) := goodIn_app (goodIn_of _ (by decide +kernel)) ggX4_colourShown_X4_colourInStrip
theorem dX4_colourShown_0 : decode cX4_colourShown 0 = .ok (.iload_n 2, 1) := by decide +kernel
theorem dX4_colourShown_1 : decode cX4_colourShown 1 = .ok (.bipush 30, 2) := by decide +kernel
theorem dX4_colourShown_3 : decode cX4_colourShown 3 = .ok (.iload_n 1, 1) := by decide +kernel
theorem dX4_colourShown_4 : decode cX4_colourShown 4 = .ok (.imul, 1) := by decide +kernel
theorem dX4_colourShown_5 : decode cX4_colourShown 5 = .ok (.isub, 1) := by decide +kernel
theorem dX4_colourShown_6 : decode cX4_colourShown 6 = .ok (.sipush 180, 3) := by decide +kernel
theorem dX4_colourShown_9 : decode cX4_colourShown 9 = .ok (.iadd, 1) := by decide +kernel
theorem dX4_colourShown_10 : decode cX4_colourShown 10 = .ok (.istore 4, 2) := by decide +kernel
theorem dX4_colourShown_12 : decode cX4_colourShown 12 = .ok (.iload 4, 2) := by decide +kernel
theorem dX4_colourShown_14 : decode cX4_colourShown 14 = .ok (.sipush 360, 3) := by decide +kernel
theorem dX4_colourShown_17 : decode cX4_colourShown 17 = .ok (.invokestatic 23, 3) := by decide +kernel
theorem dX4_colourShown_20 : decode cX4_colourShown 20 = .ok (.sipush 180, 3) := by decide +kernel
theorem dX4_colourShown_23 : decode cX4_colourShown 23 = .ok (.isub, 1) := by decide +kernel
theorem dX4_colourShown_24 : decode cX4_colourShown 24 = .ok (.istore 5, 2) := by decide +kernel
theorem dX4_colourShown_26 : decode cX4_colourShown 26 = .ok (.iload 5, 2) := by decide +kernel
theorem dX4_colourShown_28 : decode cX4_colourShown 28 = .ok (.bipush (-19), 2) := by decide +kernel
theorem dX4_colourShown_30 : decode cX4_colourShown 30 = .ok (.if_icmp .lt 10, 3) := by decide +kernel
theorem dX4_colourShown_33 : decode cX4_colourShown 33 = .ok (.iload 5, 2) := by decide +kernel
theorem dX4_colourShown_35 : decode cX4_colourShown 35 = .ok (.bipush 18, 2) := by decide +kernel
theorem dX4_colourShown_37 : decode cX4_colourShown 37 = .ok (.if_icmp .le 5, 3) := by decide +kernel
theorem dX4_colourShown_40 : decode cX4_colourShown 40 = .ok (.iconst 0, 1) := by decide +kernel
theorem dX4_colourShown_41 : decode cX4_colourShown 41 = .ok (.ireturn, 1) := by decide +kernel
theorem dX4_colourShown_42 : decode cX4_colourShown 42 = .ok (.iload 5, 2) := by decide +kernel
theorem dX4_colourShown_44 : decode cX4_colourShown 44 = .ok (.bipush 20, 2) := by decide +kernel
theorem dX4_colourShown_46 : decode cX4_colourShown 46 = .ok (.iadd, 1) := by decide +kernel
theorem dX4_colourShown_47 : decode cX4_colourShown 47 = .ok (.istore 6, 2) := by decide +kernel
theorem dX4_colourShown_49 : decode cX4_colourShown 49 = .ok (.iload 6, 2) := by decide +kernel
theorem dX4_colourShown_51 : decode cX4_colourShown 51 = .ok (.iconst 1, 1) := by decide +kernel
theorem dX4_colourShown_52 : decode cX4_colourShown 52 = .ok (.iadd, 1) := by decide +kernel
theorem dX4_colourShown_53 : decode cX4_colourShown 53 = .ok (.istore 7, 2) := by decide +kernel
theorem dX4_colourShown_55 : decode cX4_colourShown 55 = .ok (.iload 7, 2) := by decide +kernel
theorem dX4_colourShown_57 : decode cX4_colourShown 57 = .ok (.iload 6, 2) := by decide +kernel
theorem dX4_colourShown_59 : decode cX4_colourShown 59 = .ok (.iconst 1, 1) := by decide +kernel
theorem dX4_colourShown_60 : decode cX4_colourShown 60 = .ok (.isub, 1) := by decide +kernel
theorem dX4_colourShown_61 : decode cX4_colourShown 61 = .ok (.if_icmp .lt 41, 3) := by decide +kernel
theorem dX4_colourShown_64 : decode cX4_colourShown 64 = .ok (.iload 7, 2) := by decide +kernel
theorem dX4_colourShown_66 : decode cX4_colourShown 66 = .ok (.invokestatic 19, 3) := by decide +kernel
theorem dX4_colourShown_69 : decode cX4_colourShown 69 = .ok (.iload 5, 2) := by decide +kernel
theorem dX4_colourShown_71 : decode cX4_colourShown 71 = .ok (.if_icmp .ne 14, 3) := by decide +kernel
theorem dX4_colourShown_74 : decode cX4_colourShown 74 = .ok (.aload_n 0, 1) := by decide +kernel
theorem dX4_colourShown_75 : decode cX4_colourShown 75 = .ok (.iload_n 1, 1) := by decide +kernel
theorem dX4_colourShown_76 : decode cX4_colourShown 76 = .ok (.iload 7, 2) := by decide +kernel
theorem dX4_colourShown_78 : decode cX4_colourShown 78 = .ok (.iload_n 3, 1) := by decide +kernel
theorem dX4_colourShown_79 : decode cX4_colourShown 79 = .ok (.invokevirtual 78, 3) := by decide +kernel
theorem dX4_colourShown_82 : decode cX4_colourShown 82 = .ok (.goto 4, 3) := by decide +kernel
theorem dX4_colourShown_85 : decode cX4_colourShown 85 = .ok (.iconst 0, 1) := by decide +kernel
theorem dX4_colourShown_86 : decode cX4_colourShown 86 = .ok (.istore 8, 2) := by decide +kernel
theorem dX4_colourShown_88 : decode cX4_colourShown 88 = .ok (.iload 8, 2) := by decide +kernel
theorem dX4_colourShown_90 : decode cX4_colourShown 90 = .ok (.ifCond .eq 6, 3) := by decide +kernel
theorem dX4_colourShown_93 : decode cX4_colourShown 93 = .ok (.iload 8, 2) := by decide +kernel
theorem dX4_colourShown_95 : decode cX4_colourShown 95 = .ok (.ireturn, 1) := by decide +kernel
theorem dX4_colourShown_96 : decode cX4_colourShown 96 = .ok (.iinc 7 (-1), 3) := by decide +kernel
theorem dX4_colourShown_99 : decode cX4_colourShown 99 = .ok (.goto (-44), 3) := by decide +kernel
theorem dX4_colourShown_102 : decode cX4_colourShown 102 = .ok (.iconst 0, 1) := by decide +kernel
theorem dX4_colourShown_103 : decode cX4_colourShown 103 = .ok (.ireturn, 1) := by decide +kernel
set_option maxRecDepth 20000 in
theorem ggX4_colourInStrip_X4_stretchOf : GoodIn wsX4_colourInStrip wsX4_stretchOf := goodIn_r _ [9] (by decide +kernel) (by decide +kernel)
set_option maxRecDepth 20000 in
theorem gX4_colourInStrip_X4_stretchOf : GoodIn wsX4_colourInStrip (va_wsS RX4 29 yX4_stretchOf wsX4_stretchOf) := goodIn_app (goodIn_of _ (by decide +kernel)) ggX4_colourInStrip_X4_stretchOf
set_option maxRecDepth 20000 in
theorem ggX4_colourInStrip_X4_isMark : GoodIn wsX4_colourInStrip wsX4_isMark := goodIn_r _ [12] (by decide +kernel) (by decide +kernel)
set_option maxRecDepth 20000 in
theorem gX4_colourInStrip_X4_isMark : GoodIn wsX4_colourInStrip (va_wsS RX4 32 yX4_isMark wsX4_isMark) := goodIn_app (goodIn_of _ (by decide +kernel)) ggX4_colourInStrip_X4_isMark
set_option maxRecDepth 20000 in
theorem ggX4_colourInStrip_X4_placeInMarks : GoodIn wsX4_colourInStrip wsX4_placeInMarks := goodIn_r _ [15] (by decide +kernel) (by decide +kernel)
set_option maxRecDepth 20000 in
theorem gX4_colourInStrip_X4_placeInMarks : GoodIn wsX4_colourInStrip (va_wsS RX4 49 yX4_placeInMarks wsX4_placeInMarks) := goodIn_app (goodIn_of _ (by decide +kernel)) ggX4_colourInStrip_X4_placeInMarks
theorem dX4_colourInStrip_0 : decode cX4_colourInStrip 0 = .ok (.iload_n 2, 1) := by decide +kernel
theorem dX4_colourInStrip_1 : decode cX4_colourInStrip 1 = .ok (.invokestatic 29, 3) := by decide +kernel
theorem dX4_colourInStrip_4 : decode cX4_colourInStrip 4 = .ok (.istore 4, 2) := by decide +kernel
theorem dX4_colourInStrip_6 : decode cX4_colourInStrip 6 = .ok (.iload_n 3, 1) := by decide +kernel
theorem dX4_colourInStrip_7 : decode cX4_colourInStrip 7 = .ok (.iconst 1, 1) := by decide +kernel
theorem dX4_colourInStrip_8 : decode cX4_colourInStrip 8 = .ok (.iadd, 1) := by decide +kernel
theorem dX4_colourInStrip_9 : decode cX4_colourInStrip 9 = .ok (.iload 4, 2) := by decide +kernel
theorem dX4_colourInStrip_11 : decode cX4_colourInStrip 11 = .ok (.imul, 1) := by decide +kernel
theorem dX4_colourInStrip_12 : decode cX4_colourInStrip 12 = .ok (.iconst 1, 1) := by decide +kernel
theorem dX4_colourInStrip_13 : decode cX4_colourInStrip 13 = .ok (.isub, 1) := by decide +kernel
theorem dX4_colourInStrip_14 : decode cX4_colourInStrip 14 = .ok (.sipush 1000, 3) := by decide +kernel
theorem dX4_colourInStrip_17 : decode cX4_colourInStrip 17 = .ok (.idiv, 1) := by decide +kernel
theorem dX4_colourInStrip_18 : decode cX4_colourInStrip 18 = .ok (.bipush 19, 2) := by decide +kernel
theorem dX4_colourInStrip_20 : decode cX4_colourInStrip 20 = .ok (.invokestatic 81, 3) := by decide +kernel
theorem dX4_colourInStrip_23 : decode cX4_colourInStrip 23 = .ok (.istore 5, 2) := by decide +kernel
theorem dX4_colourInStrip_25 : decode cX4_colourInStrip 25 = .ok (.iload 5, 2) := by decide +kernel
theorem dX4_colourInStrip_27 : decode cX4_colourInStrip 27 = .ok (.istore 6, 2) := by decide +kernel
theorem dX4_colourInStrip_29 : decode cX4_colourInStrip 29 = .ok (.iload 6, 2) := by decide +kernel
theorem dX4_colourInStrip_31 : decode cX4_colourInStrip 31 = .ok (.ifCond .lt 60, 3) := by decide +kernel
theorem dX4_colourInStrip_34 : decode cX4_colourInStrip 34 = .ok (.iload 6, 2) := by decide +kernel
theorem dX4_colourInStrip_36 : decode cX4_colourInStrip 36 = .ok (.sipush 1000, 3) := by decide +kernel
theorem dX4_colourInStrip_39 : decode cX4_colourInStrip 39 = .ok (.imul, 1) := by decide +kernel
theorem dX4_colourInStrip_40 : decode cX4_colourInStrip 40 = .ok (.iload_n 3, 1) := by decide +kernel
theorem dX4_colourInStrip_41 : decode cX4_colourInStrip 41 = .ok (.iload 4, 2) := by decide +kernel
theorem dX4_colourInStrip_43 : decode cX4_colourInStrip 43 = .ok (.imul, 1) := by decide +kernel
theorem dX4_colourInStrip_44 : decode cX4_colourInStrip 44 = .ok (.if_icmp .lt 47, 3) := by decide +kernel
theorem dX4_colourInStrip_47 : decode cX4_colourInStrip 47 = .ok (.iload_n 1, 1) := by decide +kernel
theorem dX4_colourInStrip_48 : decode cX4_colourInStrip 48 = .ok (.iload_n 2, 1) := by decide +kernel
theorem dX4_colourInStrip_49 : decode cX4_colourInStrip 49 = .ok (.iload 6, 2) := by decide +kernel
theorem dX4_colourInStrip_51 : decode cX4_colourInStrip 51 = .ok (.invokestatic 32, 3) := by decide +kernel
theorem dX4_colourInStrip_54 : decode cX4_colourInStrip 54 = .ok (.ifCond .eq 31, 3) := by decide +kernel
theorem dX4_colourInStrip_57 : decode cX4_colourInStrip 57 = .ok (.aload_n 0, 1) := by decide +kernel
theorem dX4_colourInStrip_58 : decode cX4_colourInStrip 58 = .ok (.getfield 9, 3) := by decide +kernel
theorem dX4_colourInStrip_61 : decode cX4_colourInStrip 61 = .ok (.iload_n 1, 1) := by decide +kernel
theorem dX4_colourInStrip_62 : decode cX4_colourInStrip 62 = .ok (.iload_n 2, 1) := by decide +kernel
theorem dX4_colourInStrip_63 : decode cX4_colourInStrip 63 = .ok (.iload 6, 2) := by decide +kernel
theorem dX4_colourInStrip_65 : decode cX4_colourInStrip 65 = .ok (.invokestatic 49, 3) := by decide +kernel
theorem dX4_colourInStrip_68 : decode cX4_colourInStrip 68 = .ok (.baload, 1) := by decide +kernel
theorem dX4_colourInStrip_69 : decode cX4_colourInStrip 69 = .ok (.ifCond .eq 16, 3) := by decide +kernel
theorem dX4_colourInStrip_72 : decode cX4_colourInStrip 72 = .ok (.aload_n 0, 1) := by decide +kernel
theorem dX4_colourInStrip_73 : decode cX4_colourInStrip 73 = .ok (.getfield 9, 3) := by decide +kernel
theorem dX4_colourInStrip_76 : decode cX4_colourInStrip 76 = .ok (.iload_n 1, 1) := by decide +kernel
theorem dX4_colourInStrip_77 : decode cX4_colourInStrip 77 = .ok (.iload_n 2, 1) := by decide +kernel
theorem dX4_colourInStrip_78 : decode cX4_colourInStrip 78 = .ok (.iload 6, 2) := by decide +kernel
theorem dX4_colourInStrip_80 : decode cX4_colourInStrip 80 = .ok (.invokestatic 49, 3) := by decide +kernel
theorem dX4_colourInStrip_83 : decode cX4_colourInStrip 83 = .ok (.baload, 1) := by decide +kernel
theorem dX4_colourInStrip_84 : decode cX4_colourInStrip 84 = .ok (.ireturn, 1) := by decide +kernel
theorem dX4_colourInStrip_85 : decode cX4_colourInStrip 85 = .ok (.iinc 6 (-1), 3) := by decide +kernel
theorem dX4_colourInStrip_88 : decode cX4_colourInStrip 88 = .ok (.goto (-59), 3) := by decide +kernel
theorem dX4_colourInStrip_91 : decode cX4_colourInStrip 91 = .ok (.iconst 0, 1) := by decide +kernel
theorem dX4_colourInStrip_92 : decode cX4_colourInStrip 92 = .ok (.ireturn, 1) := by decide +kernel
set_option maxRecDepth 20000 in
theorem ggX4_colouredIn_X5_isSquare : GoodIn wsX4_colouredIn wsX5_isSquare := goodIn_r _ [4] (by decide +kernel) (by decide +kernel)
set_option maxRecDepth 20000 in
theorem gX4_colouredIn_X5_isSquare_n56 : GoodIn wsX4_colouredIn (wsX5_isSquare) := ggX4_colouredIn_X5_isSquare
theorem dX4_colouredIn_0 : decode cX4_colouredIn 0 = .ok (.iload_n 1, 1) := by decide +kernel
theorem dX4_colouredIn_1 : decode cX4_colouredIn 1 = .ok (.invokestatic 56, 3) := by decide +kernel
theorem dX4_colouredIn_4 : decode cX4_colouredIn 4 = .ok (.ifCond .eq 12, 3) := by decide +kernel
theorem dX4_colouredIn_7 : decode cX4_colouredIn 7 = .ok (.aload_n 0, 1) := by decide +kernel
theorem dX4_colouredIn_8 : decode cX4_colouredIn 8 = .ok (.getfield 15, 3) := by decide +kernel
theorem dX4_colouredIn_11 : decode cX4_colouredIn 11 = .ok (.iload_n 1, 1) := by decide +kernel
theorem dX4_colouredIn_12 : decode cX4_colouredIn 12 = .ok (.iaload, 1) := by decide +kernel
theorem dX4_colouredIn_13 : decode cX4_colouredIn 13 = .ok (.goto 4, 3) := by decide +kernel
theorem dX4_colouredIn_16 : decode cX4_colouredIn 16 = .ok (.iconst 0, 1) := by decide +kernel
theorem dX4_colouredIn_17 : decode cX4_colouredIn 17 = .ok (.ireturn, 1) := by decide +kernel
theorem dX4_colouredPlaces_0 : decode cX4_colouredPlaces 0 = .ok (.iconst 0, 1) := by decide +kernel
theorem dX4_colouredPlaces_1 : decode cX4_colouredPlaces 1 = .ok (.istore_n 1, 1) := by decide +kernel
theorem dX4_colouredPlaces_2 : decode cX4_colouredPlaces 2 = .ok (.iconst 0, 1) := by decide +kernel
theorem dX4_colouredPlaces_3 : decode cX4_colouredPlaces 3 = .ok (.istore_n 2, 1) := by decide +kernel
theorem dX4_colouredPlaces_4 : decode cX4_colouredPlaces 4 = .ok (.iload_n 2, 1) := by decide +kernel
theorem dX4_colouredPlaces_5 : decode cX4_colouredPlaces 5 = .ok (.bipush 72, 2) := by decide +kernel
theorem dX4_colouredPlaces_7 : decode cX4_colouredPlaces 7 = .ok (.if_icmp .ge 18, 3) := by decide +kernel
theorem dX4_colouredPlaces_10 : decode cX4_colouredPlaces 10 = .ok (.iload_n 1, 1) := by decide +kernel
theorem dX4_colouredPlaces_11 : decode cX4_colouredPlaces 11 = .ok (.aload_n 0, 1) := by decide +kernel
theorem dX4_colouredPlaces_12 : decode cX4_colouredPlaces 12 = .ok (.getfield 15, 3) := by decide +kernel
theorem dX4_colouredPlaces_15 : decode cX4_colouredPlaces 15 = .ok (.iload_n 2, 1) := by decide +kernel
theorem dX4_colouredPlaces_16 : decode cX4_colouredPlaces 16 = .ok (.iaload, 1) := by decide +kernel
theorem dX4_colouredPlaces_17 : decode cX4_colouredPlaces 17 = .ok (.iadd, 1) := by decide +kernel
theorem dX4_colouredPlaces_18 : decode cX4_colouredPlaces 18 = .ok (.istore_n 1, 1) := by decide +kernel
theorem dX4_colouredPlaces_19 : decode cX4_colouredPlaces 19 = .ok (.iinc 2 1, 3) := by decide +kernel
theorem dX4_colouredPlaces_22 : decode cX4_colouredPlaces 22 = .ok (.goto (-18), 3) := by decide +kernel
theorem dX4_colouredPlaces_25 : decode cX4_colouredPlaces 25 = .ok (.iload_n 1, 1) := by decide +kernel
theorem dX4_colouredPlaces_26 : decode cX4_colouredPlaces 26 = .ok (.ireturn, 1) := by decide +kernel
set_option maxRecDepth 20000 in
theorem ggX5_init_X4_init : GoodIn wsX5_init wsX4_init := goodIn_r _ [28, 29, 2, 3, 30, 31, 32, 33, 68, 69] (by decide +kernel) (by decide +kernel)
set_option maxRecDepth 20000 in
theorem gX5_init_X4_init_n9 : GoodIn wsX5_init (wsX4_init) := ggX5_init_X4_init
set_option maxRecDepth 20000 in
theorem ggX5_init_X2_init : GoodIn wsX5_init wsX2_init := goodIn_r _ [36, 37, 2, 3, 32, 38, 39, 40, 41, 42, 43, 44, 45, 46, 47, 78, 79, 80, 81, 82, 83, 84, 85, 86, 87, 88, 89] (by decide +kernel) (by decide +kernel)
set_option maxRecDepth 20000 in
theorem gX5_init_X2_init : GoodIn wsX5_init (wsX2_init) := ggX5_init_X2_init
set_option maxRecDepth 20000 in
theorem ggX5_init_X0_init : GoodIn wsX5_init wsX0_init := goodIn_r _ [49, 50, 2, 3, 32, 51, 90, 91, 92, 93, 94, 95] (by decide +kernel) (by decide +kernel)
set_option maxRecDepth 20000 in
theorem gX5_init_X0_init_n27 : GoodIn wsX5_init (wsX0_init) := ggX5_init_X0_init
set_option maxRecDepth 20000 in
theorem ggX5_init_X3_init : GoodIn wsX5_init wsX3_init := goodIn_r _ [54, 55, 2, 3, 32, 56, 57, 96, 97, 98, 99, 100, 101, 102] (by decide +kernel) (by decide +kernel)
set_option maxRecDepth 20000 in
theorem gX5_init_X3_init : GoodIn wsX5_init (wsX3_init) := ggX5_init_X3_init
set_option maxRecDepth 20000 in
theorem ggX5_init_X1_init : GoodIn wsX5_init wsX1_init := goodIn_r _ [60, 61, 2, 3, 32, 62, 63, 64, 65, 66, 67, 103, 104, 105, 106, 107, 108, 109, 110, 111, 112, 113, 114] (by decide +kernel) (by decide +kernel)
set_option maxRecDepth 20000 in
theorem gX5_init_X1_init : GoodIn wsX5_init (wsX1_init) := ggX5_init_X1_init
theorem dX5_init_0 : decode cX5_init 0 = .ok (.aload_n 0, 1) := by decide +kernel
theorem dX5_init_1 : decode cX5_init 1 = .ok (.invokespecial 1, 3) := by decide +kernel
theorem dX5_init_4 : decode cX5_init 4 = .ok (.aload_n 0, 1) := by decide +kernel
theorem dX5_init_5 : decode cX5_init 5 = .ok (.new 7, 3) := by decide +kernel
theorem dX5_init_8 : decode cX5_init 8 = .ok (.dup, 1) := by decide +kernel
theorem dX5_init_9 : decode cX5_init 9 = .ok (.invokespecial 9, 3) := by decide +kernel
theorem dX5_init_12 : decode cX5_init 12 = .ok (.putfield 10, 3) := by decide +kernel
theorem dX5_init_15 : decode cX5_init 15 = .ok (.aload_n 0, 1) := by decide +kernel
theorem dX5_init_16 : decode cX5_init 16 = .ok (.new 16, 3) := by decide +kernel
theorem dX5_init_19 : decode cX5_init 19 = .ok (.dup, 1) := by decide +kernel
theorem dX5_init_20 : decode cX5_init 20 = .ok (.aload_n 0, 1) := by decide +kernel
theorem dX5_init_21 : decode cX5_init 21 = .ok (.getfield 10, 3) := by decide +kernel
theorem dX5_init_24 : decode cX5_init 24 = .ok (.invokespecial 18, 3) := by decide +kernel
theorem dX5_init_27 : decode cX5_init 27 = .ok (.putfield 21, 3) := by decide +kernel
theorem dX5_init_30 : decode cX5_init 30 = .ok (.aload_n 0, 1) := by decide +kernel
theorem dX5_init_31 : decode cX5_init 31 = .ok (.new 25, 3) := by decide +kernel
theorem dX5_init_34 : decode cX5_init 34 = .ok (.dup, 1) := by decide +kernel
theorem dX5_init_35 : decode cX5_init 35 = .ok (.invokespecial 27, 3) := by decide +kernel
theorem dX5_init_38 : decode cX5_init 38 = .ok (.putfield 28, 3) := by decide +kernel
theorem dX5_init_41 : decode cX5_init 41 = .ok (.aload_n 0, 1) := by decide +kernel
theorem dX5_init_42 : decode cX5_init 42 = .ok (.bipush 12, 2) := by decide +kernel
theorem dX5_init_44 : decode cX5_init 44 = .ok (.anewarray 32, 3) := by decide +kernel
theorem dX5_init_47 : decode cX5_init 47 = .ok (.putfield 34, 3) := by decide +kernel
theorem dX5_init_50 : decode cX5_init 50 = .ok (.aload_n 0, 1) := by decide +kernel
theorem dX5_init_51 : decode cX5_init 51 = .ok (.new 38, 3) := by decide +kernel
theorem dX5_init_54 : decode cX5_init 54 = .ok (.dup, 1) := by decide +kernel
theorem dX5_init_55 : decode cX5_init 55 = .ok (.invokespecial 40, 3) := by decide +kernel
theorem dX5_init_58 : decode cX5_init 58 = .ok (.putfield 41, 3) := by decide +kernel
theorem dX5_init_61 : decode cX5_init 61 = .ok (.aload_n 0, 1) := by decide +kernel
theorem dX5_init_62 : decode cX5_init 62 = .ok (.new 32, 3) := by decide +kernel
theorem dX5_init_65 : decode cX5_init 65 = .ok (.dup, 1) := by decide +kernel
theorem dX5_init_66 : decode cX5_init 66 = .ok (.invokespecial 45, 3) := by decide +kernel
theorem dX5_init_69 : decode cX5_init 69 = .ok (.putfield 46, 3) := by decide +kernel
theorem dX5_init_72 : decode cX5_init 72 = .ok (.aload_n 0, 1) := by decide +kernel
theorem dX5_init_73 : decode cX5_init 73 = .ok (.iconst 0, 1) := by decide +kernel
theorem dX5_init_74 : decode cX5_init 74 = .ok (.putfield 50, 3) := by decide +kernel
theorem dX5_init_77 : decode cX5_init 77 = .ok (.aload_n 0, 1) := by decide +kernel
theorem dX5_init_78 : decode cX5_init 78 = .ok (.iconst (-1), 1) := by decide +kernel
theorem dX5_init_79 : decode cX5_init 79 = .ok (.putfield 54, 3) := by decide +kernel
theorem dX5_init_82 : decode cX5_init 82 = .ok (.return_, 1) := by decide +kernel
set_option maxRecDepth 20000 in
theorem ggX5_mark_X4_setMark : GoodIn wsX5_mark wsX4_setMark := goodIn_r _ [6, 7, 8, 9, 10, 5, 11, 12, 13, 14, 15, 16, 17, 18, 19, 20, 21, 22, 23, 24, 25, 26, 27, 28, 29, 30, 31, 32, 33, 34, 35, 36, 37, 38, 39, 40, 41, 42, 43, 44, 45, 46, 47, 48, 49, 50, 51, 52, 53, 54, 55, 64, 65] (by decide +kernel) (by decide +kernel)
set_option maxRecDepth 20000 in
theorem gX5_mark_X4_setMark : GoodIn wsX5_mark (wsV RX5 57 RX4 yX4_setMark wsX4_setMark) := goodIn_app (goodIn_of _ (by decide +kernel)) ggX5_mark_X4_setMark
theorem dX5_mark_0 : decode cX5_mark 0 = .ok (.aload_n 0, 1) := by decide +kernel
theorem dX5_mark_1 : decode cX5_mark 1 = .ok (.getfield 10, 3) := by decide +kernel
theorem dX5_mark_4 : decode cX5_mark 4 = .ok (.iload_n 1, 1) := by decide +kernel
theorem dX5_mark_5 : decode cX5_mark 5 = .ok (.iload_n 2, 1) := by decide +kernel
theorem dX5_mark_6 : decode cX5_mark 6 = .ok (.iload_n 3, 1) := by decide +kernel
theorem dX5_mark_7 : decode cX5_mark 7 = .ok (.iload 4, 2) := by decide +kernel
theorem dX5_mark_9 : decode cX5_mark 9 = .ok (.invokevirtual 57, 3) := by decide +kernel
theorem dX5_mark_12 : decode cX5_mark 12 = .ok (.ireturn, 1) := by decide +kernel
set_option maxRecDepth 20000 in
theorem ggX5_line_X4_drawLine : GoodIn wsX5_line wsX4_drawLine := goodIn_r _ [6, 7, 8, 9, 10, 11, 12, 13, 14, 15, 5, 16, 17, 18, 19, 20, 21, 22, 23, 24, 25, 26, 27, 28, 29, 30, 31, 32, 33, 34, 35, 36, 37, 38, 39, 40, 41, 42, 43, 44, 45, 46, 47, 48, 49, 50, 51, 52, 53, 54, 55, 56, 57, 58, 59, 60, 61, 62, 63, 64, 65, 66, 67, 68, 69, 70, 71, 80, 81] (by decide +kernel) (by decide +kernel)
set_option maxRecDepth 20000 in
theorem gX5_line_X4_drawLine : GoodIn wsX5_line (wsV RX5 61 RX4 yX4_drawLine wsX4_drawLine) := goodIn_app (goodIn_of _ (by decide +kernel)) ggX5_line_X4_drawLine
theorem dX5_line_0 : decode cX5_line 0 = .ok (.aload_n 0, 1) := by decide +kernel
theorem dX5_line_1 : decode cX5_line 1 = .ok (.getfield 10, 3) := by decide +kernel
theorem dX5_line_4 : decode cX5_line 4 = .ok (.iload_n 1, 1) := by decide +kernel
theorem dX5_line_5 : decode cX5_line 5 = .ok (.iload_n 2, 1) := by decide +kernel
theorem dX5_line_6 : decode cX5_line 6 = .ok (.iload_n 3, 1) := by decide +kernel
theorem dX5_line_7 : decode cX5_line 7 = .ok (.iload 4, 2) := by decide +kernel
theorem dX5_line_9 : decode cX5_line 9 = .ok (.iload 5, 2) := by decide +kernel
theorem dX5_line_11 : decode cX5_line 11 = .ok (.iload 6, 2) := by decide +kernel
theorem dX5_line_13 : decode cX5_line 13 = .ok (.invokevirtual 61, 3) := by decide +kernel
theorem dX5_line_16 : decode cX5_line 16 = .ok (.ireturn, 1) := by decide +kernel
set_option maxRecDepth 20000 in
theorem ggX5_stands_X4_isMark : GoodIn wsX5_stands wsX4_isMark := goodIn_r _ [4] (by decide +kernel) (by decide +kernel)
set_option maxRecDepth 20000 in
theorem gX5_stands_X4_isMark : GoodIn wsX5_stands (va_wsS RX5 65 yX4_isMark wsX4_isMark) := goodIn_app (goodIn_of _ (by decide +kernel)) ggX5_stands_X4_isMark
set_option maxRecDepth 20000 in
theorem ggX5_stands_X4_columnOf : GoodIn wsX5_stands wsX4_columnOf := goodIn_r _ [7, 8, 9, 3, 10, 11, 12, 13, 14] (by decide +kernel) (by decide +kernel)
set_option maxRecDepth 20000 in
theorem gX5_stands_X4_columnOf : GoodIn wsX5_stands (va_wsS RX5 69 yX4_columnOf wsX4_columnOf) := goodIn_app (goodIn_of _ (by decide +kernel)) ggX5_stands_X4_columnOf
set_option maxRecDepth 20000 in
theorem ggX5_stands_X4_rowOf : GoodIn wsX5_stands wsX4_rowOf := goodIn_r _ [17, 18, 19, 3, 20] (by decide +kernel) (by decide +kernel)
set_option maxRecDepth 20000 in
theorem gX5_stands_X4_rowOf : GoodIn wsX5_stands (va_wsS RX5 73 yX4_rowOf wsX4_rowOf) := goodIn_app (goodIn_of _ (by decide +kernel)) ggX5_stands_X4_rowOf
theorem dX5_stands_0 : decode cX5_stands 0 = .ok (.iload_n 1, 1) := by decide +kernel
theorem dX5_stands_1 : decode cX5_stands 1 = .ok (.iload_n 2, 1) := by decide +kernel
theorem dX5_stands_2 : decode cX5_stands 2 = .ok (.iload_n 3, 1) := by decide +kernel
theorem dX5_stands_3 : decode cX5_stands 3 = .ok (.invokestatic 65, 3) := by decide +kernel
theorem dX5_stands_6 : decode cX5_stands 6 = .ok (.ifCond .ne 5, 3) := by decide +kernel
theorem dX5_stands_9 : decode cX5_stands 9 = .ok (.iconst (-1), 1) := by decide +kernel
theorem dX5_stands_10 : decode cX5_stands 10 = .ok (.ireturn, 1) := by decide +kernel
theorem dX5_stands_11 : decode cX5_stands 11 = .ok (.iload 4, 2) := by decide +kernel
theorem dX5_stands_13 : decode cX5_stands 13 = .ok (.lookupswitch 39 #[(0, 27), (1, 33)], 27) := by decide +kernel
theorem dX5_stands_40 : decode cX5_stands 40 = .ok (.iload_n 1, 1) := by decide +kernel
theorem dX5_stands_41 : decode cX5_stands 41 = .ok (.iload_n 2, 1) := by decide +kernel
theorem dX5_stands_42 : decode cX5_stands 42 = .ok (.invokestatic 69, 3) := by decide +kernel
theorem dX5_stands_45 : decode cX5_stands 45 = .ok (.ireturn, 1) := by decide +kernel
theorem dX5_stands_46 : decode cX5_stands 46 = .ok (.iload_n 2, 1) := by decide +kernel
theorem dX5_stands_47 : decode cX5_stands 47 = .ok (.iload_n 3, 1) := by decide +kernel
theorem dX5_stands_48 : decode cX5_stands 48 = .ok (.invokestatic 73, 3) := by decide +kernel
theorem dX5_stands_51 : decode cX5_stands 51 = .ok (.ireturn, 1) := by decide +kernel
theorem dX5_stands_52 : decode cX5_stands 52 = .ok (.iconst (-1), 1) := by decide +kernel
theorem dX5_stands_53 : decode cX5_stands 53 = .ok (.ireturn, 1) := by decide +kernel
set_option maxRecDepth 20000 in
theorem ggX5_colour_X4_isPlace : GoodIn wsX5_colour wsX4_isPlace := goodIn_r _ [5] (by decide +kernel) (by decide +kernel)
set_option maxRecDepth 20000 in
theorem gX5_colour_X4_isPlace : GoodIn wsX5_colour (va_wsS RX5 76 yX4_isPlace wsX4_isPlace) := goodIn_app (goodIn_of _ (by decide +kernel)) ggX5_colour_X4_isPlace
set_option maxRecDepth 20000 in
theorem ggX5_colour_X4_colourAt : GoodIn wsX5_colour wsX4_colourAt := goodIn_r _ [9, 10, 11, 12, 4, 13, 14, 15, 16, 17, 18, 19, 20, 21, 22, 23, 24, 25, 26, 27, 28, 29, 30, 31, 32, 33, 34, 35, 36, 37, 38, 39, 40, 41, 42, 51, 52] (by decide +kernel) (by decide +kernel)
set_option maxRecDepth 20000 in
theorem gX5_colour_X4_colourAt : GoodIn wsX5_colour (wsV RX5 80 RX4 yX4_colourAt wsX4_colourAt) := goodIn_app (goodIn_of _ (by decide +kernel)) ggX5_colour_X4_colourAt
theorem dX5_colour_0 : decode cX5_colour 0 = .ok (.iload_n 1, 1) := by decide +kernel
theorem dX5_colour_1 : decode cX5_colour 1 = .ok (.iload_n 2, 1) := by decide +kernel
theorem dX5_colour_2 : decode cX5_colour 2 = .ok (.invokestatic 76, 3) := by decide +kernel
theorem dX5_colour_5 : decode cX5_colour 5 = .ok (.ifCond .ne 5, 3) := by decide +kernel
theorem dX5_colour_8 : decode cX5_colour 8 = .ok (.iconst (-1), 1) := by decide +kernel
theorem dX5_colour_9 : decode cX5_colour 9 = .ok (.ireturn, 1) := by decide +kernel
theorem dX5_colour_10 : decode cX5_colour 10 = .ok (.aload_n 0, 1) := by decide +kernel
theorem dX5_colour_11 : decode cX5_colour 11 = .ok (.getfield 10, 3) := by decide +kernel
theorem dX5_colour_14 : decode cX5_colour 14 = .ok (.iload_n 1, 1) := by decide +kernel
theorem dX5_colour_15 : decode cX5_colour 15 = .ok (.iload_n 2, 1) := by decide +kernel
theorem dX5_colour_16 : decode cX5_colour 16 = .ok (.invokevirtual 80, 3) := by decide +kernel
theorem dX5_colour_19 : decode cX5_colour 19 = .ok (.ireturn, 1) := by decide +kernel
set_option maxRecDepth 20000 in
theorem ggX5_from_X4_isPlace : GoodIn wsX5_from wsX4_isPlace := goodIn_r _ [5] (by decide +kernel) (by decide +kernel)
set_option maxRecDepth 20000 in
theorem gX5_from_X4_isPlace : GoodIn wsX5_from (va_wsS RX5 76 yX4_isPlace wsX4_isPlace) := goodIn_app (goodIn_of _ (by decide +kernel)) ggX5_from_X4_isPlace
set_option maxRecDepth 20000 in
theorem ggX5_from_X4_viewAt : GoodIn wsX5_from wsX4_viewAt := goodIn_r _ [9, 10, 11, 12, 4, 13, 14, 15, 16, 17, 18, 19, 20, 21, 22, 23, 24, 25, 26, 27, 28, 29, 30, 31, 32, 33, 34, 35, 36, 37, 38, 47, 48] (by decide +kernel) (by decide +kernel)
set_option maxRecDepth 20000 in
theorem gX5_from_X4_viewAt : GoodIn wsX5_from (wsV RX5 83 RX4 yX4_viewAt wsX4_viewAt) := goodIn_app (goodIn_of _ (by decide +kernel)) ggX5_from_X4_viewAt
theorem dX5_from_0 : decode cX5_from 0 = .ok (.iload_n 1, 1) := by decide +kernel
theorem dX5_from_1 : decode cX5_from 1 = .ok (.iload_n 2, 1) := by decide +kernel
theorem dX5_from_2 : decode cX5_from 2 = .ok (.invokestatic 76, 3) := by decide +kernel
theorem dX5_from_5 : decode cX5_from 5 = .ok (.ifCond .ne 5, 3) := by decide +kernel
theorem dX5_from_8 : decode cX5_from 8 = .ok (.iconst (-1), 1) := by decide +kernel
theorem dX5_from_9 : decode cX5_from 9 = .ok (.ireturn, 1) := by decide +kernel
theorem dX5_from_10 : decode cX5_from 10 = .ok (.aload_n 0, 1) := by decide +kernel
theorem dX5_from_11 : decode cX5_from 11 = .ok (.getfield 10, 3) := by decide +kernel
theorem dX5_from_14 : decode cX5_from 14 = .ok (.iload_n 1, 1) := by decide +kernel
theorem dX5_from_15 : decode cX5_from 15 = .ok (.iload_n 2, 1) := by decide +kernel
theorem dX5_from_16 : decode cX5_from 16 = .ok (.invokevirtual 83, 3) := by decide +kernel
theorem dX5_from_19 : decode cX5_from 19 = .ok (.ireturn, 1) := by decide +kernel
set_option maxRecDepth 20000 in
theorem ggX5_seam_X4_quarrelsBehind : GoodIn wsX5_seam wsX4_quarrelsBehind := goodIn_r _ [6, 7, 8, 9, 5, 10, 11, 12, 13, 14, 15, 16, 17, 18, 19, 20, 21, 22, 23, 24, 25, 26, 27, 28, 29, 30, 31, 32, 33, 34, 35, 44, 45] (by decide +kernel) (by decide +kernel)
set_option maxRecDepth 20000 in
theorem gX5_seam_X4_quarrelsBehind : GoodIn wsX5_seam (wsV RX5 86 RX4 yX4_quarrelsBehind wsX4_quarrelsBehind) := goodIn_app (goodIn_of _ (by decide +kernel)) ggX5_seam_X4_quarrelsBehind
theorem dX5_seam_0 : decode cX5_seam 0 = .ok (.aload_n 0, 1) := by decide +kernel
theorem dX5_seam_1 : decode cX5_seam 1 = .ok (.getfield 10, 3) := by decide +kernel
theorem dX5_seam_4 : decode cX5_seam 4 = .ok (.iload_n 1, 1) := by decide +kernel
theorem dX5_seam_5 : decode cX5_seam 5 = .ok (.invokevirtual 86, 3) := by decide +kernel
theorem dX5_seam_8 : decode cX5_seam 8 = .ok (.ireturn, 1) := by decide +kernel
set_option maxRecDepth 20000 in
theorem ggX5_gang_X2_hire : GoodIn wsX5_gang wsX2_hire := goodIn_r _ [6, 7, 8, 17, 18, 19, 20, 21, 22, 23, 24, 25, 26, 27, 28] (by decide +kernel) (by decide +kernel)
set_option maxRecDepth 20000 in
theorem gX5_gang_X2_hire : GoodIn wsX5_gang (wsV RX5 90 RX2 yX2_hire wsX2_hire) := goodIn_app (goodIn_of _ (by decide +kernel)) ggX5_gang_X2_hire
theorem dX5_gang_0 : decode cX5_gang 0 = .ok (.aload_n 0, 1) := by decide +kernel
theorem dX5_gang_1 : decode cX5_gang 1 = .ok (.getfield 21, 3) := by decide +kernel
theorem dX5_gang_4 : decode cX5_gang 4 = .ok (.iload_n 1, 1) := by decide +kernel
theorem dX5_gang_5 : decode cX5_gang 5 = .ok (.invokevirtual 90, 3) := by decide +kernel
theorem dX5_gang_8 : decode cX5_gang 8 = .ok (.ireturn, 1) := by decide +kernel
set_option maxRecDepth 20000 in
theorem ggX5_put_X2_beginCoat : GoodIn wsX5_put wsX2_beginCoat := goodIn_r _ [6, 7, 8, 9, 10, 11, 12, 13, 14, 15, 16, 17, 18, 19, 5, 20, 21, 22, 23, 24, 25, 26, 27, 28, 29, 30, 31, 32, 33, 34, 35, 44, 45, 46, 47, 48, 49, 50, 51, 52, 53, 54, 55, 56, 57] (by decide +kernel) (by decide +kernel)
set_option maxRecDepth 20000 in
theorem gX5_put_X2_beginCoat : GoodIn wsX5_put (wsV RX5 93 RX2 yX2_beginCoat wsX2_beginCoat) := goodIn_app (goodIn_of _ (by decide +kernel)) ggX5_put_X2_beginCoat
theorem dX5_put_0 : decode cX5_put 0 = .ok (.aload_n 0, 1) := by decide +kernel
theorem dX5_put_1 : decode cX5_put 1 = .ok (.getfield 21, 3) := by decide +kernel
theorem dX5_put_4 : decode cX5_put 4 = .ok (.iload_n 1, 1) := by decide +kernel
theorem dX5_put_5 : decode cX5_put 5 = .ok (.iload_n 2, 1) := by decide +kernel
theorem dX5_put_6 : decode cX5_put 6 = .ok (.invokevirtual 93, 3) := by decide +kernel
theorem dX5_put_9 : decode cX5_put 9 = .ok (.ireturn, 1) := by decide +kernel
set_option maxRecDepth 20000 in
theorem ggX5_day_X2_passDay : GoodIn wsX5_day wsX2_passDay := goodIn_r _ [6, 7, 8, 9, 10, 11, 5, 12, 13, 14, 15, 16, 17, 18, 19, 20, 21, 22, 23, 24, 25, 26, 27, 28, 29, 30, 31, 32, 33, 34, 35, 44, 45, 46, 47, 48, 49, 50, 51, 52, 53, 54, 55] (by decide +kernel) (by decide +kernel)
set_option maxRecDepth 20000 in
theorem gX5_day_X2_passDay : GoodIn wsX5_day (wsV RX5 96 RX2 yX2_passDay wsX2_passDay) := goodIn_app (goodIn_of _ (by decide +kernel)) ggX5_day_X2_passDay
theorem dX5_day_0 : decode cX5_day 0 = .ok (.aload_n 0, 1) := by decide +kernel
theorem dX5_day_1 : decode cX5_day 1 = .ok (.getfield 21, 3) := by decide +kernel
theorem dX5_day_4 : decode cX5_day 4 = .ok (.invokevirtual 96, 3) := by decide +kernel
theorem dX5_day_7 : decode cX5_day 7 = .ok (.ireturn, 1) := by decide +kernel
set_option maxRecDepth 20000 in
theorem ggX5_square_X2_tellSquare : GoodIn wsX5_square wsX2_tellSquare := goodIn_r _ [6, 7, 8, 9, 10, 11, 12, 13, 14, 15, 16, 17, 18, 5, 19, 20, 21, 22, 23, 24, 25, 26, 35, 36, 37, 38, 39, 40, 41, 42, 43, 44, 45, 46, 47, 48] (by decide +kernel) (by decide +kernel)
set_option maxRecDepth 20000 in
theorem gX5_square_X2_tellSquare : GoodIn wsX5_square (wsV RX5 100 RX2 yX2_tellSquare wsX2_tellSquare) := goodIn_app (goodIn_of _ (by decide +kernel)) ggX5_square_X2_tellSquare
theorem dX5_square_0 : decode cX5_square 0 = .ok (.aload_n 0, 1) := by decide +kernel
theorem dX5_square_1 : decode cX5_square 1 = .ok (.getfield 21, 3) := by decide +kernel
theorem dX5_square_4 : decode cX5_square 4 = .ok (.iload_n 1, 1) := by decide +kernel
theorem dX5_square_5 : decode cX5_square 5 = .ok (.iload_n 2, 1) := by decide +kernel
theorem dX5_square_6 : decode cX5_square 6 = .ok (.invokevirtual 100, 3) := by decide +kernel
theorem dX5_square_9 : decode cX5_square 9 = .ok (.ireturn, 1) := by decide +kernel
set_option maxRecDepth 20000 in
theorem ggX5_least_X2_leastDays : GoodIn wsX5_least wsX2_leastDays := goodIn_r _ [6, 7, 8, 9, 10, 11, 12, 5, 13, 14, 15, 16, 17, 18, 19, 20, 21, 22, 23, 24, 25, 26, 27, 28, 29, 30, 31, 32, 33, 34, 35, 36, 37, 38, 39, 40, 41, 42, 43, 52, 53, 54, 55, 56, 57, 58, 59, 60, 61, 62, 63, 64, 65] (by decide +kernel) (by decide +kernel)
set_option maxRecDepth 20000 in
theorem gX5_least_X2_leastDays : GoodIn wsX5_least (wsV RX5 103 RX2 yX2_leastDays wsX2_leastDays) := goodIn_app (goodIn_of _ (by decide +kernel)) ggX5_least_X2_leastDays
theorem dX5_least_0 : decode cX5_least 0 = .ok (.aload_n 0, 1) := by decide +kernel
theorem dX5_least_1 : decode cX5_least 1 = .ok (.getfield 21, 3) := by decide +kernel
theorem dX5_least_4 : decode cX5_least 4 = .ok (.iload_n 1, 1) := by decide +kernel
theorem dX5_least_5 : decode cX5_least 5 = .ok (.iload_n 2, 1) := by decide +kernel
theorem dX5_least_6 : decode cX5_least 6 = .ok (.iload_n 3, 1) := by decide +kernel
theorem dX5_least_7 : decode cX5_least 7 = .ok (.invokevirtual 103, 3) := by decide +kernel
theorem dX5_least_10 : decode cX5_least 10 = .ok (.ireturn, 1) := by decide +kernel
set_option maxRecDepth 20000 in
theorem ggX5_feed_X0_takeBytes : GoodIn wsX5_feed wsX0_takeBytes := goodIn_r _ [6, 7, 8, 9, 10, 5, 11, 12, 21, 22, 23, 24, 25, 26] (by decide +kernel) (by decide +kernel)
set_option maxRecDepth 20000 in
theorem gX5_feed_X0_takeBytes : GoodIn wsX5_feed (wsV RX5 107 RX0 yX0_takeBytes wsX0_takeBytes) := goodIn_app (goodIn_of _ (by decide +kernel)) ggX5_feed_X0_takeBytes
theorem dX5_feed_0 : decode cX5_feed 0 = .ok (.aload_n 0, 1) := by decide +kernel
theorem dX5_feed_1 : decode cX5_feed 1 = .ok (.getfield 28, 3) := by decide +kernel
theorem dX5_feed_4 : decode cX5_feed 4 = .ok (.iload_n 1, 1) := by decide +kernel
theorem dX5_feed_5 : decode cX5_feed 5 = .ok (.iload_n 2, 1) := by decide +kernel
theorem dX5_feed_6 : decode cX5_feed 6 = .ok (.iload_n 3, 1) := by decide +kernel
theorem dX5_feed_7 : decode cX5_feed 7 = .ok (.iload 4, 2) := by decide +kernel
theorem dX5_feed_9 : decode cX5_feed 9 = .ok (.iload 5, 2) := by decide +kernel
theorem dX5_feed_11 : decode cX5_feed 11 = .ok (.invokevirtual 107, 3) := by decide +kernel
theorem dX5_feed_14 : decode cX5_feed 14 = .ok (.ireturn, 1) := by decide +kernel
set_option maxRecDepth 20000 in
theorem ggX5_hall_X0_bytes : GoodIn wsX5_hall wsX0_bytes := goodIn_r _ [13, 14, 172, 173, 174, 175, 176, 177] (by decide +kernel) (by decide +kernel)
set_option maxRecDepth 20000 in
theorem gX5_hall_X0_bytes : GoodIn wsX5_hall (wsV RX5 111 RX0 yX0_bytes wsX0_bytes) := goodIn_app (goodIn_of _ (by decide +kernel)) ggX5_hall_X0_bytes
set_option maxRecDepth 20000 in
theorem ggX5_hall_X0_readContract : GoodIn wsX5_hall wsX0_readContract := goodIn_r _ [18, 14, 19, 20, 21, 22, 23, 24, 25, 26, 27, 28, 29, 8, 30, 31, 32, 33, 34, 35, 36, 12, 37, 38, 39, 40, 41, 42, 43, 44, 45, 46, 47, 48, 49, 50, 51, 52, 53, 54, 55, 56, 57, 58, 59, 60, 61, 62, 63, 64, 65, 66, 67, 68, 69, 70, 71, 72, 73, 74, 75, 76, 77, 78, 79, 80, 81, 82, 83, 84, 85, 86, 87, 88, 89, 90, 91, 92, 93, 94, 95, 96, 97, 98, 99, 100, 101, 102, 103, 104, 105, 106, 107, 108, 109, 110, 111, 112, 113, 114, 115, 116, 117, 118, 119, 120, 121, 122, 123, 124, 125, 126, 127, 128, 129, 130, 131, 132, 133, 134, 135, 136, 137, 138, 139, 140, 141, 142, 143, 144, 172, 173, 174, 175, 176, 177, 160, 161, 162, 163, 164, 165, 166, 167, 168, 169, 170, 171] (by decide +kernel) (by decide +kernel)
set_option maxRecDepth 20000 in
theorem gX5_hall_X0_readContract : GoodIn wsX5_hall (wsV RX5 114 RX0 yX0_readContract wsX0_readContract) := goodIn_app (goodIn_of _ (by decide +kernel)) ggX5_hall_X0_readContract
set_option maxRecDepth 20000 in
theorem ggX5_hall_X1_init : GoodIn wsX5_hall wsX1_init := goodIn_r _ [147, 148, 149, 150, 151, 120, 121, 142, 143, 144, 32, 160, 161, 162, 163, 164, 165, 166, 167, 168, 169, 170, 171] (by decide +kernel) (by decide +kernel)
set_option maxRecDepth 20000 in
theorem gX5_hall_X1_init : GoodIn wsX5_hall (wsX1_init) := ggX5_hall_X1_init
theorem dX5_hall_0 : decode cX5_hall 0 = .ok (.iload_n 1, 1) := by decide +kernel
theorem dX5_hall_1 : decode cX5_hall 1 = .ok (.ifCond .lt 14, 3) := by decide +kernel
theorem dX5_hall_4 : decode cX5_hall 4 = .ok (.iload_n 1, 1) := by decide +kernel
theorem dX5_hall_5 : decode cX5_hall 5 = .ok (.aload_n 0, 1) := by decide +kernel
theorem dX5_hall_6 : decode cX5_hall 6 = .ok (.getfield 28, 3) := by decide +kernel
theorem dX5_hall_9 : decode cX5_hall 9 = .ok (.invokevirtual 111, 3) := by decide +kernel
theorem dX5_hall_12 : decode cX5_hall 12 = .ok (.if_icmp .le 6, 3) := by decide +kernel
theorem dX5_hall_15 : decode cX5_hall 15 = .ok (.bipush (-2), 2) := by decide +kernel
theorem dX5_hall_17 : decode cX5_hall 17 = .ok (.ireturn, 1) := by decide +kernel
theorem dX5_hall_18 : decode cX5_hall 18 = .ok (.aload_n 0, 1) := by decide +kernel
theorem dX5_hall_19 : decode cX5_hall 19 = .ok (.getfield 50, 3) := by decide +kernel
theorem dX5_hall_22 : decode cX5_hall 22 = .ok (.ifCond .lt 12, 3) := by decide +kernel
theorem dX5_hall_25 : decode cX5_hall 25 = .ok (.aload_n 0, 1) := by decide +kernel
theorem dX5_hall_26 : decode cX5_hall 26 = .ok (.getfield 50, 3) := by decide +kernel
theorem dX5_hall_29 : decode cX5_hall 29 = .ok (.bipush 12, 2) := by decide +kernel
theorem dX5_hall_31 : decode cX5_hall 31 = .ok (.if_icmp .lt 6, 3) := by decide +kernel
theorem dX5_hall_34 : decode cX5_hall 34 = .ok (.bipush (-3), 2) := by decide +kernel
theorem dX5_hall_36 : decode cX5_hall 36 = .ok (.ireturn, 1) := by decide +kernel
theorem dX5_hall_37 : decode cX5_hall 37 = .ok (.aload_n 0, 1) := by decide +kernel
theorem dX5_hall_38 : decode cX5_hall 38 = .ok (.aload_n 0, 1) := by decide +kernel
theorem dX5_hall_39 : decode cX5_hall 39 = .ok (.getfield 28, 3) := by decide +kernel
theorem dX5_hall_42 : decode cX5_hall 42 = .ok (.iload_n 1, 1) := by decide +kernel
theorem dX5_hall_43 : decode cX5_hall 43 = .ok (.aload_n 0, 1) := by decide +kernel
theorem dX5_hall_44 : decode cX5_hall 44 = .ok (.getfield 46, 3) := by decide +kernel
theorem dX5_hall_47 : decode cX5_hall 47 = .ok (.invokevirtual 114, 3) := by decide +kernel
theorem dX5_hall_50 : decode cX5_hall 50 = .ok (.putfield 54, 3) := by decide +kernel
theorem dX5_hall_53 : decode cX5_hall 53 = .ok (.aload_n 0, 1) := by decide +kernel
theorem dX5_hall_54 : decode cX5_hall 54 = .ok (.getfield 54, 3) := by decide +kernel
theorem dX5_hall_57 : decode cX5_hall 57 = .ok (.iconst (-1), 1) := by decide +kernel
theorem dX5_hall_58 : decode cX5_hall 58 = .ok (.if_icmp .eq 5, 3) := by decide +kernel
theorem dX5_hall_61 : decode cX5_hall 61 = .ok (.iconst (-1), 1) := by decide +kernel
theorem dX5_hall_62 : decode cX5_hall 62 = .ok (.ireturn, 1) := by decide +kernel
theorem dX5_hall_63 : decode cX5_hall 63 = .ok (.aload_n 0, 1) := by decide +kernel
theorem dX5_hall_64 : decode cX5_hall 64 = .ok (.getfield 34, 3) := by decide +kernel
theorem dX5_hall_67 : decode cX5_hall 67 = .ok (.aload_n 0, 1) := by decide +kernel
theorem dX5_hall_68 : decode cX5_hall 68 = .ok (.getfield 50, 3) := by decide +kernel
theorem dX5_hall_71 : decode cX5_hall 71 = .ok (.aload_n 0, 1) := by decide +kernel
theorem dX5_hall_72 : decode cX5_hall 72 = .ok (.getfield 46, 3) := by decide +kernel
theorem dX5_hall_75 : decode cX5_hall 75 = .ok (.aastore, 1) := by decide +kernel
theorem dX5_hall_76 : decode cX5_hall 76 = .ok (.aload_n 0, 1) := by decide +kernel
theorem dX5_hall_77 : decode cX5_hall 77 = .ok (.new 32, 3) := by decide +kernel
theorem dX5_hall_80 : decode cX5_hall 80 = .ok (.dup, 1) := by decide +kernel
theorem dX5_hall_81 : decode cX5_hall 81 = .ok (.invokespecial 45, 3) := by decide +kernel
theorem dX5_hall_84 : decode cX5_hall 84 = .ok (.putfield 46, 3) := by decide +kernel
theorem dX5_hall_87 : decode cX5_hall 87 = .ok (.aload_n 0, 1) := by decide +kernel
theorem dX5_hall_88 : decode cX5_hall 88 = .ok (.dup, 1) := by decide +kernel
theorem dX5_hall_89 : decode cX5_hall 89 = .ok (.getfield 50, 3) := by decide +kernel
theorem dX5_hall_92 : decode cX5_hall 92 = .ok (.dup_x1, 1) := by decide +kernel
theorem dX5_hall_93 : decode cX5_hall 93 = .ok (.iconst 1, 1) := by decide +kernel
theorem dX5_hall_94 : decode cX5_hall 94 = .ok (.iadd, 1) := by decide +kernel
theorem dX5_hall_95 : decode cX5_hall 95 = .ok (.putfield 50, 3) := by decide +kernel
theorem dX5_hall_98 : decode cX5_hall 98 = .ok (.ireturn, 1) := by decide +kernel
theorem dX5_fault_0 : decode cX5_fault 0 = .ok (.aload_n 0, 1) := by decide +kernel
theorem dX5_fault_1 : decode cX5_fault 1 = .ok (.getfield 54, 3) := by decide +kernel
theorem dX5_fault_4 : decode cX5_fault 4 = .ok (.ireturn, 1) := by decide +kernel
set_option maxRecDepth 20000 in
theorem ggX5_week_X5_hallNumbered : GoodIn wsX5_week wsX5_hallNumbered := goodIn_r _ [5, 6, 48, 49, 50, 51, 52, 53, 54, 55] (by decide +kernel) (by decide +kernel)
set_option maxRecDepth 20000 in
theorem gX5_week_X5_hallNumbered : GoodIn wsX5_week (wsV RX5 118 RX5 yX5_hallNumbered wsX5_hallNumbered) := goodIn_app (goodIn_of _ (by decide +kernel)) ggX5_week_X5_hallNumbered
set_option maxRecDepth 20000 in
theorem ggX5_week_X5_isTold : GoodIn wsX5_week wsX5_isTold := goodIn_r _ [9, 10] (by decide +kernel) (by decide +kernel)
set_option maxRecDepth 20000 in
theorem gX5_week_X5_isTold : GoodIn wsX5_week (va_wsS RX5 122 yX5_isTold wsX5_isTold) := goodIn_app (goodIn_of _ (by decide +kernel)) ggX5_week_X5_isTold
set_option maxRecDepth 20000 in
theorem ggX5_week_X1_passWeek : GoodIn wsX5_week wsX1_passWeek := goodIn_r _ [15, 16, 17, 18, 19, 20, 21, 22, 23, 24, 25, 26, 27, 28, 14, 29, 30, 31, 32, 33, 34, 35, 36, 37, 38, 39, 40, 41, 42, 43, 44, 45, 46, 47, 56, 57, 58, 59, 60, 61, 62, 63, 64, 65, 66, 67] (by decide +kernel) (by decide +kernel)
set_option maxRecDepth 20000 in
theorem gX5_week_X1_passWeek : GoodIn wsX5_week (wsV RX5 126 RX1 yX1_passWeek wsX1_passWeek) := goodIn_app (goodIn_of _ (by decide +kernel)) ggX5_week_X1_passWeek
theorem dX5_week_0 : decode cX5_week 0 = .ok (.aload_n 0, 1) := by decide +kernel
theorem dX5_week_1 : decode cX5_week 1 = .ok (.iload_n 1, 1) := by decide +kernel
theorem dX5_week_2 : decode cX5_week 2 = .ok (.invokevirtual 118, 3) := by decide +kernel
theorem dX5_week_5 : decode cX5_week 5 = .ok (.astore 4, 2) := by decide +kernel
theorem dX5_week_7 : decode cX5_week 7 = .ok (.aload 4, 2) := by decide +kernel
theorem dX5_week_9 : decode cX5_week 9 = .ok (.ifnull 17, 3) := by decide +kernel
theorem dX5_week_12 : decode cX5_week 12 = .ok (.iload_n 2, 1) := by decide +kernel
theorem dX5_week_13 : decode cX5_week 13 = .ok (.invokestatic 122, 3) := by decide +kernel
theorem dX5_week_16 : decode cX5_week 16 = .ok (.ifCond .eq 10, 3) := by decide +kernel
theorem dX5_week_19 : decode cX5_week 19 = .ok (.iload_n 3, 1) := by decide +kernel
theorem dX5_week_20 : decode cX5_week 20 = .ok (.invokestatic 122, 3) := by decide +kernel
theorem dX5_week_23 : decode cX5_week 23 = .ok (.ifCond .ne 5, 3) := by decide +kernel
theorem dX5_week_26 : decode cX5_week 26 = .ok (.iconst (-1), 1) := by decide +kernel
theorem dX5_week_27 : decode cX5_week 27 = .ok (.ireturn, 1) := by decide +kernel
theorem dX5_week_28 : decode cX5_week 28 = .ok (.aload 4, 2) := by decide +kernel
theorem dX5_week_30 : decode cX5_week 30 = .ok (.iload_n 2, 1) := by decide +kernel
theorem dX5_week_31 : decode cX5_week 31 = .ok (.iload_n 3, 1) := by decide +kernel
theorem dX5_week_32 : decode cX5_week 32 = .ok (.invokevirtual 126, 3) := by decide +kernel
theorem dX5_week_35 : decode cX5_week 35 = .ok (.ireturn, 1) := by decide +kernel
set_option maxRecDepth 20000 in
theorem ggX5_hallOf_X5_hallNumbered : GoodIn wsX5_hallOf wsX5_hallNumbered := goodIn_r _ [5, 6, 18, 19, 20, 21, 22, 23, 24, 25] (by decide +kernel) (by decide +kernel)
set_option maxRecDepth 20000 in
theorem gX5_hallOf_X5_hallNumbered : GoodIn wsX5_hallOf (wsV RX5 118 RX5 yX5_hallNumbered wsX5_hallNumbered) := goodIn_app (goodIn_of _ (by decide +kernel)) ggX5_hallOf_X5_hallNumbered
set_option maxRecDepth 20000 in
theorem ggX5_hallOf_X1_tell : GoodIn wsX5_hallOf wsX1_tell := goodIn_r _ [11, 12, 13, 14, 15, 16, 17, 26, 27, 28, 29, 30, 31, 32, 33, 34, 35, 36, 37] (by decide +kernel) (by decide +kernel)
set_option maxRecDepth 20000 in
theorem gX5_hallOf_X1_tell : GoodIn wsX5_hallOf (wsV RX5 129 RX1 yX1_tell wsX1_tell) := goodIn_app (goodIn_of _ (by decide +kernel)) ggX5_hallOf_X1_tell
theorem dX5_hallOf_0 : decode cX5_hallOf 0 = .ok (.aload_n 0, 1) := by decide +kernel
theorem dX5_hallOf_1 : decode cX5_hallOf 1 = .ok (.iload_n 1, 1) := by decide +kernel
theorem dX5_hallOf_2 : decode cX5_hallOf 2 = .ok (.invokevirtual 118, 3) := by decide +kernel
theorem dX5_hallOf_5 : decode cX5_hallOf 5 = .ok (.astore_n 3, 1) := by decide +kernel
theorem dX5_hallOf_6 : decode cX5_hallOf 6 = .ok (.aload_n 3, 1) := by decide +kernel
theorem dX5_hallOf_7 : decode cX5_hallOf 7 = .ok (.ifnonnull 7, 3) := by decide +kernel
theorem dX5_hallOf_10 : decode cX5_hallOf 10 = .ok (.iconst (-1), 1) := by decide +kernel
theorem dX5_hallOf_11 : decode cX5_hallOf 11 = .ok (.goto 8, 3) := by decide +kernel
theorem dX5_hallOf_14 : decode cX5_hallOf 14 = .ok (.aload_n 3, 1) := by decide +kernel
theorem dX5_hallOf_15 : decode cX5_hallOf 15 = .ok (.iload_n 2, 1) := by decide +kernel
theorem dX5_hallOf_16 : decode cX5_hallOf 16 = .ok (.invokevirtual 129, 3) := by decide +kernel
theorem dX5_hallOf_19 : decode cX5_hallOf 19 = .ok (.ireturn, 1) := by decide +kernel
set_option maxRecDepth 20000 in
theorem ggX5_room_X3_setRoom : GoodIn wsX5_room wsX3_setRoom := goodIn_r _ [6, 7, 16, 17, 18, 19, 20, 21, 22] (by decide +kernel) (by decide +kernel)
set_option maxRecDepth 20000 in
theorem gX5_room_X3_setRoom : GoodIn wsX5_room (wsV RX5 132 RX3 yX3_setRoom wsX3_setRoom) := goodIn_app (goodIn_of _ (by decide +kernel)) ggX5_room_X3_setRoom
theorem dX5_room_0 : decode cX5_room 0 = .ok (.aload_n 0, 1) := by decide +kernel
theorem dX5_room_1 : decode cX5_room 1 = .ok (.getfield 41, 3) := by decide +kernel
theorem dX5_room_4 : decode cX5_room 4 = .ok (.iload_n 1, 1) := by decide +kernel
theorem dX5_room_5 : decode cX5_room 5 = .ok (.invokevirtual 132, 3) := by decide +kernel
theorem dX5_room_8 : decode cX5_room 8 = .ok (.ireturn, 1) := by decide +kernel
set_option maxRecDepth 20000 in
theorem ggX5_minute_X3_passMinute : GoodIn wsX5_minute wsX3_passMinute := goodIn_r _ [6, 7, 8, 9, 10, 11, 12, 13, 14, 15, 16, 17, 18, 19, 20, 21, 22, 23, 24, 33, 34, 35, 36, 37, 38, 39] (by decide +kernel) (by decide +kernel)
set_option maxRecDepth 20000 in
theorem gX5_minute_X3_passMinute : GoodIn wsX5_minute (wsV RX5 135 RX3 yX3_passMinute wsX3_passMinute) := goodIn_app (goodIn_of _ (by decide +kernel)) ggX5_minute_X3_passMinute
theorem dX5_minute_0 : decode cX5_minute 0 = .ok (.aload_n 0, 1) := by decide +kernel
theorem dX5_minute_1 : decode cX5_minute 1 = .ok (.getfield 41, 3) := by decide +kernel
theorem dX5_minute_4 : decode cX5_minute 4 = .ok (.iload_n 1, 1) := by decide +kernel
theorem dX5_minute_5 : decode cX5_minute 5 = .ok (.invokevirtual 135, 3) := by decide +kernel
theorem dX5_minute_8 : decode cX5_minute 8 = .ok (.ireturn, 1) := by decide +kernel
set_option maxRecDepth 20000 in
theorem ggX5_crowd_X3_tell : GoodIn wsX5_crowd wsX3_tell := goodIn_r _ [6, 7, 8, 9, 10, 11, 12, 21, 22, 23, 24, 25, 26, 27] (by decide +kernel) (by decide +kernel)
set_option maxRecDepth 20000 in
theorem gX5_crowd_X3_tell : GoodIn wsX5_crowd (wsV RX5 138 RX3 yX3_tell wsX3_tell) := goodIn_app (goodIn_of _ (by decide +kernel)) ggX5_crowd_X3_tell
theorem dX5_crowd_0 : decode cX5_crowd 0 = .ok (.aload_n 0, 1) := by decide +kernel
theorem dX5_crowd_1 : decode cX5_crowd 1 = .ok (.getfield 41, 3) := by decide +kernel
theorem dX5_crowd_4 : decode cX5_crowd 4 = .ok (.iload_n 1, 1) := by decide +kernel
theorem dX5_crowd_5 : decode cX5_crowd 5 = .ok (.invokevirtual 138, 3) := by decide +kernel
theorem dX5_crowd_8 : decode cX5_crowd 8 = .ok (.ireturn, 1) := by decide +kernel
set_option maxRecDepth 20000 in
theorem ggX5_count_X2_today : GoodIn wsX5_count wsX2_today := goodIn_r _ [9, 10, 41, 42, 43, 44, 45, 46, 47, 48, 49, 50, 51, 52] (by decide +kernel) (by decide +kernel)
set_option maxRecDepth 20000 in
theorem gX5_count_X2_today : GoodIn wsX5_count (wsV RX5 139 RX2 yX2_today wsX2_today) := goodIn_app (goodIn_of _ (by decide +kernel)) ggX5_count_X2_today
set_option maxRecDepth 20000 in
theorem ggX5_count_X2_gangs : GoodIn wsX5_count wsX2_gangs := goodIn_r _ [14, 15, 41, 42, 43, 44, 45, 46, 47, 48, 49, 50, 51, 52] (by decide +kernel) (by decide +kernel)
end
section
set_option maxRecDepth 20000 in
theorem gX5_count_X2_gangs : GoodIn wsX5_count (wsV RX5 142 RX2 yX2_gangs wsX2_gangs) := goodIn_app (goodIn_of _ (by decide +kernel)) ggX5_count_X2_gangs
set_option maxRecDepth 20000 in
theorem ggX5_count_X0_bytes : GoodIn wsX5_count wsX0_bytes := goodIn_r _ [20, 21, 53, 54, 55, 56, 57, 58] (by decide +kernel) (by decide +kernel)
set_option maxRecDepth 20000 in
theorem gX5_count_X0_bytes : GoodIn wsX5_count (wsV RX5 111 RX0 yX0_bytes wsX0_bytes) := goodIn_app (goodIn_of _ (by decide +kernel)) ggX5_count_X0_bytes
set_option maxRecDepth 20000 in
theorem ggX5_count_X4_colouredPlaces : GoodIn wsX5_count wsX4_colouredPlaces := goodIn_r _ [26, 27, 59, 60] (by decide +kernel) (by decide +kernel)
set_option maxRecDepth 20000 in
theorem gX5_count_X4_colouredPlaces : GoodIn wsX5_count (wsV RX5 145 RX4 yX4_colouredPlaces wsX4_colouredPlaces) := goodIn_app (goodIn_of _ (by decide +kernel)) ggX5_count_X4_colouredPlaces
set_option maxRecDepth 20000 in
theorem ggX5_count_X2_finishedSquares : GoodIn wsX5_count wsX2_finishedSquares := goodIn_r _ [31, 32, 41, 42, 43, 44, 45, 46, 47, 48, 49, 50, 51, 52] (by decide +kernel) (by decide +kernel)
set_option maxRecDepth 20000 in
theorem gX5_count_X2_finishedSquares : GoodIn wsX5_count (wsV RX5 148 RX2 yX2_finishedSquares wsX2_finishedSquares) := goodIn_app (goodIn_of _ (by decide +kernel)) ggX5_count_X2_finishedSquares
theorem dX5_count_0 : decode cX5_count 0 = .ok (.iload_n 1, 1) := by decide +kernel
theorem dX5_count_1 : decode cX5_count 1 = .ok (.tableswitch 84 0 5 #[39, 47, 55, 60, 68, 76], 39) := by decide +kernel
theorem dX5_count_40 : decode cX5_count 40 = .ok (.aload_n 0, 1) := by decide +kernel
theorem dX5_count_41 : decode cX5_count 41 = .ok (.getfield 21, 3) := by decide +kernel
theorem dX5_count_44 : decode cX5_count 44 = .ok (.invokevirtual 139, 3) := by decide +kernel
theorem dX5_count_47 : decode cX5_count 47 = .ok (.ireturn, 1) := by decide +kernel
theorem dX5_count_48 : decode cX5_count 48 = .ok (.aload_n 0, 1) := by decide +kernel
theorem dX5_count_49 : decode cX5_count 49 = .ok (.getfield 21, 3) := by decide +kernel
theorem dX5_count_52 : decode cX5_count 52 = .ok (.invokevirtual 142, 3) := by decide +kernel
theorem dX5_count_55 : decode cX5_count 55 = .ok (.ireturn, 1) := by decide +kernel
theorem dX5_count_56 : decode cX5_count 56 = .ok (.aload_n 0, 1) := by decide +kernel
theorem dX5_count_57 : decode cX5_count 57 = .ok (.getfield 50, 3) := by decide +kernel
theorem dX5_count_60 : decode cX5_count 60 = .ok (.ireturn, 1) := by decide +kernel
theorem dX5_count_61 : decode cX5_count 61 = .ok (.aload_n 0, 1) := by decide +kernel
theorem dX5_count_62 : decode cX5_count 62 = .ok (.getfield 28, 3) := by decide +kernel
theorem dX5_count_65 : decode cX5_count 65 = .ok (.invokevirtual 111, 3) := by decide +kernel
theorem dX5_count_68 : decode cX5_count 68 = .ok (.ireturn, 1) := by decide +kernel
theorem dX5_count_69 : decode cX5_count 69 = .ok (.aload_n 0, 1) := by decide +kernel
theorem dX5_count_70 : decode cX5_count 70 = .ok (.getfield 10, 3) := by decide +kernel
theorem dX5_count_73 : decode cX5_count 73 = .ok (.invokevirtual 145, 3) := by decide +kernel
theorem dX5_count_76 : decode cX5_count 76 = .ok (.ireturn, 1) := by decide +kernel
theorem dX5_count_77 : decode cX5_count 77 = .ok (.aload_n 0, 1) := by decide +kernel
theorem dX5_count_78 : decode cX5_count 78 = .ok (.getfield 21, 3) := by decide +kernel
theorem dX5_count_81 : decode cX5_count 81 = .ok (.invokevirtual 148, 3) := by decide +kernel
theorem dX5_count_84 : decode cX5_count 84 = .ok (.ireturn, 1) := by decide +kernel
theorem dX5_count_85 : decode cX5_count 85 = .ok (.iconst (-1), 1) := by decide +kernel
theorem dX5_count_86 : decode cX5_count 86 = .ok (.ireturn, 1) := by decide +kernel
theorem dX5_hallNumbered_0 : decode cX5_hallNumbered 0 = .ok (.iload_n 1, 1) := by decide +kernel
theorem dX5_hallNumbered_1 : decode cX5_hallNumbered 1 = .ok (.ifCond .lt 18, 3) := by decide +kernel
theorem dX5_hallNumbered_4 : decode cX5_hallNumbered 4 = .ok (.iload_n 1, 1) := by decide +kernel
theorem dX5_hallNumbered_5 : decode cX5_hallNumbered 5 = .ok (.bipush 12, 2) := by decide +kernel
theorem dX5_hallNumbered_7 : decode cX5_hallNumbered 7 = .ok (.if_icmp .ge 12, 3) := by decide +kernel
theorem dX5_hallNumbered_10 : decode cX5_hallNumbered 10 = .ok (.aload_n 0, 1) := by decide +kernel
theorem dX5_hallNumbered_11 : decode cX5_hallNumbered 11 = .ok (.getfield 34, 3) := by decide +kernel
theorem dX5_hallNumbered_14 : decode cX5_hallNumbered 14 = .ok (.iload_n 1, 1) := by decide +kernel
theorem dX5_hallNumbered_15 : decode cX5_hallNumbered 15 = .ok (.aaload, 1) := by decide +kernel
theorem dX5_hallNumbered_16 : decode cX5_hallNumbered 16 = .ok (.goto 4, 3) := by decide +kernel
theorem dX5_hallNumbered_19 : decode cX5_hallNumbered 19 = .ok (.aconst_null, 1) := by decide +kernel
theorem dX5_hallNumbered_20 : decode cX5_hallNumbered 20 = .ok (.areturn, 1) := by decide +kernel
theorem dX5_isTold_0 : decode cX5_isTold 0 = .ok (.iload_n 0, 1) := by decide +kernel
theorem dX5_isTold_1 : decode cX5_isTold 1 = .ok (.ifCond .lt 13, 3) := by decide +kernel
theorem dX5_isTold_4 : decode cX5_isTold 4 = .ok (.iload_n 0, 1) := by decide +kernel
theorem dX5_isTold_5 : decode cX5_isTold 5 = .ok (.ldc 151, 2) := by decide +kernel
theorem dX5_isTold_7 : decode cX5_isTold 7 = .ok (.if_icmp .gt 7, 3) := by decide +kernel
theorem dX5_isTold_10 : decode cX5_isTold 10 = .ok (.iconst 1, 1) := by decide +kernel
theorem dX5_isTold_11 : decode cX5_isTold 11 = .ok (.goto 4, 3) := by decide +kernel
theorem dX5_isTold_14 : decode cX5_isTold 14 = .ok (.iconst 0, 1) := by decide +kernel
theorem dX5_isTold_15 : decode cX5_isTold 15 = .ok (.ireturn, 1) := by decide +kernel
theorem dX5_isSquare_0 : decode cX5_isSquare 0 = .ok (.iload_n 0, 1) := by decide +kernel
theorem dX5_isSquare_1 : decode cX5_isSquare 1 = .ok (.ifCond .lt 13, 3) := by decide +kernel
theorem dX5_isSquare_4 : decode cX5_isSquare 4 = .ok (.iload_n 0, 1) := by decide +kernel
theorem dX5_isSquare_5 : decode cX5_isSquare 5 = .ok (.bipush 72, 2) := by decide +kernel
theorem dX5_isSquare_7 : decode cX5_isSquare 7 = .ok (.if_icmp .ge 7, 3) := by decide +kernel
theorem dX5_isSquare_10 : decode cX5_isSquare 10 = .ok (.iconst 1, 1) := by decide +kernel
theorem dX5_isSquare_11 : decode cX5_isSquare 11 = .ok (.goto 4, 3) := by decide +kernel
theorem dX5_isSquare_14 : decode cX5_isSquare 14 = .ok (.iconst 0, 1) := by decide +kernel
theorem dX5_isSquare_15 : decode cX5_isSquare 15 = .ok (.ireturn, 1) := by decide +kernel
theorem dX6_init_0 : decode cX6_init 0 = .ok (.aload_n 0, 1) := by decide +kernel
theorem dX6_init_1 : decode cX6_init 1 = .ok (.invokespecial 1, 3) := by decide +kernel
theorem dX6_init_4 : decode cX6_init 4 = .ok (.aload_n 0, 1) := by decide +kernel
theorem dX6_init_5 : decode cX6_init 5 = .ok (.sipush 9600, 3) := by decide +kernel
theorem dX6_init_8 : decode cX6_init 8 = .ok (.newarray .byte, 2) := by decide +kernel
theorem dX6_init_10 : decode cX6_init 10 = .ok (.putfield 7, 3) := by decide +kernel
theorem dX6_init_13 : decode cX6_init 13 = .ok (.aload_n 0, 1) := by decide +kernel
theorem dX6_init_14 : decode cX6_init 14 = .ok (.ldc 13, 2) := by decide +kernel
theorem dX6_init_16 : decode cX6_init 16 = .ok (.newarray .byte, 2) := by decide +kernel
theorem dX6_init_18 : decode cX6_init 18 = .ok (.putfield 14, 3) := by decide +kernel
theorem dX6_init_21 : decode cX6_init 21 = .ok (.aload_n 0, 1) := by decide +kernel
theorem dX6_init_22 : decode cX6_init 22 = .ok (.bipush 12, 2) := by decide +kernel
theorem dX6_init_24 : decode cX6_init 24 = .ok (.newarray .boolean, 2) := by decide +kernel
theorem dX6_init_26 : decode cX6_init 26 = .ok (.putfield 17, 3) := by decide +kernel
theorem dX6_init_29 : decode cX6_init 29 = .ok (.aload_n 0, 1) := by decide +kernel
theorem dX6_init_30 : decode cX6_init 30 = .ok (.bipush 6, 2) := by decide +kernel
theorem dX6_init_32 : decode cX6_init 32 = .ok (.newarray .int, 2) := by decide +kernel
theorem dX6_init_34 : decode cX6_init 34 = .ok (.putfield 21, 3) := by decide +kernel
theorem dX6_init_37 : decode cX6_init 37 = .ok (.aload_n 0, 1) := by decide +kernel
theorem dX6_init_38 : decode cX6_init 38 = .ok (.bipush 6, 2) := by decide +kernel
theorem dX6_init_40 : decode cX6_init 40 = .ok (.newarray .int, 2) := by decide +kernel
theorem dX6_init_42 : decode cX6_init 42 = .ok (.putfield 25, 3) := by decide +kernel
theorem dX6_init_45 : decode cX6_init 45 = .ok (.aload_n 0, 1) := by decide +kernel
theorem dX6_init_46 : decode cX6_init 46 = .ok (.bipush 72, 2) := by decide +kernel
theorem dX6_init_48 : decode cX6_init 48 = .ok (.newarray .int, 2) := by decide +kernel
theorem dX6_init_50 : decode cX6_init 50 = .ok (.putfield 28, 3) := by decide +kernel
theorem dX6_init_53 : decode cX6_init 53 = .ok (.aload_n 0, 1) := by decide +kernel
theorem dX6_init_54 : decode cX6_init 54 = .ok (.bipush 72, 2) := by decide +kernel
theorem dX6_init_56 : decode cX6_init 56 = .ok (.newarray .int, 2) := by decide +kernel
theorem dX6_init_58 : decode cX6_init 58 = .ok (.putfield 31, 3) := by decide +kernel
theorem dX6_init_61 : decode cX6_init 61 = .ok (.aload_n 0, 1) := by decide +kernel
theorem dX6_init_62 : decode cX6_init 62 = .ok (.bipush 72, 2) := by decide +kernel
theorem dX6_init_64 : decode cX6_init 64 = .ok (.newarray .int, 2) := by decide +kernel
theorem dX6_init_66 : decode cX6_init 66 = .ok (.putfield 34, 3) := by decide +kernel
theorem dX6_init_69 : decode cX6_init 69 = .ok (.aload_n 0, 1) := by decide +kernel
theorem dX6_init_70 : decode cX6_init 70 = .ok (.bipush 72, 2) := by decide +kernel
theorem dX6_init_72 : decode cX6_init 72 = .ok (.newarray .int, 2) := by decide +kernel
theorem dX6_init_74 : decode cX6_init 74 = .ok (.putfield 37, 3) := by decide +kernel
theorem dX6_init_77 : decode cX6_init 77 = .ok (.aload_n 0, 1) := by decide +kernel
theorem dX6_init_78 : decode cX6_init 78 = .ok (.bipush 72, 2) := by decide +kernel
theorem dX6_init_80 : decode cX6_init 80 = .ok (.newarray .int, 2) := by decide +kernel
theorem dX6_init_82 : decode cX6_init 82 = .ok (.putfield 40, 3) := by decide +kernel
theorem dX6_init_85 : decode cX6_init 85 = .ok (.aload_n 0, 1) := by decide +kernel
theorem dX6_init_86 : decode cX6_init 86 = .ok (.bipush 72, 2) := by decide +kernel
theorem dX6_init_88 : decode cX6_init 88 = .ok (.newarray .int, 2) := by decide +kernel
theorem dX6_init_90 : decode cX6_init 90 = .ok (.putfield 43, 3) := by decide +kernel
theorem dX6_init_93 : decode cX6_init 93 = .ok (.aload_n 0, 1) := by decide +kernel
theorem dX6_init_94 : decode cX6_init 94 = .ok (.bipush 6, 2) := by decide +kernel
theorem dX6_init_96 : decode cX6_init 96 = .ok (.newarray .int, 2) := by decide +kernel
theorem dX6_init_98 : decode cX6_init 98 = .ok (.putfield 46, 3) := by decide +kernel
theorem dX6_init_101 : decode cX6_init 101 = .ok (.aload_n 0, 1) := by decide +kernel
theorem dX6_init_102 : decode cX6_init 102 = .ok (.iconst 3, 1) := by decide +kernel
theorem dX6_init_103 : decode cX6_init 103 = .ok (.newarray .int, 2) := by decide +kernel
theorem dX6_init_105 : decode cX6_init 105 = .ok (.putfield 49, 3) := by decide +kernel
theorem dX6_init_108 : decode cX6_init 108 = .ok (.aload_n 0, 1) := by decide +kernel
theorem dX6_init_109 : decode cX6_init 109 = .ok (.sipush 600, 3) := by decide +kernel
theorem dX6_init_112 : decode cX6_init 112 = .ok (.newarray .byte, 2) := by decide +kernel
theorem dX6_init_114 : decode cX6_init 114 = .ok (.putfield 52, 3) := by decide +kernel
theorem dX6_init_117 : decode cX6_init 117 = .ok (.aload_n 0, 1) := by decide +kernel
theorem dX6_init_118 : decode cX6_init 118 = .ok (.sipush 600, 3) := by decide +kernel
theorem dX6_init_121 : decode cX6_init 121 = .ok (.newarray .byte, 2) := by decide +kernel
theorem dX6_init_123 : decode cX6_init 123 = .ok (.putfield 55, 3) := by decide +kernel
theorem dX6_init_126 : decode cX6_init 126 = .ok (.aload_n 0, 1) := by decide +kernel
theorem dX6_init_127 : decode cX6_init 127 = .ok (.iconst (-1), 1) := by decide +kernel
theorem dX6_init_128 : decode cX6_init 128 = .ok (.putfield 58, 3) := by decide +kernel
theorem dX6_init_131 : decode cX6_init 131 = .ok (.aload_n 0, 1) := by decide +kernel
theorem dX6_init_132 : decode cX6_init 132 = .ok (.bipush 13, 2) := by decide +kernel
theorem dX6_init_134 : decode cX6_init 134 = .ok (.newarray .int, 2) := by decide +kernel
theorem dX6_init_136 : decode cX6_init 136 = .ok (.putfield 62, 3) := by decide +kernel
theorem dX6_init_139 : decode cX6_init 139 = .ok (.aload_n 0, 1) := by decide +kernel
theorem dX6_init_140 : decode cX6_init 140 = .ok (.sipush 156, 3) := by decide +kernel
theorem dX6_init_143 : decode cX6_init 143 = .ok (.newarray .int, 2) := by decide +kernel
theorem dX6_init_145 : decode cX6_init 145 = .ok (.putfield 65, 3) := by decide +kernel
theorem dX6_init_148 : decode cX6_init 148 = .ok (.aload_n 0, 1) := by decide +kernel
theorem dX6_init_149 : decode cX6_init 149 = .ok (.sipush 156, 3) := by decide +kernel
theorem dX6_init_152 : decode cX6_init 152 = .ok (.newarray .int, 2) := by decide +kernel
theorem dX6_init_154 : decode cX6_init 154 = .ok (.putfield 68, 3) := by decide +kernel
theorem dX6_init_157 : decode cX6_init 157 = .ok (.aload_n 0, 1) := by decide +kernel
theorem dX6_init_158 : decode cX6_init 158 = .ok (.sipush 156, 3) := by decide +kernel
theorem dX6_init_161 : decode cX6_init 161 = .ok (.newarray .int, 2) := by decide +kernel
theorem dX6_init_163 : decode cX6_init 163 = .ok (.putfield 71, 3) := by decide +kernel
theorem dX6_init_166 : decode cX6_init 166 = .ok (.aload_n 0, 1) := by decide +kernel
theorem dX6_init_167 : decode cX6_init 167 = .ok (.sipush 468, 3) := by decide +kernel
theorem dX6_init_170 : decode cX6_init 170 = .ok (.newarray .int, 2) := by decide +kernel
theorem dX6_init_172 : decode cX6_init 172 = .ok (.putfield 74, 3) := by decide +kernel
theorem dX6_init_175 : decode cX6_init 175 = .ok (.aload_n 0, 1) := by decide +kernel
theorem dX6_init_176 : decode cX6_init 176 = .ok (.sipush 468, 3) := by decide +kernel
theorem dX6_init_179 : decode cX6_init 179 = .ok (.newarray .int, 2) := by decide +kernel
theorem dX6_init_181 : decode cX6_init 181 = .ok (.putfield 77, 3) := by decide +kernel
theorem dX6_init_184 : decode cX6_init 184 = .ok (.aload_n 0, 1) := by decide +kernel
theorem dX6_init_185 : decode cX6_init 185 = .ok (.sipush 468, 3) := by decide +kernel
theorem dX6_init_188 : decode cX6_init 188 = .ok (.newarray .int, 2) := by decide +kernel
theorem dX6_init_190 : decode cX6_init 190 = .ok (.putfield 80, 3) := by decide +kernel
theorem dX6_init_193 : decode cX6_init 193 = .ok (.aload_n 0, 1) := by decide +kernel
theorem dX6_init_194 : decode cX6_init 194 = .ok (.bipush 12, 2) := by decide +kernel
theorem dX6_init_196 : decode cX6_init 196 = .ok (.newarray .int, 2) := by decide +kernel
theorem dX6_init_198 : decode cX6_init 198 = .ok (.putfield 83, 3) := by decide +kernel
theorem dX6_init_201 : decode cX6_init 201 = .ok (.aload_n 0, 1) := by decide +kernel
theorem dX6_init_202 : decode cX6_init 202 = .ok (.bipush 12, 2) := by decide +kernel
theorem dX6_init_204 : decode cX6_init 204 = .ok (.newarray .int, 2) := by decide +kernel
theorem dX6_init_206 : decode cX6_init 206 = .ok (.putfield 86, 3) := by decide +kernel
theorem dX6_init_209 : decode cX6_init 209 = .ok (.aload_n 0, 1) := by decide +kernel
theorem dX6_init_210 : decode cX6_init 210 = .ok (.bipush 12, 2) := by decide +kernel
theorem dX6_init_212 : decode cX6_init 212 = .ok (.newarray .long, 2) := by decide +kernel
theorem dX6_init_214 : decode cX6_init 214 = .ok (.putfield 89, 3) := by decide +kernel
theorem dX6_init_217 : decode cX6_init 217 = .ok (.aload_n 0, 1) := by decide +kernel
theorem dX6_init_218 : decode cX6_init 218 = .ok (.bipush 12, 2) := by decide +kernel
theorem dX6_init_220 : decode cX6_init 220 = .ok (.newarray .long, 2) := by decide +kernel
theorem dX6_init_222 : decode cX6_init 222 = .ok (.putfield 93, 3) := by decide +kernel
theorem dX6_init_225 : decode cX6_init 225 = .ok (.aload_n 0, 1) := by decide +kernel
theorem dX6_init_226 : decode cX6_init 226 = .ok (.bipush 40, 2) := by decide +kernel
theorem dX6_init_228 : decode cX6_init 228 = .ok (.putfield 96, 3) := by decide +kernel
theorem dX6_init_231 : decode cX6_init 231 = .ok (.aload_n 0, 1) := by decide +kernel
theorem dX6_init_232 : decode cX6_init 232 = .ok (.bipush 12, 2) := by decide +kernel
theorem dX6_init_234 : decode cX6_init 234 = .ok (.newarray .int, 2) := by decide +kernel
theorem dX6_init_236 : decode cX6_init 236 = .ok (.putfield 99, 3) := by decide +kernel
theorem dX6_init_239 : decode cX6_init 239 = .ok (.iconst 0, 1) := by decide +kernel
theorem dX6_init_240 : decode cX6_init 240 = .ok (.istore_n 1, 1) := by decide +kernel
theorem dX6_init_241 : decode cX6_init 241 = .ok (.iload_n 1, 1) := by decide +kernel
theorem dX6_init_242 : decode cX6_init 242 = .ok (.bipush 6, 2) := by decide +kernel
theorem dX6_init_244 : decode cX6_init 244 = .ok (.if_icmp .ge 16, 3) := by decide +kernel
theorem dX6_init_247 : decode cX6_init 247 = .ok (.aload_n 0, 1) := by decide +kernel
theorem dX6_init_248 : decode cX6_init 248 = .ok (.getfield 25, 3) := by decide +kernel
theorem dX6_init_251 : decode cX6_init 251 = .ok (.iload_n 1, 1) := by decide +kernel
theorem dX6_init_252 : decode cX6_init 252 = .ok (.iconst (-1), 1) := by decide +kernel
theorem dX6_init_253 : decode cX6_init 253 = .ok (.iastore, 1) := by decide +kernel
theorem dX6_init_254 : decode cX6_init 254 = .ok (.iinc 1 1, 3) := by decide +kernel
theorem dX6_init_257 : decode cX6_init 257 = .ok (.goto (-16), 3) := by decide +kernel
theorem dX6_init_260 : decode cX6_init 260 = .ok (.iconst 0, 1) := by decide +kernel
theorem dX6_init_261 : decode cX6_init 261 = .ok (.istore_n 1, 1) := by decide +kernel
theorem dX6_init_262 : decode cX6_init 262 = .ok (.iload_n 1, 1) := by decide +kernel
theorem dX6_init_263 : decode cX6_init 263 = .ok (.bipush 72, 2) := by decide +kernel
theorem dX6_init_265 : decode cX6_init 265 = .ok (.if_icmp .ge 37, 3) := by decide +kernel
theorem dX6_init_268 : decode cX6_init 268 = .ok (.aload_n 0, 1) := by decide +kernel
theorem dX6_init_269 : decode cX6_init 269 = .ok (.getfield 31, 3) := by decide +kernel
theorem dX6_init_272 : decode cX6_init 272 = .ok (.iload_n 1, 1) := by decide +kernel
theorem dX6_init_273 : decode cX6_init 273 = .ok (.iconst (-1), 1) := by decide +kernel
theorem dX6_init_274 : decode cX6_init 274 = .ok (.iastore, 1) := by decide +kernel
theorem dX6_init_275 : decode cX6_init 275 = .ok (.aload_n 0, 1) := by decide +kernel
theorem dX6_init_276 : decode cX6_init 276 = .ok (.getfield 37, 3) := by decide +kernel
theorem dX6_init_279 : decode cX6_init 279 = .ok (.iload_n 1, 1) := by decide +kernel
theorem dX6_init_280 : decode cX6_init 280 = .ok (.iconst (-1), 1) := by decide +kernel
theorem dX6_init_281 : decode cX6_init 281 = .ok (.iastore, 1) := by decide +kernel
theorem dX6_init_282 : decode cX6_init 282 = .ok (.aload_n 0, 1) := by decide +kernel
theorem dX6_init_283 : decode cX6_init 283 = .ok (.getfield 40, 3) := by decide +kernel
theorem dX6_init_286 : decode cX6_init 286 = .ok (.iload_n 1, 1) := by decide +kernel
theorem dX6_init_287 : decode cX6_init 287 = .ok (.iconst (-1), 1) := by decide +kernel
theorem dX6_init_288 : decode cX6_init 288 = .ok (.iastore, 1) := by decide +kernel
theorem dX6_init_289 : decode cX6_init 289 = .ok (.aload_n 0, 1) := by decide +kernel
theorem dX6_init_290 : decode cX6_init 290 = .ok (.getfield 43, 3) := by decide +kernel
theorem dX6_init_293 : decode cX6_init 293 = .ok (.iload_n 1, 1) := by decide +kernel
theorem dX6_init_294 : decode cX6_init 294 = .ok (.iconst (-1), 1) := by decide +kernel
theorem dX6_init_295 : decode cX6_init 295 = .ok (.iastore, 1) := by decide +kernel
theorem dX6_init_296 : decode cX6_init 296 = .ok (.iinc 1 1, 3) := by decide +kernel
theorem dX6_init_299 : decode cX6_init 299 = .ok (.goto (-37), 3) := by decide +kernel
theorem dX6_init_302 : decode cX6_init 302 = .ok (.return_, 1) := by decide +kernel
theorem dX6_isIn_0 : decode cX6_isIn 0 = .ok (.iload_n 0, 1) := by decide +kernel
theorem dX6_isIn_1 : decode cX6_isIn 1 = .ok (.iload_n 1, 1) := by decide +kernel
theorem dX6_isIn_2 : decode cX6_isIn 2 = .ok (.if_icmp .lt 12, 3) := by decide +kernel
theorem dX6_isIn_5 : decode cX6_isIn 5 = .ok (.iload_n 0, 1) := by decide +kernel
theorem dX6_isIn_6 : decode cX6_isIn 6 = .ok (.iload_n 2, 1) := by decide +kernel
theorem dX6_isIn_7 : decode cX6_isIn 7 = .ok (.if_icmp .gt 7, 3) := by decide +kernel
theorem dX6_isIn_10 : decode cX6_isIn 10 = .ok (.iconst 1, 1) := by decide +kernel
theorem dX6_isIn_11 : decode cX6_isIn 11 = .ok (.goto 4, 3) := by decide +kernel
theorem dX6_isIn_14 : decode cX6_isIn 14 = .ok (.iconst 0, 1) := by decide +kernel
theorem dX6_isIn_15 : decode cX6_isIn 15 = .ok (.ireturn, 1) := by decide +kernel
set_option maxRecDepth 20000 in
theorem ggX6_isMark_X6_isIn : GoodIn wsX6_isMark wsX6_isIn := goodIn_r _ [4] (by decide +kernel) (by decide +kernel)
set_option maxRecDepth 20000 in
theorem gX6_isMark_X6_isIn : GoodIn wsX6_isMark (va_wsS RX6 102 yX6_isIn wsX6_isIn) := goodIn_app (goodIn_of _ (by decide +kernel)) ggX6_isMark_X6_isIn
theorem dX6_isMark_0 : decode cX6_isMark 0 = .ok (.iload_n 0, 1) := by decide +kernel
theorem dX6_isMark_1 : decode cX6_isMark 1 = .ok (.iconst 0, 1) := by decide +kernel
theorem dX6_isMark_2 : decode cX6_isMark 2 = .ok (.bipush 11, 2) := by decide +kernel
theorem dX6_isMark_4 : decode cX6_isMark 4 = .ok (.invokestatic 102, 3) := by decide +kernel
theorem dX6_isMark_7 : decode cX6_isMark 7 = .ok (.ifCond .eq 27, 3) := by decide +kernel
theorem dX6_isMark_10 : decode cX6_isMark 10 = .ok (.iload_n 1, 1) := by decide +kernel
theorem dX6_isMark_11 : decode cX6_isMark 11 = .ok (.iconst 0, 1) := by decide +kernel
theorem dX6_isMark_12 : decode cX6_isMark 12 = .ok (.bipush 39, 2) := by decide +kernel
theorem dX6_isMark_14 : decode cX6_isMark 14 = .ok (.invokestatic 102, 3) := by decide +kernel
theorem dX6_isMark_17 : decode cX6_isMark 17 = .ok (.ifCond .eq 17, 3) := by decide +kernel
theorem dX6_isMark_20 : decode cX6_isMark 20 = .ok (.iload_n 2, 1) := by decide +kernel
theorem dX6_isMark_21 : decode cX6_isMark 21 = .ok (.iconst 0, 1) := by decide +kernel
theorem dX6_isMark_22 : decode cX6_isMark 22 = .ok (.bipush 19, 2) := by decide +kernel
theorem dX6_isMark_24 : decode cX6_isMark 24 = .ok (.invokestatic 102, 3) := by decide +kernel
theorem dX6_isMark_27 : decode cX6_isMark 27 = .ok (.ifCond .eq 7, 3) := by decide +kernel
theorem dX6_isMark_30 : decode cX6_isMark 30 = .ok (.iconst 1, 1) := by decide +kernel
theorem dX6_isMark_31 : decode cX6_isMark 31 = .ok (.goto 4, 3) := by decide +kernel
theorem dX6_isMark_34 : decode cX6_isMark 34 = .ok (.iconst 0, 1) := by decide +kernel
theorem dX6_isMark_35 : decode cX6_isMark 35 = .ok (.ireturn, 1) := by decide +kernel
theorem dX6_puts_0 : decode cX6_puts 0 = .ok (.aload_n 0, 1) := by decide +kernel
theorem dX6_puts_1 : decode cX6_puts 1 = .ok (.getfield 7, 3) := by decide +kernel
theorem dX6_puts_4 : decode cX6_puts 4 = .ok (.iload_n 1, 1) := by decide +kernel
theorem dX6_puts_5 : decode cX6_puts 5 = .ok (.bipush 40, 2) := by decide +kernel
theorem dX6_puts_7 : decode cX6_puts 7 = .ok (.imul, 1) := by decide +kernel
theorem dX6_puts_8 : decode cX6_puts 8 = .ok (.iload_n 2, 1) := by decide +kernel
theorem dX6_puts_9 : decode cX6_puts 9 = .ok (.iadd, 1) := by decide +kernel
theorem dX6_puts_10 : decode cX6_puts 10 = .ok (.bipush 20, 2) := by decide +kernel
theorem dX6_puts_12 : decode cX6_puts 12 = .ok (.imul, 1) := by decide +kernel
theorem dX6_puts_13 : decode cX6_puts 13 = .ok (.iload_n 3, 1) := by decide +kernel
theorem dX6_puts_14 : decode cX6_puts 14 = .ok (.iadd, 1) := by decide +kernel
theorem dX6_puts_15 : decode cX6_puts 15 = .ok (.iload 4, 2) := by decide +kernel
theorem dX6_puts_17 : decode cX6_puts 17 = .ok (.i2b, 1) := by decide +kernel
theorem dX6_puts_18 : decode cX6_puts 18 = .ok (.bastore, 1) := by decide +kernel
theorem dX6_puts_19 : decode cX6_puts 19 = .ok (.aload_n 0, 1) := by decide +kernel
theorem dX6_puts_20 : decode cX6_puts 20 = .ok (.getfield 17, 3) := by decide +kernel
theorem dX6_puts_23 : decode cX6_puts 23 = .ok (.iload_n 1, 1) := by decide +kernel
theorem dX6_puts_24 : decode cX6_puts 24 = .ok (.iconst 0, 1) := by decide +kernel
theorem dX6_puts_25 : decode cX6_puts 25 = .ok (.bastore, 1) := by decide +kernel
theorem dX6_puts_26 : decode cX6_puts 26 = .ok (.return_, 1) := by decide +kernel
set_option maxRecDepth 20000 in
theorem ggX6_mark_X6_isMark : GoodIn wsX6_mark wsX6_isMark := goodIn_r _ [4, 5, 6, 3, 7] (by decide +kernel) (by decide +kernel)
set_option maxRecDepth 20000 in
theorem gX6_mark_X6_isMark : GoodIn wsX6_mark (va_wsS RX6 106 yX6_isMark wsX6_isMark) := goodIn_app (goodIn_of _ (by decide +kernel)) ggX6_mark_X6_isMark
set_option maxRecDepth 20000 in
theorem ggX6_mark_X6_isIn : GoodIn wsX6_mark wsX6_isIn := goodIn_r _ [7] (by decide +kernel) (by decide +kernel)
set_option maxRecDepth 20000 in
theorem gX6_mark_X6_isIn : GoodIn wsX6_mark (va_wsS RX6 102 yX6_isIn wsX6_isIn) := goodIn_app (goodIn_of _ (by decide +kernel)) ggX6_mark_X6_isIn
set_option maxRecDepth 20000 in
theorem ggX6_mark_X6_puts : GoodIn wsX6_mark wsX6_puts := goodIn_r _ [11, 12, 13, 14, 15, 16, 17, 18, 19, 20, 21, 22, 23, 24, 25, 26, 27, 28, 29, 30, 31, 32, 33, 34, 35, 36, 37, 38, 39, 40, 41, 42, 43, 44, 45, 46, 47, 48, 49, 50, 51, 52, 53, 54, 55] (by decide +kernel) (by decide +kernel)
set_option maxRecDepth 20000 in
theorem gX6_mark_X6_puts : GoodIn wsX6_mark (wsV RX6 109 RX6 yX6_puts wsX6_puts) := goodIn_app (goodIn_of _ (by decide +kernel)) ggX6_mark_X6_puts
theorem dX6_mark_0 : decode cX6_mark 0 = .ok (.iload_n 1, 1) := by decide +kernel
theorem dX6_mark_1 : decode cX6_mark 1 = .ok (.iload_n 2, 1) := by decide +kernel
theorem dX6_mark_2 : decode cX6_mark 2 = .ok (.iload_n 3, 1) := by decide +kernel
theorem dX6_mark_3 : decode cX6_mark 3 = .ok (.invokestatic 106, 3) := by decide +kernel
theorem dX6_mark_6 : decode cX6_mark 6 = .ok (.ifCond .eq 14, 3) := by decide +kernel
theorem dX6_mark_9 : decode cX6_mark 9 = .ok (.iload 4, 2) := by decide +kernel
theorem dX6_mark_11 : decode cX6_mark 11 = .ok (.iconst 0, 1) := by decide +kernel
theorem dX6_mark_12 : decode cX6_mark 12 = .ok (.bipush 7, 2) := by decide +kernel
theorem dX6_mark_14 : decode cX6_mark 14 = .ok (.invokestatic 102, 3) := by decide +kernel
theorem dX6_mark_17 : decode cX6_mark 17 = .ok (.ifCond .ne 5, 3) := by decide +kernel
theorem dX6_mark_20 : decode cX6_mark 20 = .ok (.iconst 0, 1) := by decide +kernel
theorem dX6_mark_21 : decode cX6_mark 21 = .ok (.ireturn, 1) := by decide +kernel
theorem dX6_mark_22 : decode cX6_mark 22 = .ok (.aload_n 0, 1) := by decide +kernel
theorem dX6_mark_23 : decode cX6_mark 23 = .ok (.iload_n 1, 1) := by decide +kernel
theorem dX6_mark_24 : decode cX6_mark 24 = .ok (.iload_n 2, 1) := by decide +kernel
theorem dX6_mark_25 : decode cX6_mark 25 = .ok (.iload_n 3, 1) := by decide +kernel
theorem dX6_mark_26 : decode cX6_mark 26 = .ok (.iload 4, 2) := by decide +kernel
theorem dX6_mark_28 : decode cX6_mark 28 = .ok (.invokevirtual 109, 3) := by decide +kernel
theorem dX6_mark_31 : decode cX6_mark 31 = .ok (.iconst 1, 1) := by decide +kernel
theorem dX6_mark_32 : decode cX6_mark 32 = .ok (.ireturn, 1) := by decide +kernel
set_option maxRecDepth 20000 in
theorem ggX6_line_X6_isMark : GoodIn wsX6_line wsX6_isMark := goodIn_r _ [11, 12, 13, 10, 14] (by decide +kernel) (by decide +kernel)
set_option maxRecDepth 20000 in
theorem gX6_line_X6_isMark : GoodIn wsX6_line (va_wsS RX6 106 yX6_isMark wsX6_isMark) := goodIn_app (goodIn_of _ (by decide +kernel)) ggX6_line_X6_isMark
set_option maxRecDepth 20000 in
theorem ggX6_line_X6_isIn : GoodIn wsX6_line wsX6_isIn := goodIn_r _ [14] (by decide +kernel) (by decide +kernel)
set_option maxRecDepth 20000 in
theorem gX6_line_X6_isIn : GoodIn wsX6_line (va_wsS RX6 102 yX6_isIn wsX6_isIn) := goodIn_app (goodIn_of _ (by decide +kernel)) ggX6_line_X6_isIn
set_option maxRecDepth 20000 in
theorem ggX6_line_J9_floorDiv_7cf53 : GoodIn wsX6_line wsJ9_floorDiv_7cf53 := goodIn_r _ [18] (by decide +kernel) (by decide +kernel)
set_option maxRecDepth 20000 in
theorem gX6_line_J9_floorDiv_7cf53 : GoodIn wsX6_line (va_wsS RX6 123 yJ9_floorDiv_7cf53 wsJ9_floorDiv_7cf53) := goodIn_app (goodIn_of _ (by decide +kernel)) ggX6_line_J9_floorDiv_7cf53
set_option maxRecDepth 20000 in
theorem ggX6_line_X6_puts : GoodIn wsX6_line wsX6_puts := goodIn_r _ [22, 23, 24, 25, 26, 27, 28, 29, 30, 31, 32, 33, 34, 35, 36, 37, 38, 39, 40, 41, 42, 43, 44, 45, 46, 47, 48, 49, 50, 51, 52, 53, 54, 55, 56, 57, 58, 59, 60, 61, 62, 63, 64, 65, 66] (by decide +kernel) (by decide +kernel)
set_option maxRecDepth 20000 in
theorem gX6_line_X6_puts : GoodIn wsX6_line (wsV RX6 109 RX6 yX6_puts wsX6_puts) := goodIn_app (goodIn_of _ (by decide +kernel)) ggX6_line_X6_puts
theorem dX6_line_0 : decode cX6_line 0 = .ok (.iload_n 1, 1) := by decide +kernel
theorem dX6_line_1 : decode cX6_line 1 = .ok (.iload_n 2, 1) := by decide +kernel
theorem dX6_line_2 : decode cX6_line 2 = .ok (.iload_n 3, 1) := by decide +kernel
theorem dX6_line_3 : decode cX6_line 3 = .ok (.invokestatic 106, 3) := by decide +kernel
theorem dX6_line_6 : decode cX6_line 6 = .ok (.ifCond .eq 25, 3) := by decide +kernel
theorem dX6_line_9 : decode cX6_line 9 = .ok (.iload_n 1, 1) := by decide +kernel
theorem dX6_line_10 : decode cX6_line 10 = .ok (.iload 4, 2) := by decide +kernel
theorem dX6_line_12 : decode cX6_line 12 = .ok (.iload 5, 2) := by decide +kernel
theorem dX6_line_14 : decode cX6_line 14 = .ok (.invokestatic 106, 3) := by decide +kernel
theorem dX6_line_17 : decode cX6_line 17 = .ok (.ifCond .eq 14, 3) := by decide +kernel
theorem dX6_line_20 : decode cX6_line 20 = .ok (.iload 6, 2) := by decide +kernel
theorem dX6_line_22 : decode cX6_line 22 = .ok (.iconst 0, 1) := by decide +kernel
theorem dX6_line_23 : decode cX6_line 23 = .ok (.bipush 7, 2) := by decide +kernel
theorem dX6_line_25 : decode cX6_line 25 = .ok (.invokestatic 102, 3) := by decide +kernel
theorem dX6_line_28 : decode cX6_line 28 = .ok (.ifCond .ne 5, 3) := by decide +kernel
theorem dX6_line_31 : decode cX6_line 31 = .ok (.iconst (-1), 1) := by decide +kernel
theorem dX6_line_32 : decode cX6_line 32 = .ok (.ireturn, 1) := by decide +kernel
theorem dX6_line_33 : decode cX6_line 33 = .ok (.iload 4, 2) := by decide +kernel
theorem dX6_line_35 : decode cX6_line 35 = .ok (.iload_n 2, 1) := by decide +kernel
theorem dX6_line_36 : decode cX6_line 36 = .ok (.isub, 1) := by decide +kernel
theorem dX6_line_37 : decode cX6_line 37 = .ok (.invokestatic 113, 3) := by decide +kernel
theorem dX6_line_40 : decode cX6_line 40 = .ok (.iload 5, 2) := by decide +kernel
theorem dX6_line_42 : decode cX6_line 42 = .ok (.iload_n 3, 1) := by decide +kernel
theorem dX6_line_43 : decode cX6_line 43 = .ok (.isub, 1) := by decide +kernel
theorem dX6_line_44 : decode cX6_line 44 = .ok (.invokestatic 113, 3) := by decide +kernel
theorem dX6_line_47 : decode cX6_line 47 = .ok (.invokestatic 119, 3) := by decide +kernel
theorem dX6_line_50 : decode cX6_line 50 = .ok (.istore 7, 2) := by decide +kernel
theorem dX6_line_52 : decode cX6_line 52 = .ok (.iconst 0, 1) := by decide +kernel
theorem dX6_line_53 : decode cX6_line 53 = .ok (.istore 8, 2) := by decide +kernel
theorem dX6_line_55 : decode cX6_line 55 = .ok (.iload 8, 2) := by decide +kernel
theorem dX6_line_57 : decode cX6_line 57 = .ok (.iload 7, 2) := by decide +kernel
theorem dX6_line_59 : decode cX6_line 59 = .ok (.if_icmp .gt 62, 3) := by decide +kernel
theorem dX6_line_62 : decode cX6_line 62 = .ok (.aload_n 0, 1) := by decide +kernel
theorem dX6_line_63 : decode cX6_line 63 = .ok (.iload_n 1, 1) := by decide +kernel
theorem dX6_line_64 : decode cX6_line 64 = .ok (.iload_n 2, 1) := by decide +kernel
theorem dX6_line_65 : decode cX6_line 65 = .ok (.iload 7, 2) := by decide +kernel
theorem dX6_line_67 : decode cX6_line 67 = .ok (.ifCond .ne 7, 3) := by decide +kernel
theorem dX6_line_70 : decode cX6_line 70 = .ok (.iconst 0, 1) := by decide +kernel
theorem dX6_line_71 : decode cX6_line 71 = .ok (.goto 15, 3) := by decide +kernel
theorem dX6_line_74 : decode cX6_line 74 = .ok (.iload 8, 2) := by decide +kernel
theorem dX6_line_76 : decode cX6_line 76 = .ok (.iload 4, 2) := by decide +kernel
theorem dX6_line_78 : decode cX6_line 78 = .ok (.iload_n 2, 1) := by decide +kernel
theorem dX6_line_79 : decode cX6_line 79 = .ok (.isub, 1) := by decide +kernel
theorem dX6_line_80 : decode cX6_line 80 = .ok (.imul, 1) := by decide +kernel
theorem dX6_line_81 : decode cX6_line 81 = .ok (.iload 7, 2) := by decide +kernel
theorem dX6_line_83 : decode cX6_line 83 = .ok (.invokestatic 123, 3) := by decide +kernel
theorem dX6_line_86 : decode cX6_line 86 = .ok (.iadd, 1) := by decide +kernel
theorem dX6_line_87 : decode cX6_line 87 = .ok (.iload_n 3, 1) := by decide +kernel
theorem dX6_line_88 : decode cX6_line 88 = .ok (.iload 7, 2) := by decide +kernel
theorem dX6_line_90 : decode cX6_line 90 = .ok (.ifCond .ne 7, 3) := by decide +kernel
theorem dX6_line_93 : decode cX6_line 93 = .ok (.iconst 0, 1) := by decide +kernel
theorem dX6_line_94 : decode cX6_line 94 = .ok (.goto 15, 3) := by decide +kernel
theorem dX6_line_97 : decode cX6_line 97 = .ok (.iload 8, 2) := by decide +kernel
theorem dX6_line_99 : decode cX6_line 99 = .ok (.iload 5, 2) := by decide +kernel
theorem dX6_line_101 : decode cX6_line 101 = .ok (.iload_n 3, 1) := by decide +kernel
theorem dX6_line_102 : decode cX6_line 102 = .ok (.isub, 1) := by decide +kernel
theorem dX6_line_103 : decode cX6_line 103 = .ok (.imul, 1) := by decide +kernel
theorem dX6_line_104 : decode cX6_line 104 = .ok (.iload 7, 2) := by decide +kernel
theorem dX6_line_106 : decode cX6_line 106 = .ok (.invokestatic 123, 3) := by decide +kernel
theorem dX6_line_109 : decode cX6_line 109 = .ok (.iadd, 1) := by decide +kernel
theorem dX6_line_110 : decode cX6_line 110 = .ok (.iload 6, 2) := by decide +kernel
theorem dX6_line_112 : decode cX6_line 112 = .ok (.invokevirtual 109, 3) := by decide +kernel
theorem dX6_line_115 : decode cX6_line 115 = .ok (.iinc 8 1, 3) := by decide +kernel
theorem dX6_line_118 : decode cX6_line 118 = .ok (.goto (-63), 3) := by decide +kernel
theorem dX6_line_121 : decode cX6_line 121 = .ok (.iload 7, 2) := by decide +kernel
theorem dX6_line_123 : decode cX6_line 123 = .ok (.iconst 1, 1) := by decide +kernel
theorem dX6_line_124 : decode cX6_line 124 = .ok (.iadd, 1) := by decide +kernel
theorem dX6_line_125 : decode cX6_line 125 = .ok (.ireturn, 1) := by decide +kernel
set_option maxRecDepth 20000 in
theorem ggX6_column_J9_floorMod_7cf53 : GoodIn wsX6_column wsJ9_floorMod_7cf53 := goodIn_r _ [4] (by decide +kernel) (by decide +kernel)
set_option maxRecDepth 20000 in
theorem gX6_column_J9_floorMod_7cf53 : GoodIn wsX6_column (va_wsS RX6 126 yJ9_floorMod_7cf53 wsJ9_floorMod_7cf53) := goodIn_app (goodIn_of _ (by decide +kernel)) ggX6_column_J9_floorMod_7cf53
theorem dX6_column_0 : decode cX6_column 0 = .ok (.iload_n 1, 1) := by decide +kernel
theorem dX6_column_1 : decode cX6_column 1 = .ok (.bipush 20, 2) := by decide +kernel
theorem dX6_column_3 : decode cX6_column 3 = .ok (.isub, 1) := by decide +kernel
theorem dX6_column_4 : decode cX6_column 4 = .ok (.istore_n 2, 1) := by decide +kernel
theorem dX6_column_5 : decode cX6_column 5 = .ok (.bipush 30, 2) := by decide +kernel
theorem dX6_column_7 : decode cX6_column 7 = .ok (.iload_n 0, 1) := by decide +kernel
theorem dX6_column_8 : decode cX6_column 8 = .ok (.imul, 1) := by decide +kernel
theorem dX6_column_9 : decode cX6_column 9 = .ok (.iload_n 2, 1) := by decide +kernel
theorem dX6_column_10 : decode cX6_column 10 = .ok (.iadd, 1) := by decide +kernel
theorem dX6_column_11 : decode cX6_column 11 = .ok (.iload_n 2, 1) := by decide +kernel
theorem dX6_column_12 : decode cX6_column 12 = .ok (.iload_n 2, 1) := by decide +kernel
theorem dX6_column_13 : decode cX6_column 13 = .ok (.imul, 1) := by decide +kernel
theorem dX6_column_14 : decode cX6_column 14 = .ok (.iload_n 2, 1) := by decide +kernel
theorem dX6_column_15 : decode cX6_column 15 = .ok (.imul, 1) := by decide +kernel
theorem dX6_column_16 : decode cX6_column 16 = .ok (.sipush 6000, 3) := by decide +kernel
theorem dX6_column_19 : decode cX6_column 19 = .ok (.idiv, 1) := by decide +kernel
theorem dX6_column_20 : decode cX6_column 20 = .ok (.isub, 1) := by decide +kernel
theorem dX6_column_21 : decode cX6_column 21 = .ok (.sipush 360, 3) := by decide +kernel
theorem dX6_column_24 : decode cX6_column 24 = .ok (.invokestatic 126, 3) := by decide +kernel
theorem dX6_column_27 : decode cX6_column 27 = .ok (.ireturn, 1) := by decide +kernel
theorem dX6_row_0 : decode cX6_row 0 = .ok (.iload_n 1, 1) := by decide +kernel
theorem dX6_row_1 : decode cX6_row 1 = .ok (.sipush 1000, 3) := by decide +kernel
theorem dX6_row_4 : decode cX6_row 4 = .ok (.imul, 1) := by decide +kernel
theorem dX6_row_5 : decode cX6_row 5 = .ok (.sipush 1000, 3) := by decide +kernel
theorem dX6_row_8 : decode cX6_row 8 = .ok (.iload_n 0, 1) := by decide +kernel
theorem dX6_row_9 : decode cX6_row 9 = .ok (.bipush 20, 2) := by decide +kernel
theorem dX6_row_11 : decode cX6_row 11 = .ok (.isub, 1) := by decide +kernel
theorem dX6_row_12 : decode cX6_row 12 = .ok (.iload_n 0, 1) := by decide +kernel
theorem dX6_row_13 : decode cX6_row 13 = .ok (.bipush 20, 2) := by decide +kernel
theorem dX6_row_15 : decode cX6_row 15 = .ok (.isub, 1) := by decide +kernel
theorem dX6_row_16 : decode cX6_row 16 = .ok (.imul, 1) := by decide +kernel
theorem dX6_row_17 : decode cX6_row 17 = .ok (.iadd, 1) := by decide +kernel
theorem dX6_row_18 : decode cX6_row 18 = .ok (.idiv, 1) := by decide +kernel
theorem dX6_row_19 : decode cX6_row 19 = .ok (.ireturn, 1) := by decide +kernel
set_option maxRecDepth 20000 in
theorem ggX6_stands_X6_isMark : GoodIn wsX6_stands wsX6_isMark := goodIn_r _ [4, 5, 6, 3, 7] (by decide +kernel) (by decide +kernel)
set_option maxRecDepth 20000 in
theorem gX6_stands_X6_isMark : GoodIn wsX6_stands (va_wsS RX6 106 yX6_isMark wsX6_isMark) := goodIn_app (goodIn_of _ (by decide +kernel)) ggX6_stands_X6_isMark
set_option maxRecDepth 20000 in
theorem ggX6_stands_X6_column : GoodIn wsX6_stands wsX6_column := goodIn_r _ [10, 11, 12, 13, 14] (by decide +kernel) (by decide +kernel)
set_option maxRecDepth 20000 in
theorem gX6_stands_X6_column : GoodIn wsX6_stands (va_wsS RX6 129 yX6_column wsX6_column) := goodIn_app (goodIn_of _ (by decide +kernel)) ggX6_stands_X6_column
set_option maxRecDepth 20000 in
theorem ggX6_stands_X6_row : GoodIn wsX6_stands wsX6_row := goodIn_r _ [17] (by decide +kernel) (by decide +kernel)
set_option maxRecDepth 20000 in
theorem gX6_stands_X6_row : GoodIn wsX6_stands (va_wsS RX6 132 yX6_row wsX6_row) := goodIn_app (goodIn_of _ (by decide +kernel)) ggX6_stands_X6_row
theorem dX6_stands_0 : decode cX6_stands 0 = .ok (.iload_n 1, 1) := by decide +kernel
theorem dX6_stands_1 : decode cX6_stands 1 = .ok (.iload_n 2, 1) := by decide +kernel
theorem dX6_stands_2 : decode cX6_stands 2 = .ok (.iload_n 3, 1) := by decide +kernel
theorem dX6_stands_3 : decode cX6_stands 3 = .ok (.invokestatic 106, 3) := by decide +kernel
theorem dX6_stands_6 : decode cX6_stands 6 = .ok (.ifCond .ne 7, 3) := by decide +kernel
theorem dX6_stands_9 : decode cX6_stands 9 = .ok (.iconst (-1), 1) := by decide +kernel
theorem dX6_stands_10 : decode cX6_stands 10 = .ok (.goto 31, 3) := by decide +kernel
theorem dX6_stands_13 : decode cX6_stands 13 = .ok (.iload 4, 2) := by decide +kernel
theorem dX6_stands_15 : decode cX6_stands 15 = .ok (.ifCond .ne 11, 3) := by decide +kernel
theorem dX6_stands_18 : decode cX6_stands 18 = .ok (.iload_n 1, 1) := by decide +kernel
theorem dX6_stands_19 : decode cX6_stands 19 = .ok (.iload_n 2, 1) := by decide +kernel
theorem dX6_stands_20 : decode cX6_stands 20 = .ok (.invokestatic 129, 3) := by decide +kernel
theorem dX6_stands_23 : decode cX6_stands 23 = .ok (.goto 18, 3) := by decide +kernel
theorem dX6_stands_26 : decode cX6_stands 26 = .ok (.iload 4, 2) := by decide +kernel
theorem dX6_stands_28 : decode cX6_stands 28 = .ok (.iconst 1, 1) := by decide +kernel
theorem dX6_stands_29 : decode cX6_stands 29 = .ok (.if_icmp .ne 11, 3) := by decide +kernel
theorem dX6_stands_32 : decode cX6_stands 32 = .ok (.iload_n 2, 1) := by decide +kernel
theorem dX6_stands_33 : decode cX6_stands 33 = .ok (.iload_n 3, 1) := by decide +kernel
theorem dX6_stands_34 : decode cX6_stands 34 = .ok (.invokestatic 132, 3) := by decide +kernel
theorem dX6_stands_37 : decode cX6_stands 37 = .ok (.goto 4, 3) := by decide +kernel
theorem dX6_stands_40 : decode cX6_stands 40 = .ok (.iconst (-1), 1) := by decide +kernel
theorem dX6_stands_41 : decode cX6_stands 41 = .ok (.ireturn, 1) := by decide +kernel
set_option maxRecDepth 20000 in
theorem ggX6_colourIn_X6_column : GoodIn wsX6_colourIn wsX6_column := goodIn_r _ [7, 8, 9, 10, 11] (by decide +kernel) (by decide +kernel)
set_option maxRecDepth 20000 in
theorem gX6_colourIn_X6_column : GoodIn wsX6_colourIn (va_wsS RX6 129 yX6_column wsX6_column) := goodIn_app (goodIn_of _ (by decide +kernel)) ggX6_colourIn_X6_column
set_option maxRecDepth 20000 in
theorem ggX6_colourIn_X6_row : GoodIn wsX6_colourIn wsX6_row := goodIn_r _ [14] (by decide +kernel) (by decide +kernel)
set_option maxRecDepth 20000 in
theorem gX6_colourIn_X6_row : GoodIn wsX6_colourIn (va_wsS RX6 132 yX6_row wsX6_row) := goodIn_app (goodIn_of _ (by decide +kernel)) ggX6_colourIn_X6_row
theorem dX6_colourIn_0 : decode cX6_colourIn 0 = .ok (.aload_n 0, 1) := by decide +kernel
theorem dX6_colourIn_1 : decode cX6_colourIn 1 = .ok (.getfield 17, 3) := by decide +kernel
theorem dX6_colourIn_4 : decode cX6_colourIn 4 = .ok (.iload_n 1, 1) := by decide +kernel
theorem dX6_colourIn_5 : decode cX6_colourIn 5 = .ok (.baload, 1) := by decide +kernel
theorem dX6_colourIn_6 : decode cX6_colourIn 6 = .ok (.ifCond .ne 120, 3) := by decide +kernel
theorem dX6_colourIn_9 : decode cX6_colourIn 9 = .ok (.iconst 0, 1) := by decide +kernel
theorem dX6_colourIn_10 : decode cX6_colourIn 10 = .ok (.istore_n 3, 1) := by decide +kernel
theorem dX6_colourIn_11 : decode cX6_colourIn 11 = .ok (.iload_n 3, 1) := by decide +kernel
theorem dX6_colourIn_12 : decode cX6_colourIn 12 = .ok (.sipush 7200, 3) := by decide +kernel
theorem dX6_colourIn_15 : decode cX6_colourIn 15 = .ok (.if_icmp .ge 22, 3) := by decide +kernel
theorem dX6_colourIn_18 : decode cX6_colourIn 18 = .ok (.aload_n 0, 1) := by decide +kernel
theorem dX6_colourIn_19 : decode cX6_colourIn 19 = .ok (.getfield 14, 3) := by decide +kernel
theorem dX6_colourIn_22 : decode cX6_colourIn 22 = .ok (.sipush 7200, 3) := by decide +kernel
theorem dX6_colourIn_25 : decode cX6_colourIn 25 = .ok (.iload_n 1, 1) := by decide +kernel
theorem dX6_colourIn_26 : decode cX6_colourIn 26 = .ok (.imul, 1) := by decide +kernel
theorem dX6_colourIn_27 : decode cX6_colourIn 27 = .ok (.iload_n 3, 1) := by decide +kernel
theorem dX6_colourIn_28 : decode cX6_colourIn 28 = .ok (.iadd, 1) := by decide +kernel
theorem dX6_colourIn_29 : decode cX6_colourIn 29 = .ok (.iconst 0, 1) := by decide +kernel
theorem dX6_colourIn_30 : decode cX6_colourIn 30 = .ok (.bastore, 1) := by decide +kernel
theorem dX6_colourIn_31 : decode cX6_colourIn 31 = .ok (.iinc 3 1, 3) := by decide +kernel
theorem dX6_colourIn_34 : decode cX6_colourIn 34 = .ok (.goto (-23), 3) := by decide +kernel
theorem dX6_colourIn_37 : decode cX6_colourIn 37 = .ok (.iconst 0, 1) := by decide +kernel
theorem dX6_colourIn_38 : decode cX6_colourIn 38 = .ok (.istore_n 3, 1) := by decide +kernel
theorem dX6_colourIn_39 : decode cX6_colourIn 39 = .ok (.iload_n 3, 1) := by decide +kernel
theorem dX6_colourIn_40 : decode cX6_colourIn 40 = .ok (.bipush 40, 2) := by decide +kernel
theorem dX6_colourIn_42 : decode cX6_colourIn 42 = .ok (.if_icmp .ge 77, 3) := by decide +kernel
theorem dX6_colourIn_45 : decode cX6_colourIn 45 = .ok (.iconst 0, 1) := by decide +kernel
theorem dX6_colourIn_46 : decode cX6_colourIn 46 = .ok (.istore 4, 2) := by decide +kernel
theorem dX6_colourIn_48 : decode cX6_colourIn 48 = .ok (.iload 4, 2) := by decide +kernel
theorem dX6_colourIn_50 : decode cX6_colourIn 50 = .ok (.bipush 20, 2) := by decide +kernel
theorem dX6_colourIn_52 : decode cX6_colourIn 52 = .ok (.if_icmp .ge 61, 3) := by decide +kernel
theorem dX6_colourIn_55 : decode cX6_colourIn 55 = .ok (.aload_n 0, 1) := by decide +kernel
theorem dX6_colourIn_56 : decode cX6_colourIn 56 = .ok (.getfield 7, 3) := by decide +kernel
theorem dX6_colourIn_59 : decode cX6_colourIn 59 = .ok (.iload_n 1, 1) := by decide +kernel
theorem dX6_colourIn_60 : decode cX6_colourIn 60 = .ok (.bipush 40, 2) := by decide +kernel
theorem dX6_colourIn_62 : decode cX6_colourIn 62 = .ok (.imul, 1) := by decide +kernel
theorem dX6_colourIn_63 : decode cX6_colourIn 63 = .ok (.iload_n 3, 1) := by decide +kernel
theorem dX6_colourIn_64 : decode cX6_colourIn 64 = .ok (.iadd, 1) := by decide +kernel
theorem dX6_colourIn_65 : decode cX6_colourIn 65 = .ok (.bipush 20, 2) := by decide +kernel
theorem dX6_colourIn_67 : decode cX6_colourIn 67 = .ok (.imul, 1) := by decide +kernel
theorem dX6_colourIn_68 : decode cX6_colourIn 68 = .ok (.iload 4, 2) := by decide +kernel
theorem dX6_colourIn_70 : decode cX6_colourIn 70 = .ok (.iadd, 1) := by decide +kernel
theorem dX6_colourIn_71 : decode cX6_colourIn 71 = .ok (.baload, 1) := by decide +kernel
theorem dX6_colourIn_72 : decode cX6_colourIn 72 = .ok (.istore 5, 2) := by decide +kernel
theorem dX6_colourIn_74 : decode cX6_colourIn 74 = .ok (.iload 5, 2) := by decide +kernel
theorem dX6_colourIn_76 : decode cX6_colourIn 76 = .ok (.ifCond .eq 31, 3) := by decide +kernel
theorem dX6_colourIn_79 : decode cX6_colourIn 79 = .ok (.aload_n 0, 1) := by decide +kernel
theorem dX6_colourIn_80 : decode cX6_colourIn 80 = .ok (.getfield 14, 3) := by decide +kernel
theorem dX6_colourIn_83 : decode cX6_colourIn 83 = .ok (.sipush 7200, 3) := by decide +kernel
theorem dX6_colourIn_86 : decode cX6_colourIn 86 = .ok (.iload_n 1, 1) := by decide +kernel
theorem dX6_colourIn_87 : decode cX6_colourIn 87 = .ok (.imul, 1) := by decide +kernel
theorem dX6_colourIn_88 : decode cX6_colourIn 88 = .ok (.bipush 20, 2) := by decide +kernel
theorem dX6_colourIn_90 : decode cX6_colourIn 90 = .ok (.iload_n 1, 1) := by decide +kernel
theorem dX6_colourIn_91 : decode cX6_colourIn 91 = .ok (.iload_n 3, 1) := by decide +kernel
theorem dX6_colourIn_92 : decode cX6_colourIn 92 = .ok (.invokestatic 129, 3) := by decide +kernel
theorem dX6_colourIn_95 : decode cX6_colourIn 95 = .ok (.imul, 1) := by decide +kernel
theorem dX6_colourIn_96 : decode cX6_colourIn 96 = .ok (.iadd, 1) := by decide +kernel
theorem dX6_colourIn_97 : decode cX6_colourIn 97 = .ok (.iload_n 3, 1) := by decide +kernel
theorem dX6_colourIn_98 : decode cX6_colourIn 98 = .ok (.iload 4, 2) := by decide +kernel
theorem dX6_colourIn_100 : decode cX6_colourIn 100 = .ok (.invokestatic 132, 3) := by decide +kernel
theorem dX6_colourIn_103 : decode cX6_colourIn 103 = .ok (.iadd, 1) := by decide +kernel
theorem dX6_colourIn_104 : decode cX6_colourIn 104 = .ok (.iload 5, 2) := by decide +kernel
theorem dX6_colourIn_106 : decode cX6_colourIn 106 = .ok (.bastore, 1) := by decide +kernel
theorem dX6_colourIn_107 : decode cX6_colourIn 107 = .ok (.iinc 4 1, 3) := by decide +kernel
theorem dX6_colourIn_110 : decode cX6_colourIn 110 = .ok (.goto (-62), 3) := by decide +kernel
theorem dX6_colourIn_113 : decode cX6_colourIn 113 = .ok (.iinc 3 1, 3) := by decide +kernel
theorem dX6_colourIn_116 : decode cX6_colourIn 116 = .ok (.goto (-77), 3) := by decide +kernel
theorem dX6_colourIn_119 : decode cX6_colourIn 119 = .ok (.aload_n 0, 1) := by decide +kernel
theorem dX6_colourIn_120 : decode cX6_colourIn 120 = .ok (.getfield 17, 3) := by decide +kernel
theorem dX6_colourIn_123 : decode cX6_colourIn 123 = .ok (.iload_n 1, 1) := by decide +kernel
theorem dX6_colourIn_124 : decode cX6_colourIn 124 = .ok (.iconst 1, 1) := by decide +kernel
theorem dX6_colourIn_125 : decode cX6_colourIn 125 = .ok (.bastore, 1) := by decide +kernel
theorem dX6_colourIn_126 : decode cX6_colourIn 126 = .ok (.aload_n 0, 1) := by decide +kernel
theorem dX6_colourIn_127 : decode cX6_colourIn 127 = .ok (.getfield 14, 3) := by decide +kernel
theorem dX6_colourIn_130 : decode cX6_colourIn 130 = .ok (.sipush 7200, 3) := by decide +kernel
theorem dX6_colourIn_133 : decode cX6_colourIn 133 = .ok (.iload_n 1, 1) := by decide +kernel
theorem dX6_colourIn_134 : decode cX6_colourIn 134 = .ok (.imul, 1) := by decide +kernel
theorem dX6_colourIn_135 : decode cX6_colourIn 135 = .ok (.iload_n 2, 1) := by decide +kernel
theorem dX6_colourIn_136 : decode cX6_colourIn 136 = .ok (.iadd, 1) := by decide +kernel
theorem dX6_colourIn_137 : decode cX6_colourIn 137 = .ok (.baload, 1) := by decide +kernel
theorem dX6_colourIn_138 : decode cX6_colourIn 138 = .ok (.ireturn, 1) := by decide +kernel
set_option maxRecDepth 20000 in
theorem ggX6_viewAt_X6_colourIn : GoodIn wsX6_viewAt wsX6_colourIn := goodIn_r _ [12, 13, 14, 15, 16, 17, 11, 18, 19, 20, 21, 22, 23, 24, 25, 26, 27, 28, 29, 30, 31, 32, 33, 34, 35, 36, 37, 38, 39, 40, 41, 42, 43, 44, 45, 46, 47, 48, 49, 50, 51, 52, 53, 54, 55, 56, 57, 58, 59, 60, 61, 62, 63, 64, 65, 66, 67] (by decide +kernel) (by decide +kernel)
set_option maxRecDepth 20000 in
theorem gX6_viewAt_X6_colourIn : GoodIn wsX6_viewAt (wsV RX6 135 RX6 yX6_colourIn wsX6_colourIn) := goodIn_app (goodIn_of _ (by decide +kernel)) ggX6_viewAt_X6_colourIn
theorem dX6_viewAt_0 : decode cX6_viewAt 0 = .ok (.iconst (-1), 1) := by decide +kernel
theorem dX6_viewAt_1 : decode cX6_viewAt 1 = .ok (.istore_n 2, 1) := by decide +kernel
theorem dX6_viewAt_2 : decode cX6_viewAt 2 = .ok (.iconst 0, 1) := by decide +kernel
theorem dX6_viewAt_3 : decode cX6_viewAt 3 = .ok (.istore_n 3, 1) := by decide +kernel
theorem dX6_viewAt_4 : decode cX6_viewAt 4 = .ok (.iconst 0, 1) := by decide +kernel
theorem dX6_viewAt_5 : decode cX6_viewAt 5 = .ok (.istore 4, 2) := by decide +kernel
theorem dX6_viewAt_7 : decode cX6_viewAt 7 = .ok (.iload 4, 2) := by decide +kernel
theorem dX6_viewAt_9 : decode cX6_viewAt 9 = .ok (.bipush 12, 2) := by decide +kernel
theorem dX6_viewAt_11 : decode cX6_viewAt 11 = .ok (.if_icmp .ge 70, 3) := by decide +kernel
theorem dX6_viewAt_14 : decode cX6_viewAt 14 = .ok (.aload_n 0, 1) := by decide +kernel
theorem dX6_viewAt_15 : decode cX6_viewAt 15 = .ok (.iload 4, 2) := by decide +kernel
theorem dX6_viewAt_17 : decode cX6_viewAt 17 = .ok (.iload_n 1, 1) := by decide +kernel
theorem dX6_viewAt_18 : decode cX6_viewAt 18 = .ok (.invokevirtual 135, 3) := by decide +kernel
theorem dX6_viewAt_21 : decode cX6_viewAt 21 = .ok (.ifCond .ne 6, 3) := by decide +kernel
theorem dX6_viewAt_24 : decode cX6_viewAt 24 = .ok (.goto 51, 3) := by decide +kernel
theorem dX6_viewAt_27 : decode cX6_viewAt 27 = .ok (.bipush 30, 2) := by decide +kernel
theorem dX6_viewAt_29 : decode cX6_viewAt 29 = .ok (.iload 4, 2) := by decide +kernel
theorem dX6_viewAt_31 : decode cX6_viewAt 31 = .ok (.imul, 1) := by decide +kernel
theorem dX6_viewAt_32 : decode cX6_viewAt 32 = .ok (.iload_n 1, 1) := by decide +kernel
theorem dX6_viewAt_33 : decode cX6_viewAt 33 = .ok (.bipush 20, 2) := by decide +kernel
theorem dX6_viewAt_35 : decode cX6_viewAt 35 = .ok (.idiv, 1) := by decide +kernel
theorem dX6_viewAt_36 : decode cX6_viewAt 36 = .ok (.isub, 1) := by decide +kernel
theorem dX6_viewAt_37 : decode cX6_viewAt 37 = .ok (.invokestatic 113, 3) := by decide +kernel
theorem dX6_viewAt_40 : decode cX6_viewAt 40 = .ok (.istore 5, 2) := by decide +kernel
theorem dX6_viewAt_42 : decode cX6_viewAt 42 = .ok (.iload 5, 2) := by decide +kernel
theorem dX6_viewAt_44 : decode cX6_viewAt 44 = .ok (.sipush 360, 3) := by decide +kernel
theorem dX6_viewAt_47 : decode cX6_viewAt 47 = .ok (.iload 5, 2) := by decide +kernel
theorem dX6_viewAt_49 : decode cX6_viewAt 49 = .ok (.isub, 1) := by decide +kernel
theorem dX6_viewAt_50 : decode cX6_viewAt 50 = .ok (.invokestatic 138, 3) := by decide +kernel
theorem dX6_viewAt_53 : decode cX6_viewAt 53 = .ok (.istore 5, 2) := by decide +kernel
theorem dX6_viewAt_55 : decode cX6_viewAt 55 = .ok (.iload_n 2, 1) := by decide +kernel
theorem dX6_viewAt_56 : decode cX6_viewAt 56 = .ok (.iconst (-1), 1) := by decide +kernel
theorem dX6_viewAt_57 : decode cX6_viewAt 57 = .ok (.if_icmp .eq 12, 3) := by decide +kernel
theorem dX6_viewAt_60 : decode cX6_viewAt 60 = .ok (.iload 5, 2) := by decide +kernel
theorem dX6_viewAt_62 : decode cX6_viewAt 62 = .ok (.iload_n 3, 1) := by decide +kernel
theorem dX6_viewAt_63 : decode cX6_viewAt 63 = .ok (.if_icmp .lt 6, 3) := by decide +kernel
theorem dX6_viewAt_66 : decode cX6_viewAt 66 = .ok (.goto 9, 3) := by decide +kernel
theorem dX6_viewAt_69 : decode cX6_viewAt 69 = .ok (.iload 4, 2) := by decide +kernel
theorem dX6_viewAt_71 : decode cX6_viewAt 71 = .ok (.istore_n 2, 1) := by decide +kernel
theorem dX6_viewAt_72 : decode cX6_viewAt 72 = .ok (.iload 5, 2) := by decide +kernel
theorem dX6_viewAt_74 : decode cX6_viewAt 74 = .ok (.istore_n 3, 1) := by decide +kernel
theorem dX6_viewAt_75 : decode cX6_viewAt 75 = .ok (.iinc 4 1, 3) := by decide +kernel
theorem dX6_viewAt_78 : decode cX6_viewAt 78 = .ok (.goto (-71), 3) := by decide +kernel
theorem dX6_viewAt_81 : decode cX6_viewAt 81 = .ok (.iload_n 2, 1) := by decide +kernel
theorem dX6_viewAt_82 : decode cX6_viewAt 82 = .ok (.ireturn, 1) := by decide +kernel
set_option maxRecDepth 20000 in
theorem ggX6_isPlace_X6_isIn : GoodIn wsX6_isPlace wsX6_isIn := goodIn_r _ [4] (by decide +kernel) (by decide +kernel)
set_option maxRecDepth 20000 in
theorem gX6_isPlace_X6_isIn : GoodIn wsX6_isPlace (va_wsS RX6 102 yX6_isIn wsX6_isIn) := goodIn_app (goodIn_of _ (by decide +kernel)) ggX6_isPlace_X6_isIn
theorem dX6_isPlace_0 : decode cX6_isPlace 0 = .ok (.iload_n 0, 1) := by decide +kernel
theorem dX6_isPlace_1 : decode cX6_isPlace 1 = .ok (.iconst 0, 1) := by decide +kernel
theorem dX6_isPlace_2 : decode cX6_isPlace 2 = .ok (.sipush 359, 3) := by decide +kernel
theorem dX6_isPlace_5 : decode cX6_isPlace 5 = .ok (.invokestatic 102, 3) := by decide +kernel
theorem dX6_isPlace_8 : decode cX6_isPlace 8 = .ok (.ifCond .eq 17, 3) := by decide +kernel
theorem dX6_isPlace_11 : decode cX6_isPlace 11 = .ok (.iload_n 1, 1) := by decide +kernel
theorem dX6_isPlace_12 : decode cX6_isPlace 12 = .ok (.iconst 0, 1) := by decide +kernel
theorem dX6_isPlace_13 : decode cX6_isPlace 13 = .ok (.bipush 19, 2) := by decide +kernel
theorem dX6_isPlace_15 : decode cX6_isPlace 15 = .ok (.invokestatic 102, 3) := by decide +kernel
theorem dX6_isPlace_18 : decode cX6_isPlace 18 = .ok (.ifCond .eq 7, 3) := by decide +kernel
theorem dX6_isPlace_21 : decode cX6_isPlace 21 = .ok (.iconst 1, 1) := by decide +kernel
theorem dX6_isPlace_22 : decode cX6_isPlace 22 = .ok (.goto 4, 3) := by decide +kernel
theorem dX6_isPlace_25 : decode cX6_isPlace 25 = .ok (.iconst 0, 1) := by decide +kernel
theorem dX6_isPlace_26 : decode cX6_isPlace 26 = .ok (.ireturn, 1) := by decide +kernel
set_option maxRecDepth 20000 in
theorem ggX6_colour_X6_isPlace : GoodIn wsX6_colour wsX6_isPlace := goodIn_r _ [4, 5, 6, 3, 7] (by decide +kernel) (by decide +kernel)
set_option maxRecDepth 20000 in
theorem gX6_colour_X6_isPlace : GoodIn wsX6_colour (va_wsS RX6 141 yX6_isPlace wsX6_isPlace) := goodIn_app (goodIn_of _ (by decide +kernel)) ggX6_colour_X6_isPlace
set_option maxRecDepth 20000 in
theorem ggX6_colour_X6_viewAt : GoodIn wsX6_colour wsX6_viewAt := goodIn_r _ [11, 12, 13, 14, 15, 16, 17, 18, 19, 20, 21, 3, 22, 23, 24, 25, 26, 27, 28, 29, 30, 31, 32, 33, 34, 35, 36, 37, 38, 39, 40, 41, 42, 43, 44, 45, 46, 47, 48, 49, 50, 51, 52, 53, 54, 55, 56, 57, 58, 59, 60, 61, 62, 63, 64, 65, 66, 67, 68, 69, 70, 71, 72, 73, 74, 75, 76, 77] (by decide +kernel) (by decide +kernel)
set_option maxRecDepth 20000 in
theorem gX6_colour_X6_viewAt : GoodIn wsX6_colour (wsV RX6 145 RX6 yX6_viewAt wsX6_viewAt) := goodIn_app (goodIn_of _ (by decide +kernel)) ggX6_colour_X6_viewAt
set_option maxRecDepth 20000 in
theorem ggX6_colour_X6_colourIn : GoodIn wsX6_colour wsX6_colourIn := goodIn_r _ [22, 23, 24, 25, 26, 27, 3, 28, 29, 30, 31, 32, 33, 34, 35, 36, 37, 38, 39, 40, 41, 42, 43, 44, 45, 46, 47, 48, 49, 50, 51, 52, 53, 54, 55, 56, 57, 58, 59, 60, 61, 62, 63, 64, 65, 66, 67, 68, 69, 70, 71, 72, 73, 74, 75, 76, 77] (by decide +kernel) (by decide +kernel)
set_option maxRecDepth 20000 in
theorem gX6_colour_X6_colourIn : GoodIn wsX6_colour (wsV RX6 135 RX6 yX6_colourIn wsX6_colourIn) := goodIn_app (goodIn_of _ (by decide +kernel)) ggX6_colour_X6_colourIn
theorem dX6_colour_0 : decode cX6_colour 0 = .ok (.iload_n 1, 1) := by decide +kernel
theorem dX6_colour_1 : decode cX6_colour 1 = .ok (.iload_n 2, 1) := by decide +kernel
theorem dX6_colour_2 : decode cX6_colour 2 = .ok (.invokestatic 141, 3) := by decide +kernel
theorem dX6_colour_5 : decode cX6_colour 5 = .ok (.ifCond .ne 5, 3) := by decide +kernel
theorem dX6_colour_8 : decode cX6_colour 8 = .ok (.iconst (-1), 1) := by decide +kernel
theorem dX6_colour_9 : decode cX6_colour 9 = .ok (.ireturn, 1) := by decide +kernel
theorem dX6_colour_10 : decode cX6_colour 10 = .ok (.aload_n 0, 1) := by decide +kernel
theorem dX6_colour_11 : decode cX6_colour 11 = .ok (.bipush 20, 2) := by decide +kernel
theorem dX6_colour_13 : decode cX6_colour 13 = .ok (.iload_n 1, 1) := by decide +kernel
theorem dX6_colour_14 : decode cX6_colour 14 = .ok (.imul, 1) := by decide +kernel
theorem dX6_colour_15 : decode cX6_colour 15 = .ok (.iload_n 2, 1) := by decide +kernel
theorem dX6_colour_16 : decode cX6_colour 16 = .ok (.iadd, 1) := by decide +kernel
theorem dX6_colour_17 : decode cX6_colour 17 = .ok (.invokevirtual 145, 3) := by decide +kernel
theorem dX6_colour_20 : decode cX6_colour 20 = .ok (.istore_n 3, 1) := by decide +kernel
theorem dX6_colour_21 : decode cX6_colour 21 = .ok (.iload_n 3, 1) := by decide +kernel
theorem dX6_colour_22 : decode cX6_colour 22 = .ok (.iconst (-1), 1) := by decide +kernel
theorem dX6_colour_23 : decode cX6_colour 23 = .ok (.if_icmp .ne 7, 3) := by decide +kernel
theorem dX6_colour_26 : decode cX6_colour 26 = .ok (.iconst 0, 1) := by decide +kernel
theorem dX6_colour_27 : decode cX6_colour 27 = .ok (.goto 14, 3) := by decide +kernel
theorem dX6_colour_30 : decode cX6_colour 30 = .ok (.aload_n 0, 1) := by decide +kernel
theorem dX6_colour_31 : decode cX6_colour 31 = .ok (.iload_n 3, 1) := by decide +kernel
theorem dX6_colour_32 : decode cX6_colour 32 = .ok (.bipush 20, 2) := by decide +kernel
theorem dX6_colour_34 : decode cX6_colour 34 = .ok (.iload_n 1, 1) := by decide +kernel
theorem dX6_colour_35 : decode cX6_colour 35 = .ok (.imul, 1) := by decide +kernel
theorem dX6_colour_36 : decode cX6_colour 36 = .ok (.iload_n 2, 1) := by decide +kernel
theorem dX6_colour_37 : decode cX6_colour 37 = .ok (.iadd, 1) := by decide +kernel
theorem dX6_colour_38 : decode cX6_colour 38 = .ok (.invokevirtual 135, 3) := by decide +kernel
theorem dX6_colour_41 : decode cX6_colour 41 = .ok (.ireturn, 1) := by decide +kernel
set_option maxRecDepth 20000 in
theorem ggX6_from_X6_isPlace : GoodIn wsX6_from wsX6_isPlace := goodIn_r _ [4, 5, 6, 3, 7] (by decide +kernel) (by decide +kernel)
set_option maxRecDepth 20000 in
theorem gX6_from_X6_isPlace : GoodIn wsX6_from (va_wsS RX6 141 yX6_isPlace wsX6_isPlace) := goodIn_app (goodIn_of _ (by decide +kernel)) ggX6_from_X6_isPlace
set_option maxRecDepth 20000 in
theorem ggX6_from_X6_viewAt : GoodIn wsX6_from wsX6_viewAt := goodIn_r _ [11, 12, 13, 14, 15, 16, 17, 18, 19, 20, 21, 3, 22, 23, 24, 25, 26, 27, 28, 29, 30, 31, 32, 33, 34, 35, 36, 37, 38, 39, 40, 41, 42, 43, 44, 45, 46, 47, 48, 49, 50, 51, 52, 53, 54, 55, 56, 57, 58, 59, 60, 61, 62, 63, 64, 65, 66, 67, 68, 69, 70, 71, 72, 73, 74, 75, 76, 77] (by decide +kernel) (by decide +kernel)
set_option maxRecDepth 20000 in
theorem gX6_from_X6_viewAt : GoodIn wsX6_from (wsV RX6 145 RX6 yX6_viewAt wsX6_viewAt) := goodIn_app (goodIn_of _ (by decide +kernel)) ggX6_from_X6_viewAt
theorem dX6_from_0 : decode cX6_from 0 = .ok (.iload_n 1, 1) := by decide +kernel
theorem dX6_from_1 : decode cX6_from 1 = .ok (.iload_n 2, 1) := by decide +kernel
theorem dX6_from_2 : decode cX6_from 2 = .ok (.invokestatic 141, 3) := by decide +kernel
theorem dX6_from_5 : decode cX6_from 5 = .ok (.ifCond .eq 16, 3) := by decide +kernel
theorem dX6_from_8 : decode cX6_from 8 = .ok (.aload_n 0, 1) := by decide +kernel
theorem dX6_from_9 : decode cX6_from 9 = .ok (.bipush 20, 2) := by decide +kernel
theorem dX6_from_11 : decode cX6_from 11 = .ok (.iload_n 1, 1) := by decide +kernel
theorem dX6_from_12 : decode cX6_from 12 = .ok (.imul, 1) := by decide +kernel
theorem dX6_from_13 : decode cX6_from 13 = .ok (.iload_n 2, 1) := by decide +kernel
theorem dX6_from_14 : decode cX6_from 14 = .ok (.iadd, 1) := by decide +kernel
theorem dX6_from_15 : decode cX6_from 15 = .ok (.invokevirtual 145, 3) := by decide +kernel
theorem dX6_from_18 : decode cX6_from 18 = .ok (.goto 4, 3) := by decide +kernel
theorem dX6_from_21 : decode cX6_from 21 = .ok (.iconst (-1), 1) := by decide +kernel
theorem dX6_from_22 : decode cX6_from 22 = .ok (.ireturn, 1) := by decide +kernel
set_option maxRecDepth 20000 in
theorem ggX6_seam_X6_isIn : GoodIn wsX6_seam wsX6_isIn := goodIn_r _ [4] (by decide +kernel) (by decide +kernel)
set_option maxRecDepth 20000 in
theorem gX6_seam_X6_isIn : GoodIn wsX6_seam (va_wsS RX6 102 yX6_isIn wsX6_isIn) := goodIn_app (goodIn_of _ (by decide +kernel)) ggX6_seam_X6_isIn
set_option maxRecDepth 20000 in
theorem ggX6_seam_X6_colourIn : GoodIn wsX6_seam wsX6_colourIn := goodIn_r _ [8, 9, 10, 11, 12, 13, 3, 14, 15, 16, 17, 18, 19, 20, 21, 22, 23, 24, 25, 26, 27, 28, 29, 30, 31, 32, 33, 34, 35, 36, 37, 38, 39, 40, 41, 42, 43, 44, 45, 46, 47, 48, 49, 50, 51, 52, 53, 54, 55, 56, 57, 58, 59, 60, 61, 62, 63] (by decide +kernel) (by decide +kernel)
set_option maxRecDepth 20000 in
theorem gX6_seam_X6_colourIn : GoodIn wsX6_seam (wsV RX6 135 RX6 yX6_colourIn wsX6_colourIn) := goodIn_app (goodIn_of _ (by decide +kernel)) ggX6_seam_X6_colourIn
theorem dX6_seam_0 : decode cX6_seam 0 = .ok (.iload_n 1, 1) := by decide +kernel
theorem dX6_seam_1 : decode cX6_seam 1 = .ok (.iconst 0, 1) := by decide +kernel
theorem dX6_seam_2 : decode cX6_seam 2 = .ok (.bipush 11, 2) := by decide +kernel
theorem dX6_seam_4 : decode cX6_seam 4 = .ok (.invokestatic 102, 3) := by decide +kernel
theorem dX6_seam_7 : decode cX6_seam 7 = .ok (.ifCond .ne 5, 3) := by decide +kernel
theorem dX6_seam_10 : decode cX6_seam 10 = .ok (.iconst (-1), 1) := by decide +kernel
theorem dX6_seam_11 : decode cX6_seam 11 = .ok (.ireturn, 1) := by decide +kernel
theorem dX6_seam_12 : decode cX6_seam 12 = .ok (.iconst 0, 1) := by decide +kernel
theorem dX6_seam_13 : decode cX6_seam 13 = .ok (.istore_n 2, 1) := by decide +kernel
theorem dX6_seam_14 : decode cX6_seam 14 = .ok (.iconst 0, 1) := by decide +kernel
theorem dX6_seam_15 : decode cX6_seam 15 = .ok (.istore_n 3, 1) := by decide +kernel
theorem dX6_seam_16 : decode cX6_seam 16 = .ok (.iload_n 3, 1) := by decide +kernel
theorem dX6_seam_17 : decode cX6_seam 17 = .ok (.sipush 7200, 3) := by decide +kernel
theorem dX6_seam_20 : decode cX6_seam 20 = .ok (.if_icmp .ge 55, 3) := by decide +kernel
theorem dX6_seam_23 : decode cX6_seam 23 = .ok (.aload_n 0, 1) := by decide +kernel
theorem dX6_seam_24 : decode cX6_seam 24 = .ok (.iload_n 1, 1) := by decide +kernel
theorem dX6_seam_25 : decode cX6_seam 25 = .ok (.iload_n 3, 1) := by decide +kernel
theorem dX6_seam_26 : decode cX6_seam 26 = .ok (.invokevirtual 135, 3) := by decide +kernel
theorem dX6_seam_29 : decode cX6_seam 29 = .ok (.istore 4, 2) := by decide +kernel
theorem dX6_seam_31 : decode cX6_seam 31 = .ok (.aload_n 0, 1) := by decide +kernel
theorem dX6_seam_32 : decode cX6_seam 32 = .ok (.iload_n 1, 1) := by decide +kernel
theorem dX6_seam_33 : decode cX6_seam 33 = .ok (.iconst 1, 1) := by decide +kernel
theorem dX6_seam_34 : decode cX6_seam 34 = .ok (.iadd, 1) := by decide +kernel
theorem dX6_seam_35 : decode cX6_seam 35 = .ok (.bipush 12, 2) := by decide +kernel
theorem dX6_seam_37 : decode cX6_seam 37 = .ok (.irem, 1) := by decide +kernel
theorem dX6_seam_38 : decode cX6_seam 38 = .ok (.iload_n 3, 1) := by decide +kernel
theorem dX6_seam_39 : decode cX6_seam 39 = .ok (.invokevirtual 135, 3) := by decide +kernel
theorem dX6_seam_42 : decode cX6_seam 42 = .ok (.istore 5, 2) := by decide +kernel
theorem dX6_seam_44 : decode cX6_seam 44 = .ok (.iload_n 2, 1) := by decide +kernel
theorem dX6_seam_45 : decode cX6_seam 45 = .ok (.iload 4, 2) := by decide +kernel
theorem dX6_seam_47 : decode cX6_seam 47 = .ok (.ifCond .eq 19, 3) := by decide +kernel
theorem dX6_seam_50 : decode cX6_seam 50 = .ok (.iload 5, 2) := by decide +kernel
theorem dX6_seam_52 : decode cX6_seam 52 = .ok (.ifCond .eq 14, 3) := by decide +kernel
theorem dX6_seam_55 : decode cX6_seam 55 = .ok (.iload 4, 2) := by decide +kernel
theorem dX6_seam_57 : decode cX6_seam 57 = .ok (.iload 5, 2) := by decide +kernel
theorem dX6_seam_59 : decode cX6_seam 59 = .ok (.if_icmp .eq 7, 3) := by decide +kernel
theorem dX6_seam_62 : decode cX6_seam 62 = .ok (.iconst 1, 1) := by decide +kernel
theorem dX6_seam_63 : decode cX6_seam 63 = .ok (.goto 4, 3) := by decide +kernel
theorem dX6_seam_66 : decode cX6_seam 66 = .ok (.iconst 0, 1) := by decide +kernel
theorem dX6_seam_67 : decode cX6_seam 67 = .ok (.iadd, 1) := by decide +kernel
theorem dX6_seam_68 : decode cX6_seam 68 = .ok (.istore_n 2, 1) := by decide +kernel
theorem dX6_seam_69 : decode cX6_seam 69 = .ok (.iinc 3 1, 3) := by decide +kernel
theorem dX6_seam_72 : decode cX6_seam 72 = .ok (.goto (-56), 3) := by decide +kernel
theorem dX6_seam_75 : decode cX6_seam 75 = .ok (.iload_n 2, 1) := by decide +kernel
theorem dX6_seam_76 : decode cX6_seam 76 = .ok (.ireturn, 1) := by decide +kernel
set_option maxRecDepth 20000 in
theorem ggX6_isSquare_X6_isIn : GoodIn wsX6_isSquare wsX6_isIn := goodIn_r _ [4] (by decide +kernel) (by decide +kernel)
set_option maxRecDepth 20000 in
theorem gX6_isSquare_X6_isIn : GoodIn wsX6_isSquare (va_wsS RX6 102 yX6_isIn wsX6_isIn) := goodIn_app (goodIn_of _ (by decide +kernel)) ggX6_isSquare_X6_isIn
theorem dX6_isSquare_0 : decode cX6_isSquare 0 = .ok (.iload_n 0, 1) := by decide +kernel
theorem dX6_isSquare_1 : decode cX6_isSquare 1 = .ok (.iconst 0, 1) := by decide +kernel
theorem dX6_isSquare_2 : decode cX6_isSquare 2 = .ok (.bipush 71, 2) := by decide +kernel
theorem dX6_isSquare_4 : decode cX6_isSquare 4 = .ok (.invokestatic 102, 3) := by decide +kernel
theorem dX6_isSquare_7 : decode cX6_isSquare 7 = .ok (.ireturn, 1) := by decide +kernel
set_option maxRecDepth 20000 in
theorem ggX6_work_X6_viewAt : GoodIn wsX6_work wsX6_viewAt := goodIn_r _ [5, 6, 7, 8, 9, 10, 11, 12, 13, 14, 15, 4, 16, 17, 18, 19, 20, 21, 22, 23, 24, 25, 26, 27, 28, 29, 30, 31, 32, 33, 34, 35, 36, 37, 38, 39, 40, 41, 42, 43, 44, 45, 46, 47, 48, 49, 50, 51, 52, 53, 54, 55, 56, 57, 58, 59, 60, 61, 62, 63, 64, 65, 66, 67, 68, 69, 70, 71] (by decide +kernel) (by decide +kernel)
set_option maxRecDepth 20000 in
theorem gX6_work_X6_viewAt : GoodIn wsX6_work (wsV RX6 145 RX6 yX6_viewAt wsX6_viewAt) := goodIn_app (goodIn_of _ (by decide +kernel)) ggX6_work_X6_viewAt
theorem dX6_work_0 : decode cX6_work 0 = .ok (.iconst 3, 1) := by decide +kernel
theorem dX6_work_1 : decode cX6_work 1 = .ok (.istore_n 2, 1) := by decide +kernel
theorem dX6_work_2 : decode cX6_work 2 = .ok (.iload_n 1, 1) := by decide +kernel
theorem dX6_work_3 : decode cX6_work 3 = .ok (.bipush 36, 2) := by decide +kernel
theorem dX6_work_5 : decode cX6_work 5 = .ok (.if_icmp .ge 8, 3) := by decide +kernel
theorem dX6_work_8 : decode cX6_work 8 = .ok (.bipush 10, 2) := by decide +kernel
theorem dX6_work_10 : decode cX6_work 10 = .ok (.goto 4, 3) := by decide +kernel
theorem dX6_work_13 : decode cX6_work 13 = .ok (.iconst 0, 1) := by decide +kernel
theorem dX6_work_14 : decode cX6_work 14 = .ok (.istore_n 3, 1) := by decide +kernel
theorem dX6_work_15 : decode cX6_work 15 = .ok (.bipush 10, 2) := by decide +kernel
theorem dX6_work_17 : decode cX6_work 17 = .ok (.iload_n 1, 1) := by decide +kernel
theorem dX6_work_18 : decode cX6_work 18 = .ok (.bipush 36, 2) := by decide +kernel
theorem dX6_work_20 : decode cX6_work 20 = .ok (.irem, 1) := by decide +kernel
theorem dX6_work_21 : decode cX6_work 21 = .ok (.imul, 1) := by decide +kernel
theorem dX6_work_22 : decode cX6_work 22 = .ok (.istore 4, 2) := by decide +kernel
theorem dX6_work_24 : decode cX6_work 24 = .ok (.iload 4, 2) := by decide +kernel
theorem dX6_work_26 : decode cX6_work 26 = .ok (.bipush 10, 2) := by decide +kernel
theorem dX6_work_28 : decode cX6_work 28 = .ok (.iload_n 1, 1) := by decide +kernel
theorem dX6_work_29 : decode cX6_work 29 = .ok (.bipush 36, 2) := by decide +kernel
theorem dX6_work_31 : decode cX6_work 31 = .ok (.irem, 1) := by decide +kernel
theorem dX6_work_32 : decode cX6_work 32 = .ok (.imul, 1) := by decide +kernel
theorem dX6_work_33 : decode cX6_work 33 = .ok (.bipush 10, 2) := by decide +kernel
theorem dX6_work_35 : decode cX6_work 35 = .ok (.iadd, 1) := by decide +kernel
theorem dX6_work_36 : decode cX6_work 36 = .ok (.if_icmp .ge 51, 3) := by decide +kernel
theorem dX6_work_39 : decode cX6_work 39 = .ok (.iload_n 3, 1) := by decide +kernel
theorem dX6_work_40 : decode cX6_work 40 = .ok (.istore 5, 2) := by decide +kernel
theorem dX6_work_42 : decode cX6_work 42 = .ok (.iload 5, 2) := by decide +kernel
theorem dX6_work_44 : decode cX6_work 44 = .ok (.iload_n 3, 1) := by decide +kernel
theorem dX6_work_45 : decode cX6_work 45 = .ok (.bipush 10, 2) := by decide +kernel
theorem dX6_work_47 : decode cX6_work 47 = .ok (.iadd, 1) := by decide +kernel
theorem dX6_work_48 : decode cX6_work 48 = .ok (.if_icmp .ge 33, 3) := by decide +kernel
theorem dX6_work_51 : decode cX6_work 51 = .ok (.iload_n 2, 1) := by decide +kernel
theorem dX6_work_52 : decode cX6_work 52 = .ok (.aload_n 0, 1) := by decide +kernel
theorem dX6_work_53 : decode cX6_work 53 = .ok (.bipush 20, 2) := by decide +kernel
theorem dX6_work_55 : decode cX6_work 55 = .ok (.iload 4, 2) := by decide +kernel
theorem dX6_work_57 : decode cX6_work 57 = .ok (.imul, 1) := by decide +kernel
theorem dX6_work_58 : decode cX6_work 58 = .ok (.iload 5, 2) := by decide +kernel
theorem dX6_work_60 : decode cX6_work 60 = .ok (.iadd, 1) := by decide +kernel
theorem dX6_work_61 : decode cX6_work 61 = .ok (.invokevirtual 145, 3) := by decide +kernel
theorem dX6_work_64 : decode cX6_work 64 = .ok (.iconst (-1), 1) := by decide +kernel
theorem dX6_work_65 : decode cX6_work 65 = .ok (.if_icmp .eq 7, 3) := by decide +kernel
theorem dX6_work_68 : decode cX6_work 68 = .ok (.iconst 1, 1) := by decide +kernel
theorem dX6_work_69 : decode cX6_work 69 = .ok (.goto 4, 3) := by decide +kernel
theorem dX6_work_72 : decode cX6_work 72 = .ok (.iconst 0, 1) := by decide +kernel
theorem dX6_work_73 : decode cX6_work 73 = .ok (.iadd, 1) := by decide +kernel
theorem dX6_work_74 : decode cX6_work 74 = .ok (.istore_n 2, 1) := by decide +kernel
theorem dX6_work_75 : decode cX6_work 75 = .ok (.iinc 5 1, 3) := by decide +kernel
theorem dX6_work_78 : decode cX6_work 78 = .ok (.goto (-36), 3) := by decide +kernel
theorem dX6_work_81 : decode cX6_work 81 = .ok (.iinc 4 1, 3) := by decide +kernel
theorem dX6_work_84 : decode cX6_work 84 = .ok (.goto (-60), 3) := by decide +kernel
theorem dX6_work_87 : decode cX6_work 87 = .ok (.iload_n 2, 1) := by decide +kernel
theorem dX6_work_88 : decode cX6_work 88 = .ok (.ireturn, 1) := by decide +kernel
set_option maxRecDepth 20000 in
theorem ggX6_gang_X6_isIn : GoodIn wsX6_gang wsX6_isIn := goodIn_r _ [6] (by decide +kernel) (by decide +kernel)
set_option maxRecDepth 20000 in
theorem gX6_gang_X6_isIn : GoodIn wsX6_gang (va_wsS RX6 102 yX6_isIn wsX6_isIn) := goodIn_app (goodIn_of _ (by decide +kernel)) ggX6_gang_X6_isIn
theorem dX6_gang_0 : decode cX6_gang 0 = .ok (.iload_n 1, 1) := by decide +kernel
theorem dX6_gang_1 : decode cX6_gang 1 = .ok (.iconst 1, 1) := by decide +kernel
theorem dX6_gang_2 : decode cX6_gang 2 = .ok (.bipush 20, 2) := by decide +kernel
theorem dX6_gang_4 : decode cX6_gang 4 = .ok (.invokestatic 102, 3) := by decide +kernel
theorem dX6_gang_7 : decode cX6_gang 7 = .ok (.ifCond .eq 12, 3) := by decide +kernel
theorem dX6_gang_10 : decode cX6_gang 10 = .ok (.aload_n 0, 1) := by decide +kernel
theorem dX6_gang_11 : decode cX6_gang 11 = .ok (.getfield 148, 3) := by decide +kernel
theorem dX6_gang_14 : decode cX6_gang 14 = .ok (.bipush 6, 2) := by decide +kernel
theorem dX6_gang_16 : decode cX6_gang 16 = .ok (.if_icmp .ne 5, 3) := by decide +kernel
theorem dX6_gang_19 : decode cX6_gang 19 = .ok (.iconst (-1), 1) := by decide +kernel
theorem dX6_gang_20 : decode cX6_gang 20 = .ok (.ireturn, 1) := by decide +kernel
theorem dX6_gang_21 : decode cX6_gang 21 = .ok (.aload_n 0, 1) := by decide +kernel
theorem dX6_gang_22 : decode cX6_gang 22 = .ok (.getfield 21, 3) := by decide +kernel
theorem dX6_gang_25 : decode cX6_gang 25 = .ok (.aload_n 0, 1) := by decide +kernel
theorem dX6_gang_26 : decode cX6_gang 26 = .ok (.getfield 148, 3) := by decide +kernel
theorem dX6_gang_29 : decode cX6_gang 29 = .ok (.iload_n 1, 1) := by decide +kernel
theorem dX6_gang_30 : decode cX6_gang 30 = .ok (.iastore, 1) := by decide +kernel
theorem dX6_gang_31 : decode cX6_gang 31 = .ok (.aload_n 0, 1) := by decide +kernel
theorem dX6_gang_32 : decode cX6_gang 32 = .ok (.dup, 1) := by decide +kernel
theorem dX6_gang_33 : decode cX6_gang 33 = .ok (.getfield 148, 3) := by decide +kernel
theorem dX6_gang_36 : decode cX6_gang 36 = .ok (.iconst 1, 1) := by decide +kernel
theorem dX6_gang_37 : decode cX6_gang 37 = .ok (.iadd, 1) := by decide +kernel
theorem dX6_gang_38 : decode cX6_gang 38 = .ok (.putfield 148, 3) := by decide +kernel
theorem dX6_gang_41 : decode cX6_gang 41 = .ok (.aload_n 0, 1) := by decide +kernel
theorem dX6_gang_42 : decode cX6_gang 42 = .ok (.getfield 148, 3) := by decide +kernel
theorem dX6_gang_45 : decode cX6_gang 45 = .ok (.iconst 1, 1) := by decide +kernel
theorem dX6_gang_46 : decode cX6_gang 46 = .ok (.isub, 1) := by decide +kernel
theorem dX6_gang_47 : decode cX6_gang 47 = .ok (.ireturn, 1) := by decide +kernel
set_option maxRecDepth 20000 in
theorem ggX6_put_X6_isIn : GoodIn wsX6_put wsX6_isIn := goodIn_r _ [15] (by decide +kernel) (by decide +kernel)
set_option maxRecDepth 20000 in
theorem gX6_put_X6_isIn : GoodIn wsX6_put (va_wsS RX6 102 yX6_isIn wsX6_isIn) := goodIn_app (goodIn_of _ (by decide +kernel)) ggX6_put_X6_isIn
set_option maxRecDepth 20000 in
theorem ggX6_put_X6_isSquare : GoodIn wsX6_put wsX6_isSquare := goodIn_r _ [18, 12, 13, 14, 15] (by decide +kernel) (by decide +kernel)
set_option maxRecDepth 20000 in
theorem gX6_put_X6_isSquare : GoodIn wsX6_put (va_wsS RX6 151 yX6_isSquare wsX6_isSquare) := goodIn_app (goodIn_of _ (by decide +kernel)) ggX6_put_X6_isSquare
set_option maxRecDepth 20000 in
theorem ggX6_put_X6_work : GoodIn wsX6_put wsX6_work := goodIn_r _ [22, 23, 24, 25, 14, 26, 27, 28, 10, 29, 30, 31, 32, 33, 34, 35, 36, 37, 38, 39, 40, 41, 42, 43, 44, 45, 46, 47, 48, 49, 50, 51, 52, 53, 54, 55, 56, 57, 58, 59, 60, 61, 62, 63, 64, 65, 66, 67, 68, 69, 70, 71, 72, 73, 74, 75, 76, 77, 78, 79, 80, 81, 82, 83, 84, 85, 86, 87, 88, 89, 90, 91] (by decide +kernel) (by decide +kernel)
set_option maxRecDepth 20000 in
theorem gX6_put_X6_work : GoodIn wsX6_put (wsV RX6 158 RX6 yX6_work wsX6_work) := goodIn_app (goodIn_of _ (by decide +kernel)) ggX6_put_X6_work
theorem dX6_put_0 : decode cX6_put 0 = .ok (.iload_n 1, 1) := by decide +kernel
theorem dX6_put_1 : decode cX6_put 1 = .ok (.iconst 0, 1) := by decide +kernel
theorem dX6_put_2 : decode cX6_put 2 = .ok (.aload_n 0, 1) := by decide +kernel
theorem dX6_put_3 : decode cX6_put 3 = .ok (.getfield 148, 3) := by decide +kernel
theorem dX6_put_6 : decode cX6_put 6 = .ok (.iconst 1, 1) := by decide +kernel
theorem dX6_put_7 : decode cX6_put 7 = .ok (.isub, 1) := by decide +kernel
theorem dX6_put_8 : decode cX6_put 8 = .ok (.invokestatic 102, 3) := by decide +kernel
theorem dX6_put_11 : decode cX6_put 11 = .ok (.ifCond .eq 10, 3) := by decide +kernel
theorem dX6_put_14 : decode cX6_put 14 = .ok (.iload_n 2, 1) := by decide +kernel
theorem dX6_put_15 : decode cX6_put 15 = .ok (.invokestatic 151, 3) := by decide +kernel
theorem dX6_put_18 : decode cX6_put 18 = .ok (.ifCond .ne 6, 3) := by decide +kernel
theorem dX6_put_21 : decode cX6_put 21 = .ok (.bipush (-2), 2) := by decide +kernel
theorem dX6_put_23 : decode cX6_put 23 = .ok (.ireturn, 1) := by decide +kernel
theorem dX6_put_24 : decode cX6_put 24 = .ok (.aload_n 0, 1) := by decide +kernel
theorem dX6_put_25 : decode cX6_put 25 = .ok (.getfield 25, 3) := by decide +kernel
theorem dX6_put_28 : decode cX6_put 28 = .ok (.iload_n 1, 1) := by decide +kernel
theorem dX6_put_29 : decode cX6_put 29 = .ok (.iaload, 1) := by decide +kernel
theorem dX6_put_30 : decode cX6_put 30 = .ok (.iconst (-1), 1) := by decide +kernel
theorem dX6_put_31 : decode cX6_put 31 = .ok (.if_icmp .eq 6, 3) := by decide +kernel
theorem dX6_put_34 : decode cX6_put 34 = .ok (.bipush (-3), 2) := by decide +kernel
theorem dX6_put_36 : decode cX6_put 36 = .ok (.ireturn, 1) := by decide +kernel
theorem dX6_put_37 : decode cX6_put 37 = .ok (.aload_n 0, 1) := by decide +kernel
theorem dX6_put_38 : decode cX6_put 38 = .ok (.getfield 28, 3) := by decide +kernel
theorem dX6_put_41 : decode cX6_put 41 = .ok (.iload_n 2, 1) := by decide +kernel
theorem dX6_put_42 : decode cX6_put 42 = .ok (.iaload, 1) := by decide +kernel
theorem dX6_put_43 : decode cX6_put 43 = .ok (.iconst 2, 1) := by decide +kernel
theorem dX6_put_44 : decode cX6_put 44 = .ok (.if_icmp .ne 6, 3) := by decide +kernel
theorem dX6_put_47 : decode cX6_put 47 = .ok (.bipush (-4), 2) := by decide +kernel
theorem dX6_put_49 : decode cX6_put 49 = .ok (.ireturn, 1) := by decide +kernel
theorem dX6_put_50 : decode cX6_put 50 = .ok (.aload_n 0, 1) := by decide +kernel
theorem dX6_put_51 : decode cX6_put 51 = .ok (.getfield 31, 3) := by decide +kernel
theorem dX6_put_54 : decode cX6_put 54 = .ok (.iload_n 2, 1) := by decide +kernel
theorem dX6_put_55 : decode cX6_put 55 = .ok (.iaload, 1) := by decide +kernel
theorem dX6_put_56 : decode cX6_put 56 = .ok (.iconst (-1), 1) := by decide +kernel
theorem dX6_put_57 : decode cX6_put 57 = .ok (.if_icmp .eq 6, 3) := by decide +kernel
theorem dX6_put_60 : decode cX6_put 60 = .ok (.bipush (-5), 2) := by decide +kernel
theorem dX6_put_62 : decode cX6_put 62 = .ok (.ireturn, 1) := by decide +kernel
theorem dX6_put_63 : decode cX6_put 63 = .ok (.aload_n 0, 1) := by decide +kernel
theorem dX6_put_64 : decode cX6_put 64 = .ok (.getfield 28, 3) := by decide +kernel
theorem dX6_put_67 : decode cX6_put 67 = .ok (.iload_n 2, 1) := by decide +kernel
theorem dX6_put_68 : decode cX6_put 68 = .ok (.iaload, 1) := by decide +kernel
theorem dX6_put_69 : decode cX6_put 69 = .ok (.iconst 1, 1) := by decide +kernel
theorem dX6_put_70 : decode cX6_put 70 = .ok (.iadd, 1) := by decide +kernel
theorem dX6_put_71 : decode cX6_put 71 = .ok (.istore_n 3, 1) := by decide +kernel
theorem dX6_put_72 : decode cX6_put 72 = .ok (.iload_n 3, 1) := by decide +kernel
theorem dX6_put_73 : decode cX6_put 73 = .ok (.iconst 2, 1) := by decide +kernel
theorem dX6_put_74 : decode cX6_put 74 = .ok (.if_icmp .ne 21, 3) := by decide +kernel
theorem dX6_put_77 : decode cX6_put 77 = .ok (.aload_n 0, 1) := by decide +kernel
theorem dX6_put_78 : decode cX6_put 78 = .ok (.getfield 155, 3) := by decide +kernel
theorem dX6_put_81 : decode cX6_put 81 = .ok (.aload_n 0, 1) := by decide +kernel
theorem dX6_put_82 : decode cX6_put 82 = .ok (.getfield 37, 3) := by decide +kernel
theorem dX6_put_85 : decode cX6_put 85 = .ok (.iload_n 2, 1) := by decide +kernel
end
section
theorem dX6_put_86 : decode cX6_put 86 = .ok (.iaload, 1) := by decide +kernel
theorem dX6_put_87 : decode cX6_put 87 = .ok (.iconst 3, 1) := by decide +kernel
theorem dX6_put_88 : decode cX6_put 88 = .ok (.iadd, 1) := by decide +kernel
theorem dX6_put_89 : decode cX6_put 89 = .ok (.if_icmp .ge 6, 3) := by decide +kernel
theorem dX6_put_92 : decode cX6_put 92 = .ok (.bipush (-6), 2) := by decide +kernel
theorem dX6_put_94 : decode cX6_put 94 = .ok (.ireturn, 1) := by decide +kernel
theorem dX6_put_95 : decode cX6_put 95 = .ok (.iload_n 2, 1) := by decide +kernel
theorem dX6_put_96 : decode cX6_put 96 = .ok (.bipush 36, 2) := by decide +kernel
theorem dX6_put_98 : decode cX6_put 98 = .ok (.if_icmp .ge 19, 3) := by decide +kernel
theorem dX6_put_101 : decode cX6_put 101 = .ok (.aload_n 0, 1) := by decide +kernel
theorem dX6_put_102 : decode cX6_put 102 = .ok (.getfield 28, 3) := by decide +kernel
theorem dX6_put_105 : decode cX6_put 105 = .ok (.bipush 36, 2) := by decide +kernel
theorem dX6_put_107 : decode cX6_put 107 = .ok (.iload_n 2, 1) := by decide +kernel
theorem dX6_put_108 : decode cX6_put 108 = .ok (.iadd, 1) := by decide +kernel
theorem dX6_put_109 : decode cX6_put 109 = .ok (.iaload, 1) := by decide +kernel
theorem dX6_put_110 : decode cX6_put 110 = .ok (.iload_n 3, 1) := by decide +kernel
theorem dX6_put_111 : decode cX6_put 111 = .ok (.if_icmp .ge 6, 3) := by decide +kernel
theorem dX6_put_114 : decode cX6_put 114 = .ok (.bipush (-7), 2) := by decide +kernel
theorem dX6_put_116 : decode cX6_put 116 = .ok (.ireturn, 1) := by decide +kernel
theorem dX6_put_117 : decode cX6_put 117 = .ok (.aload_n 0, 1) := by decide +kernel
theorem dX6_put_118 : decode cX6_put 118 = .ok (.iload_n 2, 1) := by decide +kernel
theorem dX6_put_119 : decode cX6_put 119 = .ok (.invokevirtual 158, 3) := by decide +kernel
theorem dX6_put_122 : decode cX6_put 122 = .ok (.istore 4, 2) := by decide +kernel
theorem dX6_put_124 : decode cX6_put 124 = .ok (.aload_n 0, 1) := by decide +kernel
theorem dX6_put_125 : decode cX6_put 125 = .ok (.getfield 34, 3) := by decide +kernel
theorem dX6_put_128 : decode cX6_put 128 = .ok (.iload_n 2, 1) := by decide +kernel
theorem dX6_put_129 : decode cX6_put 129 = .ok (.iload_n 3, 1) := by decide +kernel
theorem dX6_put_130 : decode cX6_put 130 = .ok (.iconst 1, 1) := by decide +kernel
theorem dX6_put_131 : decode cX6_put 131 = .ok (.if_icmp .ne 8, 3) := by decide +kernel
theorem dX6_put_134 : decode cX6_put 134 = .ok (.iload 4, 2) := by decide +kernel
theorem dX6_put_136 : decode cX6_put 136 = .ok (.goto 11, 3) := by decide +kernel
theorem dX6_put_139 : decode cX6_put 139 = .ok (.iconst 1, 1) := by decide +kernel
theorem dX6_put_140 : decode cX6_put 140 = .ok (.iload 4, 2) := by decide +kernel
theorem dX6_put_142 : decode cX6_put 142 = .ok (.iconst 2, 1) := by decide +kernel
theorem dX6_put_143 : decode cX6_put 143 = .ok (.idiv, 1) := by decide +kernel
theorem dX6_put_144 : decode cX6_put 144 = .ok (.invokestatic 119, 3) := by decide +kernel
theorem dX6_put_147 : decode cX6_put 147 = .ok (.iastore, 1) := by decide +kernel
theorem dX6_put_148 : decode cX6_put 148 = .ok (.aload_n 0, 1) := by decide +kernel
theorem dX6_put_149 : decode cX6_put 149 = .ok (.getfield 31, 3) := by decide +kernel
theorem dX6_put_152 : decode cX6_put 152 = .ok (.iload_n 2, 1) := by decide +kernel
theorem dX6_put_153 : decode cX6_put 153 = .ok (.iload_n 1, 1) := by decide +kernel
theorem dX6_put_154 : decode cX6_put 154 = .ok (.iastore, 1) := by decide +kernel
theorem dX6_put_155 : decode cX6_put 155 = .ok (.aload_n 0, 1) := by decide +kernel
theorem dX6_put_156 : decode cX6_put 156 = .ok (.getfield 25, 3) := by decide +kernel
theorem dX6_put_159 : decode cX6_put 159 = .ok (.iload_n 1, 1) := by decide +kernel
theorem dX6_put_160 : decode cX6_put 160 = .ok (.iload_n 2, 1) := by decide +kernel
theorem dX6_put_161 : decode cX6_put 161 = .ok (.iastore, 1) := by decide +kernel
theorem dX6_put_162 : decode cX6_put 162 = .ok (.iload_n 3, 1) := by decide +kernel
theorem dX6_put_163 : decode cX6_put 163 = .ok (.ireturn, 1) := by decide +kernel
theorem dX6_day_0 : decode cX6_day 0 = .ok (.aload_n 0, 1) := by decide +kernel
theorem dX6_day_1 : decode cX6_day 1 = .ok (.getfield 155, 3) := by decide +kernel
theorem dX6_day_4 : decode cX6_day 4 = .ok (.sipush 1000, 3) := by decide +kernel
theorem dX6_day_7 : decode cX6_day 7 = .ok (.if_icmp .ne 5, 3) := by decide +kernel
theorem dX6_day_10 : decode cX6_day 10 = .ok (.iconst (-1), 1) := by decide +kernel
theorem dX6_day_11 : decode cX6_day 11 = .ok (.ireturn, 1) := by decide +kernel
theorem dX6_day_12 : decode cX6_day 12 = .ok (.iconst 0, 1) := by decide +kernel
theorem dX6_day_13 : decode cX6_day 13 = .ok (.istore_n 1, 1) := by decide +kernel
theorem dX6_day_14 : decode cX6_day 14 = .ok (.iload_n 1, 1) := by decide +kernel
theorem dX6_day_15 : decode cX6_day 15 = .ok (.aload_n 0, 1) := by decide +kernel
theorem dX6_day_16 : decode cX6_day 16 = .ok (.getfield 148, 3) := by decide +kernel
theorem dX6_day_19 : decode cX6_day 19 = .ok (.if_icmp .ge 123, 3) := by decide +kernel
theorem dX6_day_22 : decode cX6_day 22 = .ok (.aload_n 0, 1) := by decide +kernel
theorem dX6_day_23 : decode cX6_day 23 = .ok (.getfield 25, 3) := by decide +kernel
theorem dX6_day_26 : decode cX6_day 26 = .ok (.iload_n 1, 1) := by decide +kernel
theorem dX6_day_27 : decode cX6_day 27 = .ok (.iaload, 1) := by decide +kernel
theorem dX6_day_28 : decode cX6_day 28 = .ok (.istore_n 2, 1) := by decide +kernel
theorem dX6_day_29 : decode cX6_day 29 = .ok (.iload_n 2, 1) := by decide +kernel
theorem dX6_day_30 : decode cX6_day 30 = .ok (.iconst (-1), 1) := by decide +kernel
theorem dX6_day_31 : decode cX6_day 31 = .ok (.if_icmp .ne 6, 3) := by decide +kernel
theorem dX6_day_34 : decode cX6_day 34 = .ok (.goto 102, 3) := by decide +kernel
theorem dX6_day_37 : decode cX6_day 37 = .ok (.aload_n 0, 1) := by decide +kernel
theorem dX6_day_38 : decode cX6_day 38 = .ok (.getfield 34, 3) := by decide +kernel
theorem dX6_day_41 : decode cX6_day 41 = .ok (.iload_n 2, 1) := by decide +kernel
theorem dX6_day_42 : decode cX6_day 42 = .ok (.iconst 0, 1) := by decide +kernel
theorem dX6_day_43 : decode cX6_day 43 = .ok (.aload_n 0, 1) := by decide +kernel
theorem dX6_day_44 : decode cX6_day 44 = .ok (.getfield 34, 3) := by decide +kernel
theorem dX6_day_47 : decode cX6_day 47 = .ok (.iload_n 2, 1) := by decide +kernel
theorem dX6_day_48 : decode cX6_day 48 = .ok (.iaload, 1) := by decide +kernel
theorem dX6_day_49 : decode cX6_day 49 = .ok (.aload_n 0, 1) := by decide +kernel
theorem dX6_day_50 : decode cX6_day 50 = .ok (.getfield 21, 3) := by decide +kernel
theorem dX6_day_53 : decode cX6_day 53 = .ok (.iload_n 1, 1) := by decide +kernel
theorem dX6_day_54 : decode cX6_day 54 = .ok (.iaload, 1) := by decide +kernel
theorem dX6_day_55 : decode cX6_day 55 = .ok (.isub, 1) := by decide +kernel
theorem dX6_day_56 : decode cX6_day 56 = .ok (.invokestatic 119, 3) := by decide +kernel
theorem dX6_day_59 : decode cX6_day 59 = .ok (.iastore, 1) := by decide +kernel
theorem dX6_day_60 : decode cX6_day 60 = .ok (.aload_n 0, 1) := by decide +kernel
theorem dX6_day_61 : decode cX6_day 61 = .ok (.getfield 34, 3) := by decide +kernel
theorem dX6_day_64 : decode cX6_day 64 = .ok (.iload_n 2, 1) := by decide +kernel
theorem dX6_day_65 : decode cX6_day 65 = .ok (.iaload, 1) := by decide +kernel
theorem dX6_day_66 : decode cX6_day 66 = .ok (.ifCond .le 6, 3) := by decide +kernel
theorem dX6_day_69 : decode cX6_day 69 = .ok (.goto 67, 3) := by decide +kernel
theorem dX6_day_72 : decode cX6_day 72 = .ok (.aload_n 0, 1) := by decide +kernel
theorem dX6_day_73 : decode cX6_day 73 = .ok (.getfield 28, 3) := by decide +kernel
theorem dX6_day_76 : decode cX6_day 76 = .ok (.iload_n 2, 1) := by decide +kernel
theorem dX6_day_77 : decode cX6_day 77 = .ok (.dup2, 1) := by decide +kernel
theorem dX6_day_78 : decode cX6_day 78 = .ok (.iaload, 1) := by decide +kernel
theorem dX6_day_79 : decode cX6_day 79 = .ok (.iconst 1, 1) := by decide +kernel
theorem dX6_day_80 : decode cX6_day 80 = .ok (.iadd, 1) := by decide +kernel
theorem dX6_day_81 : decode cX6_day 81 = .ok (.iastore, 1) := by decide +kernel
theorem dX6_day_82 : decode cX6_day 82 = .ok (.aload_n 0, 1) := by decide +kernel
theorem dX6_day_83 : decode cX6_day 83 = .ok (.getfield 28, 3) := by decide +kernel
theorem dX6_day_86 : decode cX6_day 86 = .ok (.iload_n 2, 1) := by decide +kernel
theorem dX6_day_87 : decode cX6_day 87 = .ok (.iaload, 1) := by decide +kernel
theorem dX6_day_88 : decode cX6_day 88 = .ok (.iconst 1, 1) := by decide +kernel
theorem dX6_day_89 : decode cX6_day 89 = .ok (.if_icmp .ne 16, 3) := by decide +kernel
theorem dX6_day_92 : decode cX6_day 92 = .ok (.aload_n 0, 1) := by decide +kernel
theorem dX6_day_93 : decode cX6_day 93 = .ok (.getfield 37, 3) := by decide +kernel
theorem dX6_day_96 : decode cX6_day 96 = .ok (.iload_n 2, 1) := by decide +kernel
theorem dX6_day_97 : decode cX6_day 97 = .ok (.aload_n 0, 1) := by decide +kernel
theorem dX6_day_98 : decode cX6_day 98 = .ok (.getfield 155, 3) := by decide +kernel
theorem dX6_day_101 : decode cX6_day 101 = .ok (.iastore, 1) := by decide +kernel
theorem dX6_day_102 : decode cX6_day 102 = .ok (.goto 13, 3) := by decide +kernel
theorem dX6_day_105 : decode cX6_day 105 = .ok (.aload_n 0, 1) := by decide +kernel
theorem dX6_day_106 : decode cX6_day 106 = .ok (.getfield 40, 3) := by decide +kernel
theorem dX6_day_109 : decode cX6_day 109 = .ok (.iload_n 2, 1) := by decide +kernel
theorem dX6_day_110 : decode cX6_day 110 = .ok (.aload_n 0, 1) := by decide +kernel
theorem dX6_day_111 : decode cX6_day 111 = .ok (.getfield 155, 3) := by decide +kernel
theorem dX6_day_114 : decode cX6_day 114 = .ok (.iastore, 1) := by decide +kernel
theorem dX6_day_115 : decode cX6_day 115 = .ok (.aload_n 0, 1) := by decide +kernel
theorem dX6_day_116 : decode cX6_day 116 = .ok (.getfield 43, 3) := by decide +kernel
theorem dX6_day_119 : decode cX6_day 119 = .ok (.iload_n 2, 1) := by decide +kernel
theorem dX6_day_120 : decode cX6_day 120 = .ok (.iload_n 1, 1) := by decide +kernel
theorem dX6_day_121 : decode cX6_day 121 = .ok (.iastore, 1) := by decide +kernel
theorem dX6_day_122 : decode cX6_day 122 = .ok (.aload_n 0, 1) := by decide +kernel
theorem dX6_day_123 : decode cX6_day 123 = .ok (.getfield 31, 3) := by decide +kernel
theorem dX6_day_126 : decode cX6_day 126 = .ok (.iload_n 2, 1) := by decide +kernel
theorem dX6_day_127 : decode cX6_day 127 = .ok (.iconst (-1), 1) := by decide +kernel
theorem dX6_day_128 : decode cX6_day 128 = .ok (.iastore, 1) := by decide +kernel
theorem dX6_day_129 : decode cX6_day 129 = .ok (.aload_n 0, 1) := by decide +kernel
theorem dX6_day_130 : decode cX6_day 130 = .ok (.getfield 25, 3) := by decide +kernel
theorem dX6_day_133 : decode cX6_day 133 = .ok (.iload_n 1, 1) := by decide +kernel
theorem dX6_day_134 : decode cX6_day 134 = .ok (.iconst (-1), 1) := by decide +kernel
theorem dX6_day_135 : decode cX6_day 135 = .ok (.iastore, 1) := by decide +kernel
theorem dX6_day_136 : decode cX6_day 136 = .ok (.iinc 1 1, 3) := by decide +kernel
theorem dX6_day_139 : decode cX6_day 139 = .ok (.goto (-125), 3) := by decide +kernel
theorem dX6_day_142 : decode cX6_day 142 = .ok (.aload_n 0, 1) := by decide +kernel
theorem dX6_day_143 : decode cX6_day 143 = .ok (.dup, 1) := by decide +kernel
theorem dX6_day_144 : decode cX6_day 144 = .ok (.getfield 155, 3) := by decide +kernel
theorem dX6_day_147 : decode cX6_day 147 = .ok (.iconst 1, 1) := by decide +kernel
theorem dX6_day_148 : decode cX6_day 148 = .ok (.iadd, 1) := by decide +kernel
theorem dX6_day_149 : decode cX6_day 149 = .ok (.putfield 155, 3) := by decide +kernel
theorem dX6_day_152 : decode cX6_day 152 = .ok (.aload_n 0, 1) := by decide +kernel
theorem dX6_day_153 : decode cX6_day 153 = .ok (.getfield 155, 3) := by decide +kernel
theorem dX6_day_156 : decode cX6_day 156 = .ok (.ireturn, 1) := by decide +kernel
set_option maxRecDepth 20000 in
theorem ggX6_square_X6_isSquare : GoodIn wsX6_square wsX6_isSquare := goodIn_r _ [10, 11, 12, 9, 13] (by decide +kernel) (by decide +kernel)
set_option maxRecDepth 20000 in
theorem gX6_square_X6_isSquare : GoodIn wsX6_square (va_wsS RX6 151 yX6_isSquare wsX6_isSquare) := goodIn_app (goodIn_of _ (by decide +kernel)) ggX6_square_X6_isSquare
set_option maxRecDepth 20000 in
theorem ggX6_square_X6_work : GoodIn wsX6_square wsX6_work := goodIn_r _ [17, 18, 19, 20, 9, 21, 22, 23, 24, 25, 26, 27, 28, 29, 30, 31, 32, 33, 34, 35, 36, 37, 38, 39, 40, 41, 42, 43, 44, 45, 46, 47, 48, 49, 50, 51, 52, 53, 54, 55, 56, 57, 58, 59, 60, 61, 62, 63, 64, 65, 66, 67, 68, 69, 70, 71, 72, 73, 74, 75, 76, 77, 78, 79, 80, 81, 82, 83, 84, 85, 86, 87] (by decide +kernel) (by decide +kernel)
set_option maxRecDepth 20000 in
theorem gX6_square_X6_work : GoodIn wsX6_square (wsV RX6 158 RX6 yX6_work wsX6_work) := goodIn_app (goodIn_of _ (by decide +kernel)) ggX6_square_X6_work
theorem dX6_square_0 : decode cX6_square 0 = .ok (.iload_n 1, 1) := by decide +kernel
theorem dX6_square_1 : decode cX6_square 1 = .ok (.invokestatic 151, 3) := by decide +kernel
theorem dX6_square_4 : decode cX6_square 4 = .ok (.ifCond .ne 5, 3) := by decide +kernel
theorem dX6_square_7 : decode cX6_square 7 = .ok (.iconst (-1), 1) := by decide +kernel
theorem dX6_square_8 : decode cX6_square 8 = .ok (.ireturn, 1) := by decide +kernel
theorem dX6_square_9 : decode cX6_square 9 = .ok (.iload_n 2, 1) := by decide +kernel
theorem dX6_square_10 : decode cX6_square 10 = .ok (.tableswitch 90 0 6 #[42, 48, 55, 62, 69, 76, 83], 42) := by decide +kernel
theorem dX6_square_52 : decode cX6_square 52 = .ok (.aload_n 0, 1) := by decide +kernel
theorem dX6_square_53 : decode cX6_square 53 = .ok (.iload_n 1, 1) := by decide +kernel
theorem dX6_square_54 : decode cX6_square 54 = .ok (.invokevirtual 158, 3) := by decide +kernel
theorem dX6_square_57 : decode cX6_square 57 = .ok (.ireturn, 1) := by decide +kernel
theorem dX6_square_58 : decode cX6_square 58 = .ok (.aload_n 0, 1) := by decide +kernel
theorem dX6_square_59 : decode cX6_square 59 = .ok (.getfield 28, 3) := by decide +kernel
theorem dX6_square_62 : decode cX6_square 62 = .ok (.iload_n 1, 1) := by decide +kernel
theorem dX6_square_63 : decode cX6_square 63 = .ok (.iaload, 1) := by decide +kernel
theorem dX6_square_64 : decode cX6_square 64 = .ok (.ireturn, 1) := by decide +kernel
theorem dX6_square_65 : decode cX6_square 65 = .ok (.aload_n 0, 1) := by decide +kernel
theorem dX6_square_66 : decode cX6_square 66 = .ok (.getfield 31, 3) := by decide +kernel
theorem dX6_square_69 : decode cX6_square 69 = .ok (.iload_n 1, 1) := by decide +kernel
theorem dX6_square_70 : decode cX6_square 70 = .ok (.iaload, 1) := by decide +kernel
theorem dX6_square_71 : decode cX6_square 71 = .ok (.ireturn, 1) := by decide +kernel
theorem dX6_square_72 : decode cX6_square 72 = .ok (.aload_n 0, 1) := by decide +kernel
theorem dX6_square_73 : decode cX6_square 73 = .ok (.getfield 34, 3) := by decide +kernel
theorem dX6_square_76 : decode cX6_square 76 = .ok (.iload_n 1, 1) := by decide +kernel
theorem dX6_square_77 : decode cX6_square 77 = .ok (.iaload, 1) := by decide +kernel
theorem dX6_square_78 : decode cX6_square 78 = .ok (.ireturn, 1) := by decide +kernel
theorem dX6_square_79 : decode cX6_square 79 = .ok (.aload_n 0, 1) := by decide +kernel
theorem dX6_square_80 : decode cX6_square 80 = .ok (.getfield 37, 3) := by decide +kernel
theorem dX6_square_83 : decode cX6_square 83 = .ok (.iload_n 1, 1) := by decide +kernel
theorem dX6_square_84 : decode cX6_square 84 = .ok (.iaload, 1) := by decide +kernel
theorem dX6_square_85 : decode cX6_square 85 = .ok (.ireturn, 1) := by decide +kernel
theorem dX6_square_86 : decode cX6_square 86 = .ok (.aload_n 0, 1) := by decide +kernel
theorem dX6_square_87 : decode cX6_square 87 = .ok (.getfield 40, 3) := by decide +kernel
theorem dX6_square_90 : decode cX6_square 90 = .ok (.iload_n 1, 1) := by decide +kernel
theorem dX6_square_91 : decode cX6_square 91 = .ok (.iaload, 1) := by decide +kernel
theorem dX6_square_92 : decode cX6_square 92 = .ok (.ireturn, 1) := by decide +kernel
theorem dX6_square_93 : decode cX6_square 93 = .ok (.aload_n 0, 1) := by decide +kernel
theorem dX6_square_94 : decode cX6_square 94 = .ok (.getfield 43, 3) := by decide +kernel
theorem dX6_square_97 : decode cX6_square 97 = .ok (.iload_n 1, 1) := by decide +kernel
theorem dX6_square_98 : decode cX6_square 98 = .ok (.iaload, 1) := by decide +kernel
theorem dX6_square_99 : decode cX6_square 99 = .ok (.ireturn, 1) := by decide +kernel
theorem dX6_square_100 : decode cX6_square 100 = .ok (.iconst (-1), 1) := by decide +kernel
theorem dX6_square_101 : decode cX6_square 101 = .ok (.ireturn, 1) := by decide +kernel
set_option maxRecDepth 20000 in
theorem ggX6_least_X6_isIn : GoodIn wsX6_least wsX6_isIn := goodIn_r _ [15] (by decide +kernel) (by decide +kernel)
set_option maxRecDepth 20000 in
theorem gX6_least_X6_isIn : GoodIn wsX6_least (va_wsS RX6 102 yX6_isIn wsX6_isIn) := goodIn_app (goodIn_of _ (by decide +kernel)) ggX6_least_X6_isIn
set_option maxRecDepth 20000 in
theorem ggX6_least_X6_work : GoodIn wsX6_least wsX6_work := goodIn_r _ [19, 20, 21, 22, 14, 23, 24, 25, 4, 26, 2, 3, 5, 27, 28, 29, 30, 31, 32, 33, 34, 35, 36, 37, 38, 39, 40, 41, 42, 43, 44, 45, 46, 47, 48, 49, 50, 51, 52, 53, 54, 55, 56, 57, 58, 59, 60, 61, 62, 63, 64, 65, 66, 67, 68, 69, 70, 71, 72, 73, 74, 75, 76, 77, 78, 79, 80, 81, 82, 83, 84, 85] (by decide +kernel) (by decide +kernel)
set_option maxRecDepth 20000 in
theorem gX6_least_X6_work : GoodIn wsX6_least (wsV RX6 158 RX6 yX6_work wsX6_work) := goodIn_app (goodIn_of _ (by decide +kernel)) ggX6_least_X6_work
theorem dX6_least_0 : decode cX6_least 0 = .ok (.iload_n 2, 1) := by decide +kernel
theorem dX6_least_1 : decode cX6_least 1 = .ok (.iconst 1, 1) := by decide +kernel
theorem dX6_least_2 : decode cX6_least 2 = .ok (.bipush 6, 2) := by decide +kernel
theorem dX6_least_4 : decode cX6_least 4 = .ok (.invokestatic 102, 3) := by decide +kernel
theorem dX6_least_7 : decode cX6_least 7 = .ok (.ifCond .eq 31, 3) := by decide +kernel
theorem dX6_least_10 : decode cX6_least 10 = .ok (.iload_n 1, 1) := by decide +kernel
theorem dX6_least_11 : decode cX6_least 11 = .ok (.iconst 0, 1) := by decide +kernel
theorem dX6_least_12 : decode cX6_least 12 = .ok (.bipush 72, 2) := by decide +kernel
theorem dX6_least_14 : decode cX6_least 14 = .ok (.iload_n 2, 1) := by decide +kernel
theorem dX6_least_15 : decode cX6_least 15 = .ok (.isub, 1) := by decide +kernel
theorem dX6_least_16 : decode cX6_least 16 = .ok (.invokestatic 102, 3) := by decide +kernel
theorem dX6_least_19 : decode cX6_least 19 = .ok (.ifCond .eq 19, 3) := by decide +kernel
theorem dX6_least_22 : decode cX6_least 22 = .ok (.iload_n 3, 1) := by decide +kernel
theorem dX6_least_23 : decode cX6_least 23 = .ok (.iconst 1, 1) := by decide +kernel
theorem dX6_least_24 : decode cX6_least 24 = .ok (.iconst 3, 1) := by decide +kernel
theorem dX6_least_25 : decode cX6_least 25 = .ok (.aload_n 0, 1) := by decide +kernel
theorem dX6_least_26 : decode cX6_least 26 = .ok (.getfield 148, 3) := by decide +kernel
theorem dX6_least_29 : decode cX6_least 29 = .ok (.invokestatic 138, 3) := by decide +kernel
theorem dX6_least_32 : decode cX6_least 32 = .ok (.invokestatic 102, 3) := by decide +kernel
theorem dX6_least_35 : decode cX6_least 35 = .ok (.ifCond .ne 5, 3) := by decide +kernel
theorem dX6_least_38 : decode cX6_least 38 = .ok (.iconst (-1), 1) := by decide +kernel
theorem dX6_least_39 : decode cX6_least 39 = .ok (.ireturn, 1) := by decide +kernel
theorem dX6_least_40 : decode cX6_least 40 = .ok (.iconst 1, 1) := by decide +kernel
theorem dX6_least_41 : decode cX6_least 41 = .ok (.istore 4, 2) := by decide +kernel
theorem dX6_least_43 : decode cX6_least 43 = .ok (.iconst 0, 1) := by decide +kernel
theorem dX6_least_44 : decode cX6_least 44 = .ok (.istore 5, 2) := by decide +kernel
theorem dX6_least_46 : decode cX6_least 46 = .ok (.iload 5, 2) := by decide +kernel
theorem dX6_least_48 : decode cX6_least 48 = .ok (.iload_n 2, 1) := by decide +kernel
theorem dX6_least_49 : decode cX6_least 49 = .ok (.if_icmp .ge 30, 3) := by decide +kernel
theorem dX6_least_52 : decode cX6_least 52 = .ok (.aload_n 0, 1) := by decide +kernel
theorem dX6_least_53 : decode cX6_least 53 = .ok (.getfield 46, 3) := by decide +kernel
theorem dX6_least_56 : decode cX6_least 56 = .ok (.iload 5, 2) := by decide +kernel
theorem dX6_least_58 : decode cX6_least 58 = .ok (.aload_n 0, 1) := by decide +kernel
theorem dX6_least_59 : decode cX6_least 59 = .ok (.iload_n 1, 1) := by decide +kernel
theorem dX6_least_60 : decode cX6_least 60 = .ok (.iload 5, 2) := by decide +kernel
theorem dX6_least_62 : decode cX6_least 62 = .ok (.iadd, 1) := by decide +kernel
theorem dX6_least_63 : decode cX6_least 63 = .ok (.invokevirtual 158, 3) := by decide +kernel
theorem dX6_least_66 : decode cX6_least 66 = .ok (.iastore, 1) := by decide +kernel
theorem dX6_least_67 : decode cX6_least 67 = .ok (.iload 4, 2) := by decide +kernel
theorem dX6_least_69 : decode cX6_least 69 = .ok (.iload_n 3, 1) := by decide +kernel
theorem dX6_least_70 : decode cX6_least 70 = .ok (.imul, 1) := by decide +kernel
theorem dX6_least_71 : decode cX6_least 71 = .ok (.istore 4, 2) := by decide +kernel
theorem dX6_least_73 : decode cX6_least 73 = .ok (.iinc 5 1, 3) := by decide +kernel
theorem dX6_least_76 : decode cX6_least 76 = .ok (.goto (-30), 3) := by decide +kernel
theorem dX6_least_79 : decode cX6_least 79 = .ok (.iconst (-1), 1) := by decide +kernel
theorem dX6_least_80 : decode cX6_least 80 = .ok (.istore 5, 2) := by decide +kernel
theorem dX6_least_82 : decode cX6_least 82 = .ok (.iconst 0, 1) := by decide +kernel
theorem dX6_least_83 : decode cX6_least 83 = .ok (.istore 6, 2) := by decide +kernel
theorem dX6_least_85 : decode cX6_least 85 = .ok (.iload 6, 2) := by decide +kernel
theorem dX6_least_87 : decode cX6_least 87 = .ok (.iload 4, 2) := by decide +kernel
theorem dX6_least_89 : decode cX6_least 89 = .ok (.if_icmp .ge 143, 3) := by decide +kernel
theorem dX6_least_92 : decode cX6_least 92 = .ok (.iconst 0, 1) := by decide +kernel
theorem dX6_least_93 : decode cX6_least 93 = .ok (.istore 7, 2) := by decide +kernel
theorem dX6_least_95 : decode cX6_least 95 = .ok (.iload 7, 2) := by decide +kernel
theorem dX6_least_97 : decode cX6_least 97 = .ok (.iload_n 3, 1) := by decide +kernel
theorem dX6_least_98 : decode cX6_least 98 = .ok (.if_icmp .ge 17, 3) := by decide +kernel
theorem dX6_least_101 : decode cX6_least 101 = .ok (.aload_n 0, 1) := by decide +kernel
theorem dX6_least_102 : decode cX6_least 102 = .ok (.getfield 49, 3) := by decide +kernel
theorem dX6_least_105 : decode cX6_least 105 = .ok (.iload 7, 2) := by decide +kernel
theorem dX6_least_107 : decode cX6_least 107 = .ok (.iconst 0, 1) := by decide +kernel
theorem dX6_least_108 : decode cX6_least 108 = .ok (.iastore, 1) := by decide +kernel
theorem dX6_least_109 : decode cX6_least 109 = .ok (.iinc 7 1, 3) := by decide +kernel
theorem dX6_least_112 : decode cX6_least 112 = .ok (.goto (-17), 3) := by decide +kernel
theorem dX6_least_115 : decode cX6_least 115 = .ok (.iload 6, 2) := by decide +kernel
theorem dX6_least_117 : decode cX6_least 117 = .ok (.istore 7, 2) := by decide +kernel
theorem dX6_least_119 : decode cX6_least 119 = .ok (.iconst 0, 1) := by decide +kernel
theorem dX6_least_120 : decode cX6_least 120 = .ok (.istore 8, 2) := by decide +kernel
theorem dX6_least_122 : decode cX6_least 122 = .ok (.iload 8, 2) := by decide +kernel
theorem dX6_least_124 : decode cX6_least 124 = .ok (.iload_n 2, 1) := by decide +kernel
theorem dX6_least_125 : decode cX6_least 125 = .ok (.if_icmp .ge 34, 3) := by decide +kernel
theorem dX6_least_128 : decode cX6_least 128 = .ok (.aload_n 0, 1) := by decide +kernel
theorem dX6_least_129 : decode cX6_least 129 = .ok (.getfield 49, 3) := by decide +kernel
theorem dX6_least_132 : decode cX6_least 132 = .ok (.iload 7, 2) := by decide +kernel
theorem dX6_least_134 : decode cX6_least 134 = .ok (.iload_n 3, 1) := by decide +kernel
theorem dX6_least_135 : decode cX6_least 135 = .ok (.irem, 1) := by decide +kernel
theorem dX6_least_136 : decode cX6_least 136 = .ok (.dup2, 1) := by decide +kernel
theorem dX6_least_137 : decode cX6_least 137 = .ok (.iaload, 1) := by decide +kernel
theorem dX6_least_138 : decode cX6_least 138 = .ok (.aload_n 0, 1) := by decide +kernel
theorem dX6_least_139 : decode cX6_least 139 = .ok (.getfield 46, 3) := by decide +kernel
theorem dX6_least_142 : decode cX6_least 142 = .ok (.iload 8, 2) := by decide +kernel
theorem dX6_least_144 : decode cX6_least 144 = .ok (.iaload, 1) := by decide +kernel
theorem dX6_least_145 : decode cX6_least 145 = .ok (.iadd, 1) := by decide +kernel
theorem dX6_least_146 : decode cX6_least 146 = .ok (.iastore, 1) := by decide +kernel
theorem dX6_least_147 : decode cX6_least 147 = .ok (.iload 7, 2) := by decide +kernel
theorem dX6_least_149 : decode cX6_least 149 = .ok (.iload_n 3, 1) := by decide +kernel
theorem dX6_least_150 : decode cX6_least 150 = .ok (.idiv, 1) := by decide +kernel
theorem dX6_least_151 : decode cX6_least 151 = .ok (.istore 7, 2) := by decide +kernel
theorem dX6_least_153 : decode cX6_least 153 = .ok (.iinc 8 1, 3) := by decide +kernel
theorem dX6_least_156 : decode cX6_least 156 = .ok (.goto (-34), 3) := by decide +kernel
theorem dX6_least_159 : decode cX6_least 159 = .ok (.iconst 0, 1) := by decide +kernel
theorem dX6_least_160 : decode cX6_least 160 = .ok (.istore 8, 2) := by decide +kernel
theorem dX6_least_162 : decode cX6_least 162 = .ok (.iconst 0, 1) := by decide +kernel
theorem dX6_least_163 : decode cX6_least 163 = .ok (.istore 9, 2) := by decide +kernel
theorem dX6_least_165 : decode cX6_least 165 = .ok (.iload 9, 2) := by decide +kernel
theorem dX6_least_167 : decode cX6_least 167 = .ok (.iload_n 3, 1) := by decide +kernel
theorem dX6_least_168 : decode cX6_least 168 = .ok (.if_icmp .ge 41, 3) := by decide +kernel
theorem dX6_least_171 : decode cX6_least 171 = .ok (.iload 8, 2) := by decide +kernel
theorem dX6_least_173 : decode cX6_least 173 = .ok (.aload_n 0, 1) := by decide +kernel
theorem dX6_least_174 : decode cX6_least 174 = .ok (.getfield 49, 3) := by decide +kernel
theorem dX6_least_177 : decode cX6_least 177 = .ok (.iload 9, 2) := by decide +kernel
theorem dX6_least_179 : decode cX6_least 179 = .ok (.iaload, 1) := by decide +kernel
theorem dX6_least_180 : decode cX6_least 180 = .ok (.aload_n 0, 1) := by decide +kernel
theorem dX6_least_181 : decode cX6_least 181 = .ok (.getfield 21, 3) := by decide +kernel
theorem dX6_least_184 : decode cX6_least 184 = .ok (.iload 9, 2) := by decide +kernel
theorem dX6_least_186 : decode cX6_least 186 = .ok (.iaload, 1) := by decide +kernel
theorem dX6_least_187 : decode cX6_least 187 = .ok (.iadd, 1) := by decide +kernel
theorem dX6_least_188 : decode cX6_least 188 = .ok (.iconst 1, 1) := by decide +kernel
theorem dX6_least_189 : decode cX6_least 189 = .ok (.isub, 1) := by decide +kernel
theorem dX6_least_190 : decode cX6_least 190 = .ok (.aload_n 0, 1) := by decide +kernel
theorem dX6_least_191 : decode cX6_least 191 = .ok (.getfield 21, 3) := by decide +kernel
theorem dX6_least_194 : decode cX6_least 194 = .ok (.iload 9, 2) := by decide +kernel
theorem dX6_least_196 : decode cX6_least 196 = .ok (.iaload, 1) := by decide +kernel
theorem dX6_least_197 : decode cX6_least 197 = .ok (.idiv, 1) := by decide +kernel
theorem dX6_least_198 : decode cX6_least 198 = .ok (.invokestatic 119, 3) := by decide +kernel
theorem dX6_least_201 : decode cX6_least 201 = .ok (.istore 8, 2) := by decide +kernel
theorem dX6_least_203 : decode cX6_least 203 = .ok (.iinc 9 1, 3) := by decide +kernel
theorem dX6_least_206 : decode cX6_least 206 = .ok (.goto (-41), 3) := by decide +kernel
theorem dX6_least_209 : decode cX6_least 209 = .ok (.iload 5, 2) := by decide +kernel
theorem dX6_least_211 : decode cX6_least 211 = .ok (.iconst (-1), 1) := by decide +kernel
theorem dX6_least_212 : decode cX6_least 212 = .ok (.if_icmp .eq 10, 3) := by decide +kernel
theorem dX6_least_215 : decode cX6_least 215 = .ok (.iload 8, 2) := by decide +kernel
theorem dX6_least_217 : decode cX6_least 217 = .ok (.iload 5, 2) := by decide +kernel
theorem dX6_least_219 : decode cX6_least 219 = .ok (.if_icmp .ge 7, 3) := by decide +kernel
theorem dX6_least_222 : decode cX6_least 222 = .ok (.iload 8, 2) := by decide +kernel
theorem dX6_least_224 : decode cX6_least 224 = .ok (.istore 5, 2) := by decide +kernel
theorem dX6_least_226 : decode cX6_least 226 = .ok (.iinc 6 1, 3) := by decide +kernel
theorem dX6_least_229 : decode cX6_least 229 = .ok (.goto (-144), 3) := by decide +kernel
theorem dX6_least_232 : decode cX6_least 232 = .ok (.iload 5, 2) := by decide +kernel
theorem dX6_least_234 : decode cX6_least 234 = .ok (.ireturn, 1) := by decide +kernel
set_option maxRecDepth 20000 in
theorem ggX6_feed_X6_four : GoodIn wsX6_feed wsX6_four := goodIn_r _ [6, 7, 1, 8, 9, 10, 11, 12, 13, 14, 15, 16, 17, 18, 19, 20, 21, 22, 23, 24, 25, 26, 27, 28, 29, 30, 31, 32, 33, 34, 35, 36, 37, 38, 39, 40, 41, 42, 43, 44, 45, 46, 47, 48, 49] (by decide +kernel) (by decide +kernel)
set_option maxRecDepth 20000 in
theorem gX6_feed_X6_four : GoodIn wsX6_feed (wsV RX6 164 RX6 yX6_four wsX6_four) := goodIn_app (goodIn_of _ (by decide +kernel)) ggX6_feed_X6_four
theorem dX6_feed_0 : decode cX6_feed 0 = .ok (.aload_n 0, 1) := by decide +kernel
theorem dX6_feed_1 : decode cX6_feed 1 = .ok (.getfield 161, 3) := by decide +kernel
theorem dX6_feed_4 : decode cX6_feed 4 = .ok (.bipush 20, 2) := by decide +kernel
theorem dX6_feed_6 : decode cX6_feed 6 = .ok (.iadd, 1) := by decide +kernel
theorem dX6_feed_7 : decode cX6_feed 7 = .ok (.sipush 600, 3) := by decide +kernel
theorem dX6_feed_10 : decode cX6_feed 10 = .ok (.if_icmp .le 5, 3) := by decide +kernel
theorem dX6_feed_13 : decode cX6_feed 13 = .ok (.iconst (-1), 1) := by decide +kernel
theorem dX6_feed_14 : decode cX6_feed 14 = .ok (.ireturn, 1) := by decide +kernel
theorem dX6_feed_15 : decode cX6_feed 15 = .ok (.aload_n 0, 1) := by decide +kernel
theorem dX6_feed_16 : decode cX6_feed 16 = .ok (.iload_n 1, 1) := by decide +kernel
theorem dX6_feed_17 : decode cX6_feed 17 = .ok (.invokevirtual 164, 3) := by decide +kernel
theorem dX6_feed_20 : decode cX6_feed 20 = .ok (.aload_n 0, 1) := by decide +kernel
theorem dX6_feed_21 : decode cX6_feed 21 = .ok (.iload_n 2, 1) := by decide +kernel
theorem dX6_feed_22 : decode cX6_feed 22 = .ok (.invokevirtual 164, 3) := by decide +kernel
theorem dX6_feed_25 : decode cX6_feed 25 = .ok (.aload_n 0, 1) := by decide +kernel
theorem dX6_feed_26 : decode cX6_feed 26 = .ok (.iload_n 3, 1) := by decide +kernel
theorem dX6_feed_27 : decode cX6_feed 27 = .ok (.invokevirtual 164, 3) := by decide +kernel
theorem dX6_feed_30 : decode cX6_feed 30 = .ok (.aload_n 0, 1) := by decide +kernel
theorem dX6_feed_31 : decode cX6_feed 31 = .ok (.iload 4, 2) := by decide +kernel
theorem dX6_feed_33 : decode cX6_feed 33 = .ok (.invokevirtual 164, 3) := by decide +kernel
theorem dX6_feed_36 : decode cX6_feed 36 = .ok (.aload_n 0, 1) := by decide +kernel
theorem dX6_feed_37 : decode cX6_feed 37 = .ok (.iload 5, 2) := by decide +kernel
theorem dX6_feed_39 : decode cX6_feed 39 = .ok (.invokevirtual 164, 3) := by decide +kernel
theorem dX6_feed_42 : decode cX6_feed 42 = .ok (.aload_n 0, 1) := by decide +kernel
theorem dX6_feed_43 : decode cX6_feed 43 = .ok (.getfield 161, 3) := by decide +kernel
theorem dX6_feed_46 : decode cX6_feed 46 = .ok (.ireturn, 1) := by decide +kernel
theorem dX6_four_0 : decode cX6_four 0 = .ok (.bipush 24, 2) := by decide +kernel
theorem dX6_four_2 : decode cX6_four 2 = .ok (.istore_n 2, 1) := by decide +kernel
theorem dX6_four_3 : decode cX6_four 3 = .ok (.iload_n 2, 1) := by decide +kernel
theorem dX6_four_4 : decode cX6_four 4 = .ok (.ifCond .lt 32, 3) := by decide +kernel
theorem dX6_four_7 : decode cX6_four 7 = .ok (.aload_n 0, 1) := by decide +kernel
theorem dX6_four_8 : decode cX6_four 8 = .ok (.getfield 52, 3) := by decide +kernel
theorem dX6_four_11 : decode cX6_four 11 = .ok (.aload_n 0, 1) := by decide +kernel
theorem dX6_four_12 : decode cX6_four 12 = .ok (.getfield 161, 3) := by decide +kernel
theorem dX6_four_15 : decode cX6_four 15 = .ok (.iload_n 1, 1) := by decide +kernel
theorem dX6_four_16 : decode cX6_four 16 = .ok (.iload_n 2, 1) := by decide +kernel
theorem dX6_four_17 : decode cX6_four 17 = .ok (.ishr, 1) := by decide +kernel
theorem dX6_four_18 : decode cX6_four 18 = .ok (.i2b, 1) := by decide +kernel
theorem dX6_four_19 : decode cX6_four 19 = .ok (.bastore, 1) := by decide +kernel
theorem dX6_four_20 : decode cX6_four 20 = .ok (.aload_n 0, 1) := by decide +kernel
theorem dX6_four_21 : decode cX6_four 21 = .ok (.dup, 1) := by decide +kernel
theorem dX6_four_22 : decode cX6_four 22 = .ok (.getfield 161, 3) := by decide +kernel
theorem dX6_four_25 : decode cX6_four 25 = .ok (.iconst 1, 1) := by decide +kernel
theorem dX6_four_26 : decode cX6_four 26 = .ok (.iadd, 1) := by decide +kernel
theorem dX6_four_27 : decode cX6_four 27 = .ok (.putfield 161, 3) := by decide +kernel
theorem dX6_four_30 : decode cX6_four 30 = .ok (.iinc 2 (-8), 3) := by decide +kernel
theorem dX6_four_33 : decode cX6_four 33 = .ok (.goto (-30), 3) := by decide +kernel
theorem dX6_four_36 : decode cX6_four 36 = .ok (.return_, 1) := by decide +kernel
theorem dX6_blanks_0 : decode cX6_blanks 0 = .ok (.aload_n 0, 1) := by decide +kernel
theorem dX6_blanks_1 : decode cX6_blanks 1 = .ok (.getfield 168, 3) := by decide +kernel
theorem dX6_blanks_4 : decode cX6_blanks 4 = .ok (.aload_n 0, 1) := by decide +kernel
theorem dX6_blanks_5 : decode cX6_blanks 5 = .ok (.getfield 171, 3) := by decide +kernel
theorem dX6_blanks_8 : decode cX6_blanks 8 = .ok (.if_icmp .ge 44, 3) := by decide +kernel
theorem dX6_blanks_11 : decode cX6_blanks 11 = .ok (.aload_n 0, 1) := by decide +kernel
theorem dX6_blanks_12 : decode cX6_blanks 12 = .ok (.getfield 55, 3) := by decide +kernel
theorem dX6_blanks_15 : decode cX6_blanks 15 = .ok (.aload_n 0, 1) := by decide +kernel
theorem dX6_blanks_16 : decode cX6_blanks 16 = .ok (.getfield 168, 3) := by decide +kernel
theorem dX6_blanks_19 : decode cX6_blanks 19 = .ok (.baload, 1) := by decide +kernel
theorem dX6_blanks_20 : decode cX6_blanks 20 = .ok (.bipush 32, 2) := by decide +kernel
theorem dX6_blanks_22 : decode cX6_blanks 22 = .ok (.if_icmp .eq 17, 3) := by decide +kernel
theorem dX6_blanks_25 : decode cX6_blanks 25 = .ok (.aload_n 0, 1) := by decide +kernel
theorem dX6_blanks_26 : decode cX6_blanks 26 = .ok (.getfield 55, 3) := by decide +kernel
theorem dX6_blanks_29 : decode cX6_blanks 29 = .ok (.aload_n 0, 1) := by decide +kernel
theorem dX6_blanks_30 : decode cX6_blanks 30 = .ok (.getfield 168, 3) := by decide +kernel
theorem dX6_blanks_33 : decode cX6_blanks 33 = .ok (.baload, 1) := by decide +kernel
theorem dX6_blanks_34 : decode cX6_blanks 34 = .ok (.bipush 10, 2) := by decide +kernel
theorem dX6_blanks_36 : decode cX6_blanks 36 = .ok (.if_icmp .ne 16, 3) := by decide +kernel
theorem dX6_blanks_39 : decode cX6_blanks 39 = .ok (.aload_n 0, 1) := by decide +kernel
theorem dX6_blanks_40 : decode cX6_blanks 40 = .ok (.dup, 1) := by decide +kernel
theorem dX6_blanks_41 : decode cX6_blanks 41 = .ok (.getfield 168, 3) := by decide +kernel
theorem dX6_blanks_44 : decode cX6_blanks 44 = .ok (.iconst 1, 1) := by decide +kernel
theorem dX6_blanks_45 : decode cX6_blanks 45 = .ok (.iadd, 1) := by decide +kernel
theorem dX6_blanks_46 : decode cX6_blanks 46 = .ok (.putfield 168, 3) := by decide +kernel
theorem dX6_blanks_49 : decode cX6_blanks 49 = .ok (.goto (-49), 3) := by decide +kernel
theorem dX6_blanks_52 : decode cX6_blanks 52 = .ok (.return_, 1) := by decide +kernel
set_option maxRecDepth 20000 in
theorem ggX6_word_X6_blanks : GoodIn wsX6_word wsX6_blanks := goodIn_r _ [9, 1, 3, 4, 10, 11, 12, 13, 14, 15, 16, 17, 18, 19, 20, 21, 22, 23, 24, 25, 26, 27, 28, 29, 30, 31, 32, 33, 34, 35, 36, 37, 38, 39, 40, 41, 42, 43, 44, 45, 46, 47, 48, 49, 50, 51] (by decide +kernel) (by decide +kernel)
set_option maxRecDepth 20000 in
theorem gX6_word_X6_blanks : GoodIn wsX6_word (wsV RX6 174 RX6 yX6_blanks wsX6_blanks) := goodIn_app (goodIn_of _ (by decide +kernel)) ggX6_word_X6_blanks
theorem dX6_word_0 : decode cX6_word 0 = .ok (.aload_n 0, 1) := by decide +kernel
theorem dX6_word_1 : decode cX6_word 1 = .ok (.invokevirtual 174, 3) := by decide +kernel
theorem dX6_word_4 : decode cX6_word 4 = .ok (.aload_n 0, 1) := by decide +kernel
theorem dX6_word_5 : decode cX6_word 5 = .ok (.aload_n 0, 1) := by decide +kernel
theorem dX6_word_6 : decode cX6_word 6 = .ok (.getfield 168, 3) := by decide +kernel
theorem dX6_word_9 : decode cX6_word 9 = .ok (.putfield 177, 3) := by decide +kernel
theorem dX6_word_12 : decode cX6_word 12 = .ok (.lconst 0, 1) := by decide +kernel
theorem dX6_word_13 : decode cX6_word 13 = .ok (.lstore_n 1, 1) := by decide +kernel
theorem dX6_word_14 : decode cX6_word 14 = .ok (.aload_n 0, 1) := by decide +kernel
theorem dX6_word_15 : decode cX6_word 15 = .ok (.getfield 177, 3) := by decide +kernel
theorem dX6_word_18 : decode cX6_word 18 = .ok (.aload_n 0, 1) := by decide +kernel
theorem dX6_word_19 : decode cX6_word 19 = .ok (.getfield 171, 3) := by decide +kernel
theorem dX6_word_22 : decode cX6_word 22 = .ok (.if_icmp .ge 78, 3) := by decide +kernel
theorem dX6_word_25 : decode cX6_word 25 = .ok (.aload_n 0, 1) := by decide +kernel
theorem dX6_word_26 : decode cX6_word 26 = .ok (.getfield 55, 3) := by decide +kernel
theorem dX6_word_29 : decode cX6_word 29 = .ok (.aload_n 0, 1) := by decide +kernel
theorem dX6_word_30 : decode cX6_word 30 = .ok (.getfield 177, 3) := by decide +kernel
theorem dX6_word_33 : decode cX6_word 33 = .ok (.baload, 1) := by decide +kernel
theorem dX6_word_34 : decode cX6_word 34 = .ok (.bipush 97, 2) := by decide +kernel
theorem dX6_word_36 : decode cX6_word 36 = .ok (.if_icmp .lt 64, 3) := by decide +kernel
theorem dX6_word_39 : decode cX6_word 39 = .ok (.aload_n 0, 1) := by decide +kernel
theorem dX6_word_40 : decode cX6_word 40 = .ok (.getfield 55, 3) := by decide +kernel
theorem dX6_word_43 : decode cX6_word 43 = .ok (.aload_n 0, 1) := by decide +kernel
theorem dX6_word_44 : decode cX6_word 44 = .ok (.getfield 177, 3) := by decide +kernel
theorem dX6_word_47 : decode cX6_word 47 = .ok (.baload, 1) := by decide +kernel
theorem dX6_word_48 : decode cX6_word 48 = .ok (.bipush 122, 2) := by decide +kernel
theorem dX6_word_50 : decode cX6_word 50 = .ok (.if_icmp .gt 50, 3) := by decide +kernel
theorem dX6_word_53 : decode cX6_word 53 = .ok (.aload_n 0, 1) := by decide +kernel
theorem dX6_word_54 : decode cX6_word 54 = .ok (.getfield 177, 3) := by decide +kernel
theorem dX6_word_57 : decode cX6_word 57 = .ok (.aload_n 0, 1) := by decide +kernel
theorem dX6_word_58 : decode cX6_word 58 = .ok (.getfield 168, 3) := by decide +kernel
theorem dX6_word_61 : decode cX6_word 61 = .ok (.isub, 1) := by decide +kernel
theorem dX6_word_62 : decode cX6_word 62 = .ok (.bipush 7, 2) := by decide +kernel
theorem dX6_word_64 : decode cX6_word 64 = .ok (.if_icmp .ge 21, 3) := by decide +kernel
theorem dX6_word_67 : decode cX6_word 67 = .ok (.lload_n 1, 1) := by decide +kernel
theorem dX6_word_68 : decode cX6_word 68 = .ok (.bipush 8, 2) := by decide +kernel
theorem dX6_word_70 : decode cX6_word 70 = .ok (.lshl, 1) := by decide +kernel
theorem dX6_word_71 : decode cX6_word 71 = .ok (.aload_n 0, 1) := by decide +kernel
theorem dX6_word_72 : decode cX6_word 72 = .ok (.getfield 55, 3) := by decide +kernel
theorem dX6_word_75 : decode cX6_word 75 = .ok (.aload_n 0, 1) := by decide +kernel
theorem dX6_word_76 : decode cX6_word 76 = .ok (.getfield 177, 3) := by decide +kernel
theorem dX6_word_79 : decode cX6_word 79 = .ok (.baload, 1) := by decide +kernel
theorem dX6_word_80 : decode cX6_word 80 = .ok (.i2l, 1) := by decide +kernel
theorem dX6_word_81 : decode cX6_word 81 = .ok (.lor, 1) := by decide +kernel
theorem dX6_word_82 : decode cX6_word 82 = .ok (.goto 4, 3) := by decide +kernel
theorem dX6_word_85 : decode cX6_word 85 = .ok (.lconst 0, 1) := by decide +kernel
theorem dX6_word_86 : decode cX6_word 86 = .ok (.lstore_n 1, 1) := by decide +kernel
theorem dX6_word_87 : decode cX6_word 87 = .ok (.aload_n 0, 1) := by decide +kernel
theorem dX6_word_88 : decode cX6_word 88 = .ok (.dup, 1) := by decide +kernel
theorem dX6_word_89 : decode cX6_word 89 = .ok (.getfield 177, 3) := by decide +kernel
theorem dX6_word_92 : decode cX6_word 92 = .ok (.iconst 1, 1) := by decide +kernel
theorem dX6_word_93 : decode cX6_word 93 = .ok (.iadd, 1) := by decide +kernel
theorem dX6_word_94 : decode cX6_word 94 = .ok (.putfield 177, 3) := by decide +kernel
theorem dX6_word_97 : decode cX6_word 97 = .ok (.goto (-83), 3) := by decide +kernel
theorem dX6_word_100 : decode cX6_word 100 = .ok (.aload_n 0, 1) := by decide +kernel
theorem dX6_word_101 : decode cX6_word 101 = .ok (.getfield 177, 3) := by decide +kernel
theorem dX6_word_104 : decode cX6_word 104 = .ok (.aload_n 0, 1) := by decide +kernel
theorem dX6_word_105 : decode cX6_word 105 = .ok (.getfield 168, 3) := by decide +kernel
theorem dX6_word_108 : decode cX6_word 108 = .ok (.isub, 1) := by decide +kernel
theorem dX6_word_109 : decode cX6_word 109 = .ok (.bipush 7, 2) := by decide +kernel
theorem dX6_word_111 : decode cX6_word 111 = .ok (.if_icmp .le 7, 3) := by decide +kernel
theorem dX6_word_114 : decode cX6_word 114 = .ok (.lconst 0, 1) := by decide +kernel
theorem dX6_word_115 : decode cX6_word 115 = .ok (.goto 4, 3) := by decide +kernel
theorem dX6_word_118 : decode cX6_word 118 = .ok (.lload_n 1, 1) := by decide +kernel
theorem dX6_word_119 : decode cX6_word 119 = .ok (.lreturn, 1) := by decide +kernel
set_option maxRecDepth 20000 in
theorem ggX6_takes_X6_word : GoodIn wsX6_takes wsX6_word := goodIn_r _ [7, 2, 1, 8, 9, 10, 11, 12, 6, 13, 14, 15, 16, 17, 18, 19, 20, 21, 22, 23, 24, 25, 26, 27, 28, 29, 30, 31, 32, 33, 34, 35, 36, 37, 38, 39, 40, 41, 42, 43, 44, 45, 46, 47, 48, 49, 50, 51, 52, 53, 54, 55] (by decide +kernel) (by decide +kernel)
set_option maxRecDepth 20000 in
theorem gX6_takes_X6_word : GoodIn wsX6_takes (wsV RX6 180 RX6 yX6_word wsX6_word) := goodIn_app (goodIn_of _ (by decide +kernel)) ggX6_takes_X6_word
theorem dX6_takes_0 : decode cX6_takes 0 = .ok (.aload_n 0, 1) := by decide +kernel
theorem dX6_takes_1 : decode cX6_takes 1 = .ok (.invokevirtual 180, 3) := by decide +kernel
theorem dX6_takes_4 : decode cX6_takes 4 = .ok (.lload_n 1, 1) := by decide +kernel
theorem dX6_takes_5 : decode cX6_takes 5 = .ok (.lcmp, 1) := by decide +kernel
theorem dX6_takes_6 : decode cX6_takes 6 = .ok (.ifCond .eq 5, 3) := by decide +kernel
theorem dX6_takes_9 : decode cX6_takes 9 = .ok (.iconst 0, 1) := by decide +kernel
theorem dX6_takes_10 : decode cX6_takes 10 = .ok (.ireturn, 1) := by decide +kernel
theorem dX6_takes_11 : decode cX6_takes 11 = .ok (.aload_n 0, 1) := by decide +kernel
theorem dX6_takes_12 : decode cX6_takes 12 = .ok (.aload_n 0, 1) := by decide +kernel
theorem dX6_takes_13 : decode cX6_takes 13 = .ok (.getfield 177, 3) := by decide +kernel
theorem dX6_takes_16 : decode cX6_takes 16 = .ok (.putfield 168, 3) := by decide +kernel
theorem dX6_takes_19 : decode cX6_takes 19 = .ok (.iconst 1, 1) := by decide +kernel
theorem dX6_takes_20 : decode cX6_takes 20 = .ok (.ireturn, 1) := by decide +kernel
set_option maxRecDepth 20000 in
theorem ggX6_takesNumber_X6_blanks : GoodIn wsX6_takesNumber wsX6_blanks := goodIn_r _ [9, 1, 3, 4, 10, 11, 12, 13, 14, 15, 16, 17, 18, 19, 20, 21, 22, 23, 24, 25, 26, 27, 28, 29, 30, 31, 32, 33, 34, 35, 36, 37, 38, 39, 40, 41, 42, 43, 44, 45, 46, 47, 48, 49, 50, 51] (by decide +kernel) (by decide +kernel)
set_option maxRecDepth 20000 in
theorem gX6_takesNumber_X6_blanks : GoodIn wsX6_takesNumber (wsV RX6 174 RX6 yX6_blanks wsX6_blanks) := goodIn_app (goodIn_of _ (by decide +kernel)) ggX6_takesNumber_X6_blanks
theorem dX6_takesNumber_0 : decode cX6_takesNumber 0 = .ok (.aload_n 0, 1) := by decide +kernel
theorem dX6_takesNumber_1 : decode cX6_takesNumber 1 = .ok (.invokevirtual 174, 3) := by decide +kernel
theorem dX6_takesNumber_4 : decode cX6_takesNumber 4 = .ok (.aload_n 0, 1) := by decide +kernel
theorem dX6_takesNumber_5 : decode cX6_takesNumber 5 = .ok (.getfield 168, 3) := by decide +kernel
theorem dX6_takesNumber_8 : decode cX6_takesNumber 8 = .ok (.istore_n 2, 1) := by decide +kernel
theorem dX6_takesNumber_9 : decode cX6_takesNumber 9 = .ok (.aload_n 0, 1) := by decide +kernel
theorem dX6_takesNumber_10 : decode cX6_takesNumber 10 = .ok (.iconst 0, 1) := by decide +kernel
theorem dX6_takesNumber_11 : decode cX6_takesNumber 11 = .ok (.putfield 184, 3) := by decide +kernel
theorem dX6_takesNumber_14 : decode cX6_takesNumber 14 = .ok (.iload_n 2, 1) := by decide +kernel
theorem dX6_takesNumber_15 : decode cX6_takesNumber 15 = .ok (.aload_n 0, 1) := by decide +kernel
theorem dX6_takesNumber_16 : decode cX6_takesNumber 16 = .ok (.getfield 171, 3) := by decide +kernel
theorem dX6_takesNumber_19 : decode cX6_takesNumber 19 = .ok (.if_icmp .ge 62, 3) := by decide +kernel
theorem dX6_takesNumber_22 : decode cX6_takesNumber 22 = .ok (.aload_n 0, 1) := by decide +kernel
theorem dX6_takesNumber_23 : decode cX6_takesNumber 23 = .ok (.getfield 55, 3) := by decide +kernel
theorem dX6_takesNumber_26 : decode cX6_takesNumber 26 = .ok (.iload_n 2, 1) := by decide +kernel
theorem dX6_takesNumber_27 : decode cX6_takesNumber 27 = .ok (.baload, 1) := by decide +kernel
theorem dX6_takesNumber_28 : decode cX6_takesNumber 28 = .ok (.bipush 48, 2) := by decide +kernel
theorem dX6_takesNumber_30 : decode cX6_takesNumber 30 = .ok (.if_icmp .lt 51, 3) := by decide +kernel
theorem dX6_takesNumber_33 : decode cX6_takesNumber 33 = .ok (.aload_n 0, 1) := by decide +kernel
theorem dX6_takesNumber_34 : decode cX6_takesNumber 34 = .ok (.getfield 55, 3) := by decide +kernel
theorem dX6_takesNumber_37 : decode cX6_takesNumber 37 = .ok (.iload_n 2, 1) := by decide +kernel
theorem dX6_takesNumber_38 : decode cX6_takesNumber 38 = .ok (.baload, 1) := by decide +kernel
theorem dX6_takesNumber_39 : decode cX6_takesNumber 39 = .ok (.bipush 57, 2) := by decide +kernel
theorem dX6_takesNumber_41 : decode cX6_takesNumber 41 = .ok (.if_icmp .gt 40, 3) := by decide +kernel
theorem dX6_takesNumber_44 : decode cX6_takesNumber 44 = .ok (.iload_n 2, 1) := by decide +kernel
theorem dX6_takesNumber_45 : decode cX6_takesNumber 45 = .ok (.aload_n 0, 1) := by decide +kernel
theorem dX6_takesNumber_46 : decode cX6_takesNumber 46 = .ok (.getfield 168, 3) := by decide +kernel
theorem dX6_takesNumber_49 : decode cX6_takesNumber 49 = .ok (.isub, 1) := by decide +kernel
theorem dX6_takesNumber_50 : decode cX6_takesNumber 50 = .ok (.iconst 5, 1) := by decide +kernel
theorem dX6_takesNumber_51 : decode cX6_takesNumber 51 = .ok (.if_icmp .ge 24, 3) := by decide +kernel
theorem dX6_takesNumber_54 : decode cX6_takesNumber 54 = .ok (.aload_n 0, 1) := by decide +kernel
theorem dX6_takesNumber_55 : decode cX6_takesNumber 55 = .ok (.bipush 10, 2) := by decide +kernel
theorem dX6_takesNumber_57 : decode cX6_takesNumber 57 = .ok (.aload_n 0, 1) := by decide +kernel
theorem dX6_takesNumber_58 : decode cX6_takesNumber 58 = .ok (.getfield 184, 3) := by decide +kernel
theorem dX6_takesNumber_61 : decode cX6_takesNumber 61 = .ok (.imul, 1) := by decide +kernel
theorem dX6_takesNumber_62 : decode cX6_takesNumber 62 = .ok (.aload_n 0, 1) := by decide +kernel
theorem dX6_takesNumber_63 : decode cX6_takesNumber 63 = .ok (.getfield 55, 3) := by decide +kernel
theorem dX6_takesNumber_66 : decode cX6_takesNumber 66 = .ok (.iload_n 2, 1) := by decide +kernel
theorem dX6_takesNumber_67 : decode cX6_takesNumber 67 = .ok (.baload, 1) := by decide +kernel
theorem dX6_takesNumber_68 : decode cX6_takesNumber 68 = .ok (.iadd, 1) := by decide +kernel
theorem dX6_takesNumber_69 : decode cX6_takesNumber 69 = .ok (.bipush 48, 2) := by decide +kernel
theorem dX6_takesNumber_71 : decode cX6_takesNumber 71 = .ok (.isub, 1) := by decide +kernel
theorem dX6_takesNumber_72 : decode cX6_takesNumber 72 = .ok (.putfield 184, 3) := by decide +kernel
theorem dX6_takesNumber_75 : decode cX6_takesNumber 75 = .ok (.iinc 2 1, 3) := by decide +kernel
theorem dX6_takesNumber_78 : decode cX6_takesNumber 78 = .ok (.goto (-64), 3) := by decide +kernel
theorem dX6_takesNumber_81 : decode cX6_takesNumber 81 = .ok (.iload_n 2, 1) := by decide +kernel
theorem dX6_takesNumber_82 : decode cX6_takesNumber 82 = .ok (.aload_n 0, 1) := by decide +kernel
theorem dX6_takesNumber_83 : decode cX6_takesNumber 83 = .ok (.getfield 168, 3) := by decide +kernel
theorem dX6_takesNumber_86 : decode cX6_takesNumber 86 = .ok (.if_icmp .eq 21, 3) := by decide +kernel
theorem dX6_takesNumber_89 : decode cX6_takesNumber 89 = .ok (.iload_n 2, 1) := by decide +kernel
theorem dX6_takesNumber_90 : decode cX6_takesNumber 90 = .ok (.aload_n 0, 1) := by decide +kernel
theorem dX6_takesNumber_91 : decode cX6_takesNumber 91 = .ok (.getfield 168, 3) := by decide +kernel
theorem dX6_takesNumber_94 : decode cX6_takesNumber 94 = .ok (.isub, 1) := by decide +kernel
theorem dX6_takesNumber_95 : decode cX6_takesNumber 95 = .ok (.iconst 5, 1) := by decide +kernel
theorem dX6_takesNumber_96 : decode cX6_takesNumber 96 = .ok (.if_icmp .gt 11, 3) := by decide +kernel
theorem dX6_takesNumber_99 : decode cX6_takesNumber 99 = .ok (.aload_n 0, 1) := by decide +kernel
theorem dX6_takesNumber_100 : decode cX6_takesNumber 100 = .ok (.getfield 184, 3) := by decide +kernel
theorem dX6_takesNumber_103 : decode cX6_takesNumber 103 = .ok (.iload_n 1, 1) := by decide +kernel
theorem dX6_takesNumber_104 : decode cX6_takesNumber 104 = .ok (.if_icmp .le 5, 3) := by decide +kernel
theorem dX6_takesNumber_107 : decode cX6_takesNumber 107 = .ok (.iconst 0, 1) := by decide +kernel
theorem dX6_takesNumber_108 : decode cX6_takesNumber 108 = .ok (.ireturn, 1) := by decide +kernel
theorem dX6_takesNumber_109 : decode cX6_takesNumber 109 = .ok (.aload_n 0, 1) := by decide +kernel
theorem dX6_takesNumber_110 : decode cX6_takesNumber 110 = .ok (.iload_n 2, 1) := by decide +kernel
theorem dX6_takesNumber_111 : decode cX6_takesNumber 111 = .ok (.putfield 168, 3) := by decide +kernel
theorem dX6_takesNumber_114 : decode cX6_takesNumber 114 = .ok (.iconst 1, 1) := by decide +kernel
theorem dX6_takesNumber_115 : decode cX6_takesNumber 115 = .ok (.ireturn, 1) := by decide +kernel
set_option maxRecDepth 20000 in
theorem ggX6_test_X6_word : GoodIn wsX6_test wsX6_word := goodIn_r _ [17, 6, 5, 7, 8, 18, 19, 20, 16, 21, 26, 27, 28, 29, 30, 31, 32, 33, 34, 35, 36, 37, 38, 39, 40, 41, 42, 43, 44, 45, 46, 47, 48, 49, 50, 51, 52, 53, 54, 55, 56, 57, 58, 59, 60, 61, 62, 63, 64, 65, 66, 67] (by decide +kernel) (by decide +kernel)
set_option maxRecDepth 20000 in
theorem gX6_test_X6_word : GoodIn wsX6_test (wsV RX6 180 RX6 yX6_word wsX6_word) := goodIn_app (goodIn_of _ (by decide +kernel)) ggX6_test_X6_word
set_option maxRecDepth 20000 in
theorem ggX6_test_X6_blanks : GoodIn wsX6_test wsX6_blanks := goodIn_r _ [21, 6, 7, 8, 26, 27, 28, 29, 30, 31, 32, 33, 34, 35, 36, 37, 38, 39, 40, 41, 42, 43, 44, 45, 46, 47, 48, 49, 50, 51, 52, 53, 54, 55, 56, 57, 58, 59, 60, 61, 62, 63, 64, 65, 66, 67] (by decide +kernel) (by decide +kernel)
set_option maxRecDepth 20000 in
theorem gX6_test_X6_blanks : GoodIn wsX6_test (wsV RX6 174 RX6 yX6_blanks wsX6_blanks) := goodIn_app (goodIn_of _ (by decide +kernel)) ggX6_test_X6_blanks
set_option maxRecDepth 20000 in
theorem ggX6_test_X6_takesNumber : GoodIn wsX6_test wsX6_takesNumber := goodIn_r _ [25, 6, 12, 7, 8, 18, 19, 20, 16, 21, 26, 27, 28, 29, 30, 31, 32, 33, 34, 35, 36, 37, 38, 39, 40, 41, 42, 43, 44, 45, 46, 47, 48, 49, 50, 51, 52, 53, 54, 55, 56, 57, 58, 59, 60, 61, 62, 63, 64, 65, 66, 67] (by decide +kernel) (by decide +kernel)
set_option maxRecDepth 20000 in
theorem gX6_test_X6_takesNumber : GoodIn wsX6_test (wsV RX6 194 RX6 yX6_takesNumber wsX6_takesNumber) := goodIn_app (goodIn_of _ (by decide +kernel)) ggX6_test_X6_takesNumber
theorem dX6_test_0 : decode cX6_test 0 = .ok (.aload_n 0, 1) := by decide +kernel
theorem dX6_test_1 : decode cX6_test 1 = .ok (.invokevirtual 180, 3) := by decide +kernel
theorem dX6_test_4 : decode cX6_test 4 = .ok (.lstore_n 2, 1) := by decide +kernel
theorem dX6_test_5 : decode cX6_test 5 = .ok (.aload_n 0, 1) := by decide +kernel
theorem dX6_test_6 : decode cX6_test 6 = .ok (.getfield 74, 3) := by decide +kernel
theorem dX6_test_9 : decode cX6_test 9 = .ok (.iload_n 1, 1) := by decide +kernel
theorem dX6_test_10 : decode cX6_test 10 = .ok (.lload_n 2, 1) := by decide +kernel
theorem dX6_test_11 : decode cX6_test 11 = .ok (.ldc2_w 187, 3) := by decide +kernel
theorem dX6_test_14 : decode cX6_test 14 = .ok (.lcmp, 1) := by decide +kernel
theorem dX6_test_15 : decode cX6_test 15 = .ok (.ifCond .ne 7, 3) := by decide +kernel
theorem dX6_test_18 : decode cX6_test 18 = .ok (.iconst 0, 1) := by decide +kernel
theorem dX6_test_19 : decode cX6_test 19 = .ok (.goto 28, 3) := by decide +kernel
theorem dX6_test_22 : decode cX6_test 22 = .ok (.lload_n 2, 1) := by decide +kernel
theorem dX6_test_23 : decode cX6_test 23 = .ok (.ldc2_w 189, 3) := by decide +kernel
theorem dX6_test_26 : decode cX6_test 26 = .ok (.lcmp, 1) := by decide +kernel
theorem dX6_test_27 : decode cX6_test 27 = .ok (.ifCond .ne 7, 3) := by decide +kernel
theorem dX6_test_30 : decode cX6_test 30 = .ok (.iconst 1, 1) := by decide +kernel
theorem dX6_test_31 : decode cX6_test 31 = .ok (.goto 16, 3) := by decide +kernel
theorem dX6_test_34 : decode cX6_test 34 = .ok (.lload_n 2, 1) := by decide +kernel
theorem dX6_test_35 : decode cX6_test 35 = .ok (.ldc2_w 191, 3) := by decide +kernel
theorem dX6_test_38 : decode cX6_test 38 = .ok (.lcmp, 1) := by decide +kernel
theorem dX6_test_39 : decode cX6_test 39 = .ok (.ifCond .ne 7, 3) := by decide +kernel
theorem dX6_test_42 : decode cX6_test 42 = .ok (.iconst 2, 1) := by decide +kernel
theorem dX6_test_43 : decode cX6_test 43 = .ok (.goto 4, 3) := by decide +kernel
theorem dX6_test_46 : decode cX6_test 46 = .ok (.iconst (-1), 1) := by decide +kernel
theorem dX6_test_47 : decode cX6_test 47 = .ok (.iastore, 1) := by decide +kernel
theorem dX6_test_48 : decode cX6_test 48 = .ok (.aload_n 0, 1) := by decide +kernel
theorem dX6_test_49 : decode cX6_test 49 = .ok (.getfield 74, 3) := by decide +kernel
theorem dX6_test_52 : decode cX6_test 52 = .ok (.iload_n 1, 1) := by decide +kernel
theorem dX6_test_53 : decode cX6_test 53 = .ok (.iaload, 1) := by decide +kernel
theorem dX6_test_54 : decode cX6_test 54 = .ok (.iconst (-1), 1) := by decide +kernel
theorem dX6_test_55 : decode cX6_test 55 = .ok (.if_icmp .ne 5, 3) := by decide +kernel
theorem dX6_test_58 : decode cX6_test 58 = .ok (.iconst 0, 1) := by decide +kernel
theorem dX6_test_59 : decode cX6_test 59 = .ok (.ireturn, 1) := by decide +kernel
theorem dX6_test_60 : decode cX6_test 60 = .ok (.aload_n 0, 1) := by decide +kernel
theorem dX6_test_61 : decode cX6_test 61 = .ok (.aload_n 0, 1) := by decide +kernel
theorem dX6_test_62 : decode cX6_test 62 = .ok (.getfield 177, 3) := by decide +kernel
theorem dX6_test_65 : decode cX6_test 65 = .ok (.putfield 168, 3) := by decide +kernel
theorem dX6_test_68 : decode cX6_test 68 = .ok (.aload_n 0, 1) := by decide +kernel
theorem dX6_test_69 : decode cX6_test 69 = .ok (.invokevirtual 174, 3) := by decide +kernel
theorem dX6_test_72 : decode cX6_test 72 = .ok (.aload_n 0, 1) := by decide +kernel
theorem dX6_test_73 : decode cX6_test 73 = .ok (.getfield 168, 3) := by decide +kernel
theorem dX6_test_76 : decode cX6_test 76 = .ok (.aload_n 0, 1) := by decide +kernel
theorem dX6_test_77 : decode cX6_test 77 = .ok (.getfield 171, 3) := by decide +kernel
theorem dX6_test_80 : decode cX6_test 80 = .ok (.if_icmp .eq 45, 3) := by decide +kernel
theorem dX6_test_83 : decode cX6_test 83 = .ok (.aload_n 0, 1) := by decide +kernel
theorem dX6_test_84 : decode cX6_test 84 = .ok (.getfield 55, 3) := by decide +kernel
theorem dX6_test_87 : decode cX6_test 87 = .ok (.aload_n 0, 1) := by decide +kernel
theorem dX6_test_88 : decode cX6_test 88 = .ok (.getfield 168, 3) := by decide +kernel
theorem dX6_test_91 : decode cX6_test 91 = .ok (.baload, 1) := by decide +kernel
theorem dX6_test_92 : decode cX6_test 92 = .ok (.bipush 60, 2) := by decide +kernel
theorem dX6_test_94 : decode cX6_test 94 = .ok (.if_icmp .eq 33, 3) := by decide +kernel
theorem dX6_test_97 : decode cX6_test 97 = .ok (.aload_n 0, 1) := by decide +kernel
theorem dX6_test_98 : decode cX6_test 98 = .ok (.getfield 55, 3) := by decide +kernel
theorem dX6_test_101 : decode cX6_test 101 = .ok (.aload_n 0, 1) := by decide +kernel
theorem dX6_test_102 : decode cX6_test 102 = .ok (.getfield 168, 3) := by decide +kernel
theorem dX6_test_105 : decode cX6_test 105 = .ok (.baload, 1) := by decide +kernel
theorem dX6_test_106 : decode cX6_test 106 = .ok (.bipush 62, 2) := by decide +kernel
theorem dX6_test_108 : decode cX6_test 108 = .ok (.if_icmp .eq 19, 3) := by decide +kernel
theorem dX6_test_111 : decode cX6_test 111 = .ok (.aload_n 0, 1) := by decide +kernel
theorem dX6_test_112 : decode cX6_test 112 = .ok (.getfield 55, 3) := by decide +kernel
theorem dX6_test_115 : decode cX6_test 115 = .ok (.aload_n 0, 1) := by decide +kernel
theorem dX6_test_116 : decode cX6_test 116 = .ok (.getfield 168, 3) := by decide +kernel
theorem dX6_test_119 : decode cX6_test 119 = .ok (.baload, 1) := by decide +kernel
theorem dX6_test_120 : decode cX6_test 120 = .ok (.bipush 61, 2) := by decide +kernel
theorem dX6_test_122 : decode cX6_test 122 = .ok (.if_icmp .eq 5, 3) := by decide +kernel
theorem dX6_test_125 : decode cX6_test 125 = .ok (.iconst 0, 1) := by decide +kernel
theorem dX6_test_126 : decode cX6_test 126 = .ok (.ireturn, 1) := by decide +kernel
theorem dX6_test_127 : decode cX6_test 127 = .ok (.aload_n 0, 1) := by decide +kernel
theorem dX6_test_128 : decode cX6_test 128 = .ok (.getfield 77, 3) := by decide +kernel
theorem dX6_test_131 : decode cX6_test 131 = .ok (.iload_n 1, 1) := by decide +kernel
theorem dX6_test_132 : decode cX6_test 132 = .ok (.aload_n 0, 1) := by decide +kernel
theorem dX6_test_133 : decode cX6_test 133 = .ok (.getfield 55, 3) := by decide +kernel
theorem dX6_test_136 : decode cX6_test 136 = .ok (.aload_n 0, 1) := by decide +kernel
theorem dX6_test_137 : decode cX6_test 137 = .ok (.getfield 168, 3) := by decide +kernel
theorem dX6_test_140 : decode cX6_test 140 = .ok (.baload, 1) := by decide +kernel
theorem dX6_test_141 : decode cX6_test 141 = .ok (.iastore, 1) := by decide +kernel
theorem dX6_test_142 : decode cX6_test 142 = .ok (.aload_n 0, 1) := by decide +kernel
theorem dX6_test_143 : decode cX6_test 143 = .ok (.dup, 1) := by decide +kernel
theorem dX6_test_144 : decode cX6_test 144 = .ok (.getfield 168, 3) := by decide +kernel
theorem dX6_test_147 : decode cX6_test 147 = .ok (.iconst 1, 1) := by decide +kernel
theorem dX6_test_148 : decode cX6_test 148 = .ok (.iadd, 1) := by decide +kernel
theorem dX6_test_149 : decode cX6_test 149 = .ok (.putfield 168, 3) := by decide +kernel
theorem dX6_test_152 : decode cX6_test 152 = .ok (.aload_n 0, 1) := by decide +kernel
theorem dX6_test_153 : decode cX6_test 153 = .ok (.ldc 193, 2) := by decide +kernel
theorem dX6_test_155 : decode cX6_test 155 = .ok (.invokevirtual 194, 3) := by decide +kernel
theorem dX6_test_158 : decode cX6_test 158 = .ok (.ifCond .ne 5, 3) := by decide +kernel
theorem dX6_test_161 : decode cX6_test 161 = .ok (.iconst 0, 1) := by decide +kernel
theorem dX6_test_162 : decode cX6_test 162 = .ok (.ireturn, 1) := by decide +kernel
theorem dX6_test_163 : decode cX6_test 163 = .ok (.aload_n 0, 1) := by decide +kernel
theorem dX6_test_164 : decode cX6_test 164 = .ok (.getfield 80, 3) := by decide +kernel
theorem dX6_test_167 : decode cX6_test 167 = .ok (.iload_n 1, 1) := by decide +kernel
theorem dX6_test_168 : decode cX6_test 168 = .ok (.aload_n 0, 1) := by decide +kernel
theorem dX6_test_169 : decode cX6_test 169 = .ok (.getfield 184, 3) := by decide +kernel
theorem dX6_test_172 : decode cX6_test 172 = .ok (.iastore, 1) := by decide +kernel
theorem dX6_test_173 : decode cX6_test 173 = .ok (.iconst 1, 1) := by decide +kernel
theorem dX6_test_174 : decode cX6_test 174 = .ok (.ireturn, 1) := by decide +kernel
set_option maxRecDepth 20000 in
theorem ggX6_statement_X6_takes : GoodIn wsX6_statement wsX6_takes := goodIn_r _ [18, 19, 11, 20, 21, 22, 17, 23, 12, 13, 24, 25, 26, 27, 42, 43, 44, 45, 46, 47, 48, 49, 50, 51, 52, 53, 54, 55, 56, 57, 58, 59, 60, 61, 62, 63, 64, 65, 66, 67, 68, 69, 70, 71, 72, 73, 74, 75, 76, 77, 78, 79, 80, 81, 82, 83] (by decide +kernel) (by decide +kernel)
set_option maxRecDepth 20000 in
theorem gX6_statement_X6_takes : GoodIn wsX6_statement (wsV RX6 199 RX6 yX6_takes wsX6_takes) := goodIn_app (goodIn_of _ (by decide +kernel)) ggX6_statement_X6_takes
set_option maxRecDepth 20000 in
theorem ggX6_statement_X6_takesNumber : GoodIn wsX6_statement wsX6_takesNumber := goodIn_r _ [31, 11, 8, 12, 13, 24, 25, 26, 17, 27, 42, 43, 44, 45, 46, 47, 48, 49, 50, 51, 52, 53, 54, 55, 56, 57, 58, 59, 60, 61, 62, 63, 64, 65, 66, 67, 68, 69, 70, 71, 72, 73, 74, 75, 76, 77, 78, 79, 80, 81, 82, 83] (by decide +kernel) (by decide +kernel)
set_option maxRecDepth 20000 in
theorem gX6_statement_X6_takesNumber : GoodIn wsX6_statement (wsV RX6 194 RX6 yX6_takesNumber wsX6_takesNumber) := goodIn_app (goodIn_of _ (by decide +kernel)) ggX6_statement_X6_takesNumber
set_option maxRecDepth 20000 in
theorem ggX6_statement_X6_blanks : GoodIn wsX6_statement wsX6_blanks := goodIn_r _ [27, 11, 12, 13, 42, 43, 44, 45, 46, 47, 48, 49, 50, 51, 52, 53, 54, 55, 56, 57, 58, 59, 60, 61, 62, 63, 64, 65, 66, 67, 68, 69, 70, 71, 72, 73, 74, 75, 76, 77, 78, 79, 80, 81, 82, 83] (by decide +kernel) (by decide +kernel)
set_option maxRecDepth 20000 in
theorem gX6_statement_X6_blanks : GoodIn wsX6_statement (wsV RX6 174 RX6 yX6_blanks wsX6_blanks) := goodIn_app (goodIn_of _ (by decide +kernel)) ggX6_statement_X6_blanks
set_option maxRecDepth 20000 in
theorem ggX6_statement_X6_test : GoodIn wsX6_statement wsX6_test := goodIn_r _ [35, 36, 37, 38, 39, 19, 11, 12, 13, 40, 6, 41, 8, 20, 21, 22, 17, 23, 24, 25, 26, 27, 28, 29, 30, 31, 42, 43, 44, 45, 46, 47, 48, 49, 50, 51, 52, 53, 54, 55, 56, 57, 58, 59, 60, 61, 62, 63, 64, 65, 66, 67, 68, 69, 70, 71, 72, 73, 74, 75, 76, 77, 78, 79, 80, 81, 82, 83] (by decide +kernel) (by decide +kernel)
set_option maxRecDepth 20000 in
theorem gX6_statement_X6_test : GoodIn wsX6_statement (wsV RX6 209 RX6 yX6_test wsX6_test) := goodIn_app (goodIn_of _ (by decide +kernel)) ggX6_statement_X6_test
theorem dX6_statement_0 : decode cX6_statement 0 = .ok (.aload_n 0, 1) := by decide +kernel
theorem dX6_statement_1 : decode cX6_statement 1 = .ok (.getfield 71, 3) := by decide +kernel
theorem dX6_statement_4 : decode cX6_statement 4 = .ok (.iload_n 1, 1) := by decide +kernel
theorem dX6_statement_5 : decode cX6_statement 5 = .ok (.iconst 0, 1) := by decide +kernel
theorem dX6_statement_6 : decode cX6_statement 6 = .ok (.iastore, 1) := by decide +kernel
theorem dX6_statement_7 : decode cX6_statement 7 = .ok (.aload_n 0, 1) := by decide +kernel
theorem dX6_statement_8 : decode cX6_statement 8 = .ok (.getfield 65, 3) := by decide +kernel
theorem dX6_statement_11 : decode cX6_statement 11 = .ok (.iload_n 1, 1) := by decide +kernel
theorem dX6_statement_12 : decode cX6_statement 12 = .ok (.aload_n 0, 1) := by decide +kernel
theorem dX6_statement_13 : decode cX6_statement 13 = .ok (.ldc2_w 197, 3) := by decide +kernel
theorem dX6_statement_16 : decode cX6_statement 16 = .ok (.invokevirtual 199, 3) := by decide +kernel
theorem dX6_statement_19 : decode cX6_statement 19 = .ok (.ifCond .eq 7, 3) := by decide +kernel
theorem dX6_statement_22 : decode cX6_statement 22 = .ok (.iconst 0, 1) := by decide +kernel
theorem dX6_statement_23 : decode cX6_statement 23 = .ok (.goto 32, 3) := by decide +kernel
theorem dX6_statement_26 : decode cX6_statement 26 = .ok (.aload_n 0, 1) := by decide +kernel
theorem dX6_statement_27 : decode cX6_statement 27 = .ok (.ldc2_w 203, 3) := by decide +kernel
theorem dX6_statement_30 : decode cX6_statement 30 = .ok (.invokevirtual 199, 3) := by decide +kernel
theorem dX6_statement_33 : decode cX6_statement 33 = .ok (.ifCond .eq 7, 3) := by decide +kernel
theorem dX6_statement_36 : decode cX6_statement 36 = .ok (.iconst 1, 1) := by decide +kernel
theorem dX6_statement_37 : decode cX6_statement 37 = .ok (.goto 18, 3) := by decide +kernel
theorem dX6_statement_40 : decode cX6_statement 40 = .ok (.aload_n 0, 1) := by decide +kernel
theorem dX6_statement_41 : decode cX6_statement 41 = .ok (.ldc2_w 205, 3) := by decide +kernel
theorem dX6_statement_44 : decode cX6_statement 44 = .ok (.invokevirtual 199, 3) := by decide +kernel
theorem dX6_statement_47 : decode cX6_statement 47 = .ok (.ifCond .eq 7, 3) := by decide +kernel
theorem dX6_statement_50 : decode cX6_statement 50 = .ok (.iconst 2, 1) := by decide +kernel
theorem dX6_statement_51 : decode cX6_statement 51 = .ok (.goto 4, 3) := by decide +kernel
theorem dX6_statement_54 : decode cX6_statement 54 = .ok (.iconst (-1), 1) := by decide +kernel
theorem dX6_statement_55 : decode cX6_statement 55 = .ok (.iastore, 1) := by decide +kernel
theorem dX6_statement_56 : decode cX6_statement 56 = .ok (.aload_n 0, 1) := by decide +kernel
theorem dX6_statement_57 : decode cX6_statement 57 = .ok (.getfield 65, 3) := by decide +kernel
theorem dX6_statement_60 : decode cX6_statement 60 = .ok (.iload_n 1, 1) := by decide +kernel
theorem dX6_statement_61 : decode cX6_statement 61 = .ok (.iaload, 1) := by decide +kernel
theorem dX6_statement_62 : decode cX6_statement 62 = .ok (.iconst (-1), 1) := by decide +kernel
theorem dX6_statement_63 : decode cX6_statement 63 = .ok (.if_icmp .eq 27, 3) := by decide +kernel
theorem dX6_statement_66 : decode cX6_statement 66 = .ok (.aload_n 0, 1) := by decide +kernel
theorem dX6_statement_67 : decode cX6_statement 67 = .ok (.aload_n 0, 1) := by decide +kernel
theorem dX6_statement_68 : decode cX6_statement 68 = .ok (.getfield 65, 3) := by decide +kernel
theorem dX6_statement_71 : decode cX6_statement 71 = .ok (.iload_n 1, 1) := by decide +kernel
theorem dX6_statement_72 : decode cX6_statement 72 = .ok (.iaload, 1) := by decide +kernel
theorem dX6_statement_73 : decode cX6_statement 73 = .ok (.iconst 2, 1) := by decide +kernel
theorem dX6_statement_74 : decode cX6_statement 74 = .ok (.if_icmp .ne 8, 3) := by decide +kernel
theorem dX6_statement_77 : decode cX6_statement 77 = .ok (.bipush 100, 2) := by decide +kernel
theorem dX6_statement_79 : decode cX6_statement 79 = .ok (.goto 5, 3) := by decide +kernel
theorem dX6_statement_82 : decode cX6_statement 82 = .ok (.ldc 193, 2) := by decide +kernel
theorem dX6_statement_84 : decode cX6_statement 84 = .ok (.invokevirtual 194, 3) := by decide +kernel
theorem dX6_statement_87 : decode cX6_statement 87 = .ok (.ifCond .ne 5, 3) := by decide +kernel
theorem dX6_statement_90 : decode cX6_statement 90 = .ok (.iconst 0, 1) := by decide +kernel
theorem dX6_statement_91 : decode cX6_statement 91 = .ok (.ireturn, 1) := by decide +kernel
theorem dX6_statement_92 : decode cX6_statement 92 = .ok (.aload_n 0, 1) := by decide +kernel
theorem dX6_statement_93 : decode cX6_statement 93 = .ok (.getfield 68, 3) := by decide +kernel
theorem dX6_statement_96 : decode cX6_statement 96 = .ok (.iload_n 1, 1) := by decide +kernel
theorem dX6_statement_97 : decode cX6_statement 97 = .ok (.aload_n 0, 1) := by decide +kernel
theorem dX6_statement_98 : decode cX6_statement 98 = .ok (.getfield 184, 3) := by decide +kernel
theorem dX6_statement_101 : decode cX6_statement 101 = .ok (.iastore, 1) := by decide +kernel
theorem dX6_statement_102 : decode cX6_statement 102 = .ok (.aload_n 0, 1) := by decide +kernel
theorem dX6_statement_103 : decode cX6_statement 103 = .ok (.getfield 65, 3) := by decide +kernel
theorem dX6_statement_106 : decode cX6_statement 106 = .ok (.iload_n 1, 1) := by decide +kernel
theorem dX6_statement_107 : decode cX6_statement 107 = .ok (.iaload, 1) := by decide +kernel
theorem dX6_statement_108 : decode cX6_statement 108 = .ok (.iconst 2, 1) := by decide +kernel
theorem dX6_statement_109 : decode cX6_statement 109 = .ok (.if_icmp .ne 17, 3) := by decide +kernel
theorem dX6_statement_112 : decode cX6_statement 112 = .ok (.aload_n 0, 1) := by decide +kernel
theorem dX6_statement_113 : decode cX6_statement 113 = .ok (.ldc2_w 207, 3) := by decide +kernel
theorem dX6_statement_116 : decode cX6_statement 116 = .ok (.invokevirtual 199, 3) := by decide +kernel
theorem dX6_statement_119 : decode cX6_statement 119 = .ok (.ifCond .eq 7, 3) := by decide +kernel
theorem dX6_statement_122 : decode cX6_statement 122 = .ok (.iconst 1, 1) := by decide +kernel
theorem dX6_statement_123 : decode cX6_statement 123 = .ok (.goto 4, 3) := by decide +kernel
theorem dX6_statement_126 : decode cX6_statement 126 = .ok (.iconst 0, 1) := by decide +kernel
theorem dX6_statement_127 : decode cX6_statement 127 = .ok (.istore_n 2, 1) := by decide +kernel
theorem dX6_statement_128 : decode cX6_statement 128 = .ok (.iload_n 2, 1) := by decide +kernel
theorem dX6_statement_129 : decode cX6_statement 129 = .ok (.ifCond .eq 57, 3) := by decide +kernel
theorem dX6_statement_132 : decode cX6_statement 132 = .ok (.aload_n 0, 1) := by decide +kernel
theorem dX6_statement_133 : decode cX6_statement 133 = .ok (.invokevirtual 174, 3) := by decide +kernel
theorem dX6_statement_136 : decode cX6_statement 136 = .ok (.aload_n 0, 1) := by decide +kernel
theorem dX6_statement_137 : decode cX6_statement 137 = .ok (.getfield 71, 3) := by decide +kernel
theorem dX6_statement_140 : decode cX6_statement 140 = .ok (.iload_n 1, 1) := by decide +kernel
theorem dX6_statement_141 : decode cX6_statement 141 = .ok (.iaload, 1) := by decide +kernel
theorem dX6_statement_142 : decode cX6_statement 142 = .ok (.iconst 3, 1) := by decide +kernel
theorem dX6_statement_143 : decode cX6_statement 143 = .ok (.if_icmp .eq 20, 3) := by decide +kernel
theorem dX6_statement_146 : decode cX6_statement 146 = .ok (.aload_n 0, 1) := by decide +kernel
theorem dX6_statement_147 : decode cX6_statement 147 = .ok (.iconst 3, 1) := by decide +kernel
theorem dX6_statement_148 : decode cX6_statement 148 = .ok (.iload_n 1, 1) := by decide +kernel
theorem dX6_statement_149 : decode cX6_statement 149 = .ok (.imul, 1) := by decide +kernel
theorem dX6_statement_150 : decode cX6_statement 150 = .ok (.aload_n 0, 1) := by decide +kernel
theorem dX6_statement_151 : decode cX6_statement 151 = .ok (.getfield 71, 3) := by decide +kernel
theorem dX6_statement_154 : decode cX6_statement 154 = .ok (.iload_n 1, 1) := by decide +kernel
theorem dX6_statement_155 : decode cX6_statement 155 = .ok (.iaload, 1) := by decide +kernel
theorem dX6_statement_156 : decode cX6_statement 156 = .ok (.iadd, 1) := by decide +kernel
theorem dX6_statement_157 : decode cX6_statement 157 = .ok (.invokevirtual 209, 3) := by decide +kernel
theorem dX6_statement_160 : decode cX6_statement 160 = .ok (.ifCond .ne 5, 3) := by decide +kernel
theorem dX6_statement_163 : decode cX6_statement 163 = .ok (.iconst 0, 1) := by decide +kernel
theorem dX6_statement_164 : decode cX6_statement 164 = .ok (.ireturn, 1) := by decide +kernel
theorem dX6_statement_165 : decode cX6_statement 165 = .ok (.aload_n 0, 1) := by decide +kernel
theorem dX6_statement_166 : decode cX6_statement 166 = .ok (.getfield 71, 3) := by decide +kernel
theorem dX6_statement_169 : decode cX6_statement 169 = .ok (.iload_n 1, 1) := by decide +kernel
theorem dX6_statement_170 : decode cX6_statement 170 = .ok (.dup2, 1) := by decide +kernel
theorem dX6_statement_171 : decode cX6_statement 171 = .ok (.iaload, 1) := by decide +kernel
theorem dX6_statement_172 : decode cX6_statement 172 = .ok (.iconst 1, 1) := by decide +kernel
theorem dX6_statement_173 : decode cX6_statement 173 = .ok (.iadd, 1) := by decide +kernel
theorem dX6_statement_174 : decode cX6_statement 174 = .ok (.iastore, 1) := by decide +kernel
theorem dX6_statement_175 : decode cX6_statement 175 = .ok (.aload_n 0, 1) := by decide +kernel
theorem dX6_statement_176 : decode cX6_statement 176 = .ok (.ldc2_w 212, 3) := by decide +kernel
theorem dX6_statement_179 : decode cX6_statement 179 = .ok (.invokevirtual 199, 3) := by decide +kernel
theorem dX6_statement_182 : decode cX6_statement 182 = .ok (.istore_n 2, 1) := by decide +kernel
theorem dX6_statement_183 : decode cX6_statement 183 = .ok (.goto (-55), 3) := by decide +kernel
theorem dX6_statement_186 : decode cX6_statement 186 = .ok (.aload_n 0, 1) := by decide +kernel
theorem dX6_statement_187 : decode cX6_statement 187 = .ok (.invokevirtual 174, 3) := by decide +kernel
theorem dX6_statement_190 : decode cX6_statement 190 = .ok (.aload_n 0, 1) := by decide +kernel
theorem dX6_statement_191 : decode cX6_statement 191 = .ok (.getfield 168, 3) := by decide +kernel
theorem dX6_statement_194 : decode cX6_statement 194 = .ok (.aload_n 0, 1) := by decide +kernel
theorem dX6_statement_195 : decode cX6_statement 195 = .ok (.getfield 171, 3) := by decide +kernel
theorem dX6_statement_198 : decode cX6_statement 198 = .ok (.if_icmp .eq 17, 3) := by decide +kernel
theorem dX6_statement_201 : decode cX6_statement 201 = .ok (.aload_n 0, 1) := by decide +kernel
theorem dX6_statement_202 : decode cX6_statement 202 = .ok (.getfield 55, 3) := by decide +kernel
theorem dX6_statement_205 : decode cX6_statement 205 = .ok (.aload_n 0, 1) := by decide +kernel
theorem dX6_statement_206 : decode cX6_statement 206 = .ok (.getfield 168, 3) := by decide +kernel
theorem dX6_statement_209 : decode cX6_statement 209 = .ok (.baload, 1) := by decide +kernel
theorem dX6_statement_210 : decode cX6_statement 210 = .ok (.bipush 59, 2) := by decide +kernel
theorem dX6_statement_212 : decode cX6_statement 212 = .ok (.if_icmp .eq 5, 3) := by decide +kernel
theorem dX6_statement_215 : decode cX6_statement 215 = .ok (.iconst 0, 1) := by decide +kernel
theorem dX6_statement_216 : decode cX6_statement 216 = .ok (.ireturn, 1) := by decide +kernel
theorem dX6_statement_217 : decode cX6_statement 217 = .ok (.aload_n 0, 1) := by decide +kernel
theorem dX6_statement_218 : decode cX6_statement 218 = .ok (.dup, 1) := by decide +kernel
theorem dX6_statement_219 : decode cX6_statement 219 = .ok (.getfield 168, 3) := by decide +kernel
theorem dX6_statement_222 : decode cX6_statement 222 = .ok (.iconst 1, 1) := by decide +kernel
theorem dX6_statement_223 : decode cX6_statement 223 = .ok (.iadd, 1) := by decide +kernel
theorem dX6_statement_224 : decode cX6_statement 224 = .ok (.putfield 168, 3) := by decide +kernel
theorem dX6_statement_227 : decode cX6_statement 227 = .ok (.iconst 1, 1) := by decide +kernel
theorem dX6_statement_228 : decode cX6_statement 228 = .ok (.ireturn, 1) := by decide +kernel
set_option maxRecDepth 20000 in
theorem ggX6_hall_X6_isIn : GoodIn wsX6_hall wsX6_isIn := goodIn_r _ [12] (by decide +kernel) (by decide +kernel)
set_option maxRecDepth 20000 in
theorem gX6_hall_X6_isIn : GoodIn wsX6_hall (va_wsS RX6 102 yX6_isIn wsX6_isIn) := goodIn_app (goodIn_of _ (by decide +kernel)) ggX6_hall_X6_isIn
set_option maxRecDepth 20000 in
theorem ggX6_hall_X6_blanks : GoodIn wsX6_hall wsX6_blanks := goodIn_r _ [16, 6, 5, 3, 54, 55, 56, 57, 58, 59, 60, 61, 62, 63, 64, 65, 66, 67, 68, 69, 70, 71, 72, 73, 74, 75, 76, 77, 78, 79, 80, 81, 82, 83, 84, 85, 86, 87, 88, 89, 90, 91, 92, 93, 94, 95] (by decide +kernel) (by decide +kernel)
set_option maxRecDepth 20000 in
theorem gX6_hall_X6_blanks : GoodIn wsX6_hall (wsV RX6 174 RX6 yX6_blanks wsX6_blanks) := goodIn_app (goodIn_of _ (by decide +kernel)) ggX6_hall_X6_blanks
set_option maxRecDepth 20000 in
theorem ggX6_hall_X6_statement : GoodIn wsX6_hall wsX6_statement := goodIn_r _ [20, 21, 22, 23, 24, 25, 26, 27, 28, 29, 30, 6, 5, 3, 31, 32, 33, 11, 34, 35, 36, 37, 38, 39, 13, 14, 15, 16, 40, 41, 42, 43, 44, 45, 46, 47, 48, 49, 50, 51, 52, 53, 54, 55, 56, 57, 58, 59, 60, 61, 62, 63, 64, 65, 66, 67, 68, 69, 70, 71, 72, 73, 74, 75, 76, 77, 78, 79, 80, 81, 82, 83, 84, 85, 86, 87, 88, 89, 90, 91, 92, 93, 94, 95] (by decide +kernel) (by decide +kernel)
set_option maxRecDepth 20000 in
theorem gX6_hall_X6_statement : GoodIn wsX6_hall (wsV RX6 217 RX6 yX6_statement wsX6_statement) := goodIn_app (goodIn_of _ (by decide +kernel)) ggX6_hall_X6_statement
theorem dX6_hall_0 : decode cX6_hall 0 = .ok (.iload_n 1, 1) := by decide +kernel
theorem dX6_hall_1 : decode cX6_hall 1 = .ok (.iconst 0, 1) := by decide +kernel
theorem dX6_hall_2 : decode cX6_hall 2 = .ok (.aload_n 0, 1) := by decide +kernel
theorem dX6_hall_3 : decode cX6_hall 3 = .ok (.getfield 161, 3) := by decide +kernel
theorem dX6_hall_6 : decode cX6_hall 6 = .ok (.invokestatic 102, 3) := by decide +kernel
theorem dX6_hall_9 : decode cX6_hall 9 = .ok (.ifCond .ne 6, 3) := by decide +kernel
theorem dX6_hall_12 : decode cX6_hall 12 = .ok (.bipush (-2), 2) := by decide +kernel
theorem dX6_hall_14 : decode cX6_hall 14 = .ok (.ireturn, 1) := by decide +kernel
theorem dX6_hall_15 : decode cX6_hall 15 = .ok (.aload_n 0, 1) := by decide +kernel
theorem dX6_hall_16 : decode cX6_hall 16 = .ok (.getfield 214, 3) := by decide +kernel
theorem dX6_hall_19 : decode cX6_hall 19 = .ok (.bipush 12, 2) := by decide +kernel
theorem dX6_hall_21 : decode cX6_hall 21 = .ok (.if_icmp .ne 6, 3) := by decide +kernel
theorem dX6_hall_24 : decode cX6_hall 24 = .ok (.bipush (-3), 2) := by decide +kernel
theorem dX6_hall_26 : decode cX6_hall 26 = .ok (.ireturn, 1) := by decide +kernel
theorem dX6_hall_27 : decode cX6_hall 27 = .ok (.iconst 0, 1) := by decide +kernel
theorem dX6_hall_28 : decode cX6_hall 28 = .ok (.istore_n 2, 1) := by decide +kernel
theorem dX6_hall_29 : decode cX6_hall 29 = .ok (.iload_n 2, 1) := by decide +kernel
theorem dX6_hall_30 : decode cX6_hall 30 = .ok (.iload_n 1, 1) := by decide +kernel
theorem dX6_hall_31 : decode cX6_hall 31 = .ok (.if_icmp .ge 21, 3) := by decide +kernel
theorem dX6_hall_34 : decode cX6_hall 34 = .ok (.aload_n 0, 1) := by decide +kernel
theorem dX6_hall_35 : decode cX6_hall 35 = .ok (.getfield 55, 3) := by decide +kernel
theorem dX6_hall_38 : decode cX6_hall 38 = .ok (.iload_n 2, 1) := by decide +kernel
theorem dX6_hall_39 : decode cX6_hall 39 = .ok (.aload_n 0, 1) := by decide +kernel
theorem dX6_hall_40 : decode cX6_hall 40 = .ok (.getfield 52, 3) := by decide +kernel
theorem dX6_hall_43 : decode cX6_hall 43 = .ok (.iload_n 2, 1) := by decide +kernel
theorem dX6_hall_44 : decode cX6_hall 44 = .ok (.baload, 1) := by decide +kernel
theorem dX6_hall_45 : decode cX6_hall 45 = .ok (.bastore, 1) := by decide +kernel
theorem dX6_hall_46 : decode cX6_hall 46 = .ok (.iinc 2 1, 3) := by decide +kernel
theorem dX6_hall_49 : decode cX6_hall 49 = .ok (.goto (-20), 3) := by decide +kernel
theorem dX6_hall_52 : decode cX6_hall 52 = .ok (.aload_n 0, 1) := by decide +kernel
theorem dX6_hall_53 : decode cX6_hall 53 = .ok (.iload_n 1, 1) := by decide +kernel
theorem dX6_hall_54 : decode cX6_hall 54 = .ok (.putfield 171, 3) := by decide +kernel
theorem dX6_hall_57 : decode cX6_hall 57 = .ok (.aload_n 0, 1) := by decide +kernel
theorem dX6_hall_58 : decode cX6_hall 58 = .ok (.iconst 0, 1) := by decide +kernel
theorem dX6_hall_59 : decode cX6_hall 59 = .ok (.putfield 161, 3) := by decide +kernel
theorem dX6_hall_62 : decode cX6_hall 62 = .ok (.aload_n 0, 1) := by decide +kernel
theorem dX6_hall_63 : decode cX6_hall 63 = .ok (.iconst 0, 1) := by decide +kernel
theorem dX6_hall_64 : decode cX6_hall 64 = .ok (.putfield 168, 3) := by decide +kernel
theorem dX6_hall_67 : decode cX6_hall 67 = .ok (.aload_n 0, 1) := by decide +kernel
theorem dX6_hall_68 : decode cX6_hall 68 = .ok (.getfield 62, 3) := by decide +kernel
theorem dX6_hall_71 : decode cX6_hall 71 = .ok (.aload_n 0, 1) := by decide +kernel
theorem dX6_hall_72 : decode cX6_hall 72 = .ok (.getfield 214, 3) := by decide +kernel
theorem dX6_hall_75 : decode cX6_hall 75 = .ok (.iconst 0, 1) := by decide +kernel
theorem dX6_hall_76 : decode cX6_hall 76 = .ok (.iastore, 1) := by decide +kernel
theorem dX6_hall_77 : decode cX6_hall 77 = .ok (.iconst 1, 1) := by decide +kernel
theorem dX6_hall_78 : decode cX6_hall 78 = .ok (.istore_n 2, 1) := by decide +kernel
theorem dX6_hall_79 : decode cX6_hall 79 = .ok (.aload_n 0, 1) := by decide +kernel
theorem dX6_hall_80 : decode cX6_hall 80 = .ok (.invokevirtual 174, 3) := by decide +kernel
theorem dX6_hall_83 : decode cX6_hall 83 = .ok (.iload_n 2, 1) := by decide +kernel
theorem dX6_hall_84 : decode cX6_hall 84 = .ok (.ifCond .eq 85, 3) := by decide +kernel
theorem dX6_hall_87 : decode cX6_hall 87 = .ok (.aload_n 0, 1) := by decide +kernel
theorem dX6_hall_88 : decode cX6_hall 88 = .ok (.getfield 168, 3) := by decide +kernel
theorem dX6_hall_91 : decode cX6_hall 91 = .ok (.aload_n 0, 1) := by decide +kernel
theorem dX6_hall_92 : decode cX6_hall 92 = .ok (.getfield 171, 3) := by decide +kernel
theorem dX6_hall_95 : decode cX6_hall 95 = .ok (.if_icmp .ge 74, 3) := by decide +kernel
theorem dX6_hall_98 : decode cX6_hall 98 = .ok (.aload_n 0, 1) := by decide +kernel
theorem dX6_hall_99 : decode cX6_hall 99 = .ok (.getfield 62, 3) := by decide +kernel
theorem dX6_hall_102 : decode cX6_hall 102 = .ok (.aload_n 0, 1) := by decide +kernel
theorem dX6_hall_103 : decode cX6_hall 103 = .ok (.getfield 214, 3) := by decide +kernel
theorem dX6_hall_106 : decode cX6_hall 106 = .ok (.iaload, 1) := by decide +kernel
theorem dX6_hall_107 : decode cX6_hall 107 = .ok (.bipush 12, 2) := by decide +kernel
theorem dX6_hall_109 : decode cX6_hall 109 = .ok (.if_icmp .ge 31, 3) := by decide +kernel
theorem dX6_hall_112 : decode cX6_hall 112 = .ok (.aload_n 0, 1) := by decide +kernel
theorem dX6_hall_113 : decode cX6_hall 113 = .ok (.bipush 12, 2) := by decide +kernel
theorem dX6_hall_115 : decode cX6_hall 115 = .ok (.aload_n 0, 1) := by decide +kernel
theorem dX6_hall_116 : decode cX6_hall 116 = .ok (.getfield 214, 3) := by decide +kernel
theorem dX6_hall_119 : decode cX6_hall 119 = .ok (.imul, 1) := by decide +kernel
theorem dX6_hall_120 : decode cX6_hall 120 = .ok (.aload_n 0, 1) := by decide +kernel
end
section
theorem dX6_hall_121 : decode cX6_hall 121 = .ok (.getfield 62, 3) := by decide +kernel
theorem dX6_hall_124 : decode cX6_hall 124 = .ok (.aload_n 0, 1) := by decide +kernel
theorem dX6_hall_125 : decode cX6_hall 125 = .ok (.getfield 214, 3) := by decide +kernel
theorem dX6_hall_128 : decode cX6_hall 128 = .ok (.iaload, 1) := by decide +kernel
theorem dX6_hall_129 : decode cX6_hall 129 = .ok (.iadd, 1) := by decide +kernel
theorem dX6_hall_130 : decode cX6_hall 130 = .ok (.invokevirtual 217, 3) := by decide +kernel
theorem dX6_hall_133 : decode cX6_hall 133 = .ok (.ifCond .eq 7, 3) := by decide +kernel
theorem dX6_hall_136 : decode cX6_hall 136 = .ok (.iconst 1, 1) := by decide +kernel
theorem dX6_hall_137 : decode cX6_hall 137 = .ok (.goto 4, 3) := by decide +kernel
theorem dX6_hall_140 : decode cX6_hall 140 = .ok (.iconst 0, 1) := by decide +kernel
theorem dX6_hall_141 : decode cX6_hall 141 = .ok (.istore_n 2, 1) := by decide +kernel
theorem dX6_hall_142 : decode cX6_hall 142 = .ok (.iload_n 2, 1) := by decide +kernel
theorem dX6_hall_143 : decode cX6_hall 143 = .ok (.ifCond .ne 6, 3) := by decide +kernel
theorem dX6_hall_146 : decode cX6_hall 146 = .ok (.goto (-63), 3) := by decide +kernel
theorem dX6_hall_149 : decode cX6_hall 149 = .ok (.aload_n 0, 1) := by decide +kernel
theorem dX6_hall_150 : decode cX6_hall 150 = .ok (.getfield 62, 3) := by decide +kernel
theorem dX6_hall_153 : decode cX6_hall 153 = .ok (.aload_n 0, 1) := by decide +kernel
theorem dX6_hall_154 : decode cX6_hall 154 = .ok (.getfield 214, 3) := by decide +kernel
theorem dX6_hall_157 : decode cX6_hall 157 = .ok (.dup2, 1) := by decide +kernel
theorem dX6_hall_158 : decode cX6_hall 158 = .ok (.iaload, 1) := by decide +kernel
theorem dX6_hall_159 : decode cX6_hall 159 = .ok (.iconst 1, 1) := by decide +kernel
theorem dX6_hall_160 : decode cX6_hall 160 = .ok (.iadd, 1) := by decide +kernel
theorem dX6_hall_161 : decode cX6_hall 161 = .ok (.iastore, 1) := by decide +kernel
theorem dX6_hall_162 : decode cX6_hall 162 = .ok (.aload_n 0, 1) := by decide +kernel
theorem dX6_hall_163 : decode cX6_hall 163 = .ok (.invokevirtual 174, 3) := by decide +kernel
theorem dX6_hall_166 : decode cX6_hall 166 = .ok (.goto (-83), 3) := by decide +kernel
theorem dX6_hall_169 : decode cX6_hall 169 = .ok (.aload_n 0, 1) := by decide +kernel
theorem dX6_hall_170 : decode cX6_hall 170 = .ok (.iload_n 2, 1) := by decide +kernel
theorem dX6_hall_171 : decode cX6_hall 171 = .ok (.ifCond .eq 7, 3) := by decide +kernel
theorem dX6_hall_174 : decode cX6_hall 174 = .ok (.iconst (-1), 1) := by decide +kernel
theorem dX6_hall_175 : decode cX6_hall 175 = .ok (.goto 7, 3) := by decide +kernel
theorem dX6_hall_178 : decode cX6_hall 178 = .ok (.aload_n 0, 1) := by decide +kernel
theorem dX6_hall_179 : decode cX6_hall 179 = .ok (.getfield 168, 3) := by decide +kernel
theorem dX6_hall_182 : decode cX6_hall 182 = .ok (.putfield 58, 3) := by decide +kernel
theorem dX6_hall_185 : decode cX6_hall 185 = .ok (.iload_n 2, 1) := by decide +kernel
theorem dX6_hall_186 : decode cX6_hall 186 = .ok (.ifCond .ne 5, 3) := by decide +kernel
theorem dX6_hall_189 : decode cX6_hall 189 = .ok (.iconst (-1), 1) := by decide +kernel
theorem dX6_hall_190 : decode cX6_hall 190 = .ok (.ireturn, 1) := by decide +kernel
theorem dX6_hall_191 : decode cX6_hall 191 = .ok (.aload_n 0, 1) := by decide +kernel
theorem dX6_hall_192 : decode cX6_hall 192 = .ok (.dup, 1) := by decide +kernel
theorem dX6_hall_193 : decode cX6_hall 193 = .ok (.getfield 214, 3) := by decide +kernel
theorem dX6_hall_196 : decode cX6_hall 196 = .ok (.iconst 1, 1) := by decide +kernel
theorem dX6_hall_197 : decode cX6_hall 197 = .ok (.iadd, 1) := by decide +kernel
theorem dX6_hall_198 : decode cX6_hall 198 = .ok (.putfield 214, 3) := by decide +kernel
theorem dX6_hall_201 : decode cX6_hall 201 = .ok (.aload_n 0, 1) := by decide +kernel
theorem dX6_hall_202 : decode cX6_hall 202 = .ok (.getfield 214, 3) := by decide +kernel
theorem dX6_hall_205 : decode cX6_hall 205 = .ok (.iconst 1, 1) := by decide +kernel
theorem dX6_hall_206 : decode cX6_hall 206 = .ok (.isub, 1) := by decide +kernel
theorem dX6_hall_207 : decode cX6_hall 207 = .ok (.ireturn, 1) := by decide +kernel
theorem dX6_fault_0 : decode cX6_fault 0 = .ok (.aload_n 0, 1) := by decide +kernel
theorem dX6_fault_1 : decode cX6_fault 1 = .ok (.getfield 58, 3) := by decide +kernel
theorem dX6_fault_4 : decode cX6_fault 4 = .ok (.ireturn, 1) := by decide +kernel
theorem dX6_lastOf_0 : decode cX6_lastOf 0 = .ok (.iload_n 3, 1) := by decide +kernel
theorem dX6_lastOf_1 : decode cX6_lastOf 1 = .ok (.istore 4, 2) := by decide +kernel
theorem dX6_lastOf_3 : decode cX6_lastOf 3 = .ok (.bipush 12, 2) := by decide +kernel
theorem dX6_lastOf_5 : decode cX6_lastOf 5 = .ok (.iload_n 1, 1) := by decide +kernel
theorem dX6_lastOf_6 : decode cX6_lastOf 6 = .ok (.imul, 1) := by decide +kernel
theorem dX6_lastOf_7 : decode cX6_lastOf 7 = .ok (.istore 5, 2) := by decide +kernel
theorem dX6_lastOf_9 : decode cX6_lastOf 9 = .ok (.iload 5, 2) := by decide +kernel
theorem dX6_lastOf_11 : decode cX6_lastOf 11 = .ok (.bipush 12, 2) := by decide +kernel
theorem dX6_lastOf_13 : decode cX6_lastOf 13 = .ok (.iload_n 1, 1) := by decide +kernel
theorem dX6_lastOf_14 : decode cX6_lastOf 14 = .ok (.imul, 1) := by decide +kernel
theorem dX6_lastOf_15 : decode cX6_lastOf 15 = .ok (.aload_n 0, 1) := by decide +kernel
theorem dX6_lastOf_16 : decode cX6_lastOf 16 = .ok (.getfield 62, 3) := by decide +kernel
theorem dX6_lastOf_19 : decode cX6_lastOf 19 = .ok (.iload_n 1, 1) := by decide +kernel
theorem dX6_lastOf_20 : decode cX6_lastOf 20 = .ok (.iaload, 1) := by decide +kernel
theorem dX6_lastOf_21 : decode cX6_lastOf 21 = .ok (.iadd, 1) := by decide +kernel
theorem dX6_lastOf_22 : decode cX6_lastOf 22 = .ok (.if_icmp .ge 29, 3) := by decide +kernel
theorem dX6_lastOf_25 : decode cX6_lastOf 25 = .ok (.aload_n 0, 1) := by decide +kernel
theorem dX6_lastOf_26 : decode cX6_lastOf 26 = .ok (.getfield 65, 3) := by decide +kernel
theorem dX6_lastOf_29 : decode cX6_lastOf 29 = .ok (.iload 5, 2) := by decide +kernel
theorem dX6_lastOf_31 : decode cX6_lastOf 31 = .ok (.iaload, 1) := by decide +kernel
theorem dX6_lastOf_32 : decode cX6_lastOf 32 = .ok (.iload_n 2, 1) := by decide +kernel
theorem dX6_lastOf_33 : decode cX6_lastOf 33 = .ok (.if_icmp .ne 12, 3) := by decide +kernel
theorem dX6_lastOf_36 : decode cX6_lastOf 36 = .ok (.aload_n 0, 1) := by decide +kernel
theorem dX6_lastOf_37 : decode cX6_lastOf 37 = .ok (.getfield 68, 3) := by decide +kernel
theorem dX6_lastOf_40 : decode cX6_lastOf 40 = .ok (.iload 5, 2) := by decide +kernel
theorem dX6_lastOf_42 : decode cX6_lastOf 42 = .ok (.iaload, 1) := by decide +kernel
theorem dX6_lastOf_43 : decode cX6_lastOf 43 = .ok (.istore 4, 2) := by decide +kernel
theorem dX6_lastOf_45 : decode cX6_lastOf 45 = .ok (.iinc 5 1, 3) := by decide +kernel
theorem dX6_lastOf_48 : decode cX6_lastOf 48 = .ok (.goto (-39), 3) := by decide +kernel
theorem dX6_lastOf_51 : decode cX6_lastOf 51 = .ok (.iload 4, 2) := by decide +kernel
theorem dX6_lastOf_53 : decode cX6_lastOf 53 = .ok (.ireturn, 1) := by decide +kernel
theorem dX6_partOf_0 : decode cX6_partOf 0 = .ok (.bipush 12, 2) := by decide +kernel
theorem dX6_partOf_2 : decode cX6_partOf 2 = .ok (.iload_n 1, 1) := by decide +kernel
theorem dX6_partOf_3 : decode cX6_partOf 3 = .ok (.imul, 1) := by decide +kernel
theorem dX6_partOf_4 : decode cX6_partOf 4 = .ok (.istore 5, 2) := by decide +kernel
theorem dX6_partOf_6 : decode cX6_partOf 6 = .ok (.iload 5, 2) := by decide +kernel
theorem dX6_partOf_8 : decode cX6_partOf 8 = .ok (.bipush 12, 2) := by decide +kernel
theorem dX6_partOf_10 : decode cX6_partOf 10 = .ok (.iload_n 1, 1) := by decide +kernel
theorem dX6_partOf_11 : decode cX6_partOf 11 = .ok (.imul, 1) := by decide +kernel
theorem dX6_partOf_12 : decode cX6_partOf 12 = .ok (.aload_n 0, 1) := by decide +kernel
theorem dX6_partOf_13 : decode cX6_partOf 13 = .ok (.getfield 62, 3) := by decide +kernel
theorem dX6_partOf_16 : decode cX6_partOf 16 = .ok (.iload_n 1, 1) := by decide +kernel
theorem dX6_partOf_17 : decode cX6_partOf 17 = .ok (.iaload, 1) := by decide +kernel
theorem dX6_partOf_18 : decode cX6_partOf 18 = .ok (.iadd, 1) := by decide +kernel
theorem dX6_partOf_19 : decode cX6_partOf 19 = .ok (.if_icmp .ge 180, 3) := by decide +kernel
theorem dX6_partOf_22 : decode cX6_partOf 22 = .ok (.aload_n 0, 1) := by decide +kernel
theorem dX6_partOf_23 : decode cX6_partOf 23 = .ok (.getfield 65, 3) := by decide +kernel
theorem dX6_partOf_26 : decode cX6_partOf 26 = .ok (.iload 5, 2) := by decide +kernel
theorem dX6_partOf_28 : decode cX6_partOf 28 = .ok (.iaload, 1) := by decide +kernel
theorem dX6_partOf_29 : decode cX6_partOf 29 = .ok (.iconst 2, 1) := by decide +kernel
theorem dX6_partOf_30 : decode cX6_partOf 30 = .ok (.if_icmp .ne 7, 3) := by decide +kernel
theorem dX6_partOf_33 : decode cX6_partOf 33 = .ok (.iconst 1, 1) := by decide +kernel
theorem dX6_partOf_34 : decode cX6_partOf 34 = .ok (.goto 4, 3) := by decide +kernel
theorem dX6_partOf_37 : decode cX6_partOf 37 = .ok (.iconst 0, 1) := by decide +kernel
theorem dX6_partOf_38 : decode cX6_partOf 38 = .ok (.istore 6, 2) := by decide +kernel
theorem dX6_partOf_40 : decode cX6_partOf 40 = .ok (.iconst 3, 1) := by decide +kernel
theorem dX6_partOf_41 : decode cX6_partOf 41 = .ok (.iload 5, 2) := by decide +kernel
theorem dX6_partOf_43 : decode cX6_partOf 43 = .ok (.imul, 1) := by decide +kernel
theorem dX6_partOf_44 : decode cX6_partOf 44 = .ok (.istore 7, 2) := by decide +kernel
theorem dX6_partOf_46 : decode cX6_partOf 46 = .ok (.iload 7, 2) := by decide +kernel
theorem dX6_partOf_48 : decode cX6_partOf 48 = .ok (.iconst 3, 1) := by decide +kernel
theorem dX6_partOf_49 : decode cX6_partOf 49 = .ok (.iload 5, 2) := by decide +kernel
theorem dX6_partOf_51 : decode cX6_partOf 51 = .ok (.imul, 1) := by decide +kernel
theorem dX6_partOf_52 : decode cX6_partOf 52 = .ok (.aload_n 0, 1) := by decide +kernel
theorem dX6_partOf_53 : decode cX6_partOf 53 = .ok (.getfield 71, 3) := by decide +kernel
theorem dX6_partOf_56 : decode cX6_partOf 56 = .ok (.iload 5, 2) := by decide +kernel
theorem dX6_partOf_58 : decode cX6_partOf 58 = .ok (.iaload, 1) := by decide +kernel
theorem dX6_partOf_59 : decode cX6_partOf 59 = .ok (.iadd, 1) := by decide +kernel
theorem dX6_partOf_60 : decode cX6_partOf 60 = .ok (.if_icmp .ge 120, 3) := by decide +kernel
theorem dX6_partOf_63 : decode cX6_partOf 63 = .ok (.aload_n 0, 1) := by decide +kernel
theorem dX6_partOf_64 : decode cX6_partOf 64 = .ok (.getfield 74, 3) := by decide +kernel
theorem dX6_partOf_67 : decode cX6_partOf 67 = .ok (.iload 7, 2) := by decide +kernel
theorem dX6_partOf_69 : decode cX6_partOf 69 = .ok (.iaload, 1) := by decide +kernel
theorem dX6_partOf_70 : decode cX6_partOf 70 = .ok (.ifCond .ne 7, 3) := by decide +kernel
theorem dX6_partOf_73 : decode cX6_partOf 73 = .ok (.iload_n 2, 1) := by decide +kernel
theorem dX6_partOf_74 : decode cX6_partOf 74 = .ok (.goto 20, 3) := by decide +kernel
theorem dX6_partOf_77 : decode cX6_partOf 77 = .ok (.aload_n 0, 1) := by decide +kernel
theorem dX6_partOf_78 : decode cX6_partOf 78 = .ok (.getfield 74, 3) := by decide +kernel
theorem dX6_partOf_81 : decode cX6_partOf 81 = .ok (.iload 7, 2) := by decide +kernel
theorem dX6_partOf_83 : decode cX6_partOf 83 = .ok (.iaload, 1) := by decide +kernel
theorem dX6_partOf_84 : decode cX6_partOf 84 = .ok (.iconst 1, 1) := by decide +kernel
theorem dX6_partOf_85 : decode cX6_partOf 85 = .ok (.if_icmp .ne 7, 3) := by decide +kernel
theorem dX6_partOf_88 : decode cX6_partOf 88 = .ok (.iload_n 3, 1) := by decide +kernel
theorem dX6_partOf_89 : decode cX6_partOf 89 = .ok (.goto 5, 3) := by decide +kernel
theorem dX6_partOf_92 : decode cX6_partOf 92 = .ok (.iload 4, 2) := by decide +kernel
theorem dX6_partOf_94 : decode cX6_partOf 94 = .ok (.istore 8, 2) := by decide +kernel
theorem dX6_partOf_96 : decode cX6_partOf 96 = .ok (.iload 6, 2) := by decide +kernel
theorem dX6_partOf_98 : decode cX6_partOf 98 = .ok (.ifCond .eq 73, 3) := by decide +kernel
theorem dX6_partOf_101 : decode cX6_partOf 101 = .ok (.aload_n 0, 1) := by decide +kernel
theorem dX6_partOf_102 : decode cX6_partOf 102 = .ok (.getfield 77, 3) := by decide +kernel
theorem dX6_partOf_105 : decode cX6_partOf 105 = .ok (.iload 7, 2) := by decide +kernel
theorem dX6_partOf_107 : decode cX6_partOf 107 = .ok (.iaload, 1) := by decide +kernel
theorem dX6_partOf_108 : decode cX6_partOf 108 = .ok (.bipush 60, 2) := by decide +kernel
theorem dX6_partOf_110 : decode cX6_partOf 110 = .ok (.if_icmp .ne 18, 3) := by decide +kernel
theorem dX6_partOf_113 : decode cX6_partOf 113 = .ok (.iload 8, 2) := by decide +kernel
theorem dX6_partOf_115 : decode cX6_partOf 115 = .ok (.aload_n 0, 1) := by decide +kernel
theorem dX6_partOf_116 : decode cX6_partOf 116 = .ok (.getfield 80, 3) := by decide +kernel
theorem dX6_partOf_119 : decode cX6_partOf 119 = .ok (.iload 7, 2) := by decide +kernel
theorem dX6_partOf_121 : decode cX6_partOf 121 = .ok (.iaload, 1) := by decide +kernel
theorem dX6_partOf_122 : decode cX6_partOf 122 = .ok (.if_icmp .ge 49, 3) := by decide +kernel
theorem dX6_partOf_125 : decode cX6_partOf 125 = .ok (.goto 42, 3) := by decide +kernel
theorem dX6_partOf_128 : decode cX6_partOf 128 = .ok (.aload_n 0, 1) := by decide +kernel
theorem dX6_partOf_129 : decode cX6_partOf 129 = .ok (.getfield 77, 3) := by decide +kernel
theorem dX6_partOf_132 : decode cX6_partOf 132 = .ok (.iload 7, 2) := by decide +kernel
theorem dX6_partOf_134 : decode cX6_partOf 134 = .ok (.iaload, 1) := by decide +kernel
theorem dX6_partOf_135 : decode cX6_partOf 135 = .ok (.bipush 62, 2) := by decide +kernel
theorem dX6_partOf_137 : decode cX6_partOf 137 = .ok (.if_icmp .ne 18, 3) := by decide +kernel
theorem dX6_partOf_140 : decode cX6_partOf 140 = .ok (.iload 8, 2) := by decide +kernel
theorem dX6_partOf_142 : decode cX6_partOf 142 = .ok (.aload_n 0, 1) := by decide +kernel
theorem dX6_partOf_143 : decode cX6_partOf 143 = .ok (.getfield 80, 3) := by decide +kernel
theorem dX6_partOf_146 : decode cX6_partOf 146 = .ok (.iload 7, 2) := by decide +kernel
theorem dX6_partOf_148 : decode cX6_partOf 148 = .ok (.iaload, 1) := by decide +kernel
theorem dX6_partOf_149 : decode cX6_partOf 149 = .ok (.if_icmp .le 22, 3) := by decide +kernel
theorem dX6_partOf_152 : decode cX6_partOf 152 = .ok (.goto 15, 3) := by decide +kernel
theorem dX6_partOf_155 : decode cX6_partOf 155 = .ok (.iload 8, 2) := by decide +kernel
theorem dX6_partOf_157 : decode cX6_partOf 157 = .ok (.aload_n 0, 1) := by decide +kernel
theorem dX6_partOf_158 : decode cX6_partOf 158 = .ok (.getfield 80, 3) := by decide +kernel
theorem dX6_partOf_161 : decode cX6_partOf 161 = .ok (.iload 7, 2) := by decide +kernel
theorem dX6_partOf_163 : decode cX6_partOf 163 = .ok (.iaload, 1) := by decide +kernel
theorem dX6_partOf_164 : decode cX6_partOf 164 = .ok (.if_icmp .ne 7, 3) := by decide +kernel
theorem dX6_partOf_167 : decode cX6_partOf 167 = .ok (.iconst 1, 1) := by decide +kernel
theorem dX6_partOf_168 : decode cX6_partOf 168 = .ok (.goto 4, 3) := by decide +kernel
theorem dX6_partOf_171 : decode cX6_partOf 171 = .ok (.iconst 0, 1) := by decide +kernel
theorem dX6_partOf_172 : decode cX6_partOf 172 = .ok (.istore 6, 2) := by decide +kernel
theorem dX6_partOf_174 : decode cX6_partOf 174 = .ok (.iinc 7 1, 3) := by decide +kernel
theorem dX6_partOf_177 : decode cX6_partOf 177 = .ok (.goto (-131), 3) := by decide +kernel
theorem dX6_partOf_180 : decode cX6_partOf 180 = .ok (.iload 6, 2) := by decide +kernel
theorem dX6_partOf_182 : decode cX6_partOf 182 = .ok (.ifCond .eq 11, 3) := by decide +kernel
theorem dX6_partOf_185 : decode cX6_partOf 185 = .ok (.aload_n 0, 1) := by decide +kernel
theorem dX6_partOf_186 : decode cX6_partOf 186 = .ok (.getfield 68, 3) := by decide +kernel
theorem dX6_partOf_189 : decode cX6_partOf 189 = .ok (.iload 5, 2) := by decide +kernel
theorem dX6_partOf_191 : decode cX6_partOf 191 = .ok (.iaload, 1) := by decide +kernel
theorem dX6_partOf_192 : decode cX6_partOf 192 = .ok (.ireturn, 1) := by decide +kernel
theorem dX6_partOf_193 : decode cX6_partOf 193 = .ok (.iinc 5 1, 3) := by decide +kernel
theorem dX6_partOf_196 : decode cX6_partOf 196 = .ok (.goto (-190), 3) := by decide +kernel
theorem dX6_partOf_199 : decode cX6_partOf 199 = .ok (.bipush 50, 2) := by decide +kernel
theorem dX6_partOf_201 : decode cX6_partOf 201 = .ok (.ireturn, 1) := by decide +kernel
set_option maxRecDepth 20000 in
theorem ggX6_week_X6_isIn : GoodIn wsX6_week wsX6_isIn := goodIn_r _ [14] (by decide +kernel) (by decide +kernel)
set_option maxRecDepth 20000 in
theorem gX6_week_X6_isIn : GoodIn wsX6_week (va_wsS RX6 102 yX6_isIn wsX6_isIn) := goodIn_app (goodIn_of _ (by decide +kernel)) ggX6_week_X6_isIn
set_option maxRecDepth 20000 in
theorem ggX6_week_X6_lastOf : GoodIn wsX6_week wsX6_lastOf := goodIn_r _ [18, 19, 20, 21, 30, 31, 32, 33, 34, 35, 36, 37, 38, 39, 40, 41, 42, 43, 44, 45, 46, 47, 48, 49, 50, 51, 52, 53, 54, 55, 56, 57, 58, 59, 60, 61, 62, 63, 64, 65, 66, 67, 68, 69, 70, 71] (by decide +kernel) (by decide +kernel)
set_option maxRecDepth 20000 in
theorem gX6_week_X6_lastOf : GoodIn wsX6_week (wsV RX6 220 RX6 yX6_lastOf wsX6_lastOf) := goodIn_app (goodIn_of _ (by decide +kernel)) ggX6_week_X6_lastOf
set_option maxRecDepth 20000 in
theorem ggX6_week_X6_partOf : GoodIn wsX6_week wsX6_partOf := goodIn_r _ [25, 19, 20, 26, 27, 28, 29, 21, 30, 31, 32, 33, 34, 35, 36, 37, 38, 39, 40, 41, 42, 43, 44, 45, 46, 47, 48, 49, 50, 51, 52, 53, 54, 55, 56, 57, 58, 59, 60, 61, 62, 63, 64, 65, 66, 67, 68, 69, 70, 71] (by decide +kernel) (by decide +kernel)
set_option maxRecDepth 20000 in
theorem gX6_week_X6_partOf : GoodIn wsX6_week (wsV RX6 224 RX6 yX6_partOf wsX6_partOf) := goodIn_app (goodIn_of _ (by decide +kernel)) ggX6_week_X6_partOf
theorem dX6_week_0 : decode cX6_week 0 = .ok (.iload_n 1, 1) := by decide +kernel
theorem dX6_week_1 : decode cX6_week 1 = .ok (.iconst 0, 1) := by decide +kernel
theorem dX6_week_2 : decode cX6_week 2 = .ok (.aload_n 0, 1) := by decide +kernel
theorem dX6_week_3 : decode cX6_week 3 = .ok (.getfield 214, 3) := by decide +kernel
theorem dX6_week_6 : decode cX6_week 6 = .ok (.iconst 1, 1) := by decide +kernel
theorem dX6_week_7 : decode cX6_week 7 = .ok (.isub, 1) := by decide +kernel
theorem dX6_week_8 : decode cX6_week 8 = .ok (.invokestatic 102, 3) := by decide +kernel
theorem dX6_week_11 : decode cX6_week 11 = .ok (.ifCond .eq 39, 3) := by decide +kernel
theorem dX6_week_14 : decode cX6_week 14 = .ok (.aload_n 0, 1) := by decide +kernel
theorem dX6_week_15 : decode cX6_week 15 = .ok (.getfield 83, 3) := by decide +kernel
theorem dX6_week_18 : decode cX6_week 18 = .ok (.iload_n 1, 1) := by decide +kernel
theorem dX6_week_19 : decode cX6_week 19 = .ok (.iaload, 1) := by decide +kernel
theorem dX6_week_20 : decode cX6_week 20 = .ok (.aload_n 0, 1) := by decide +kernel
theorem dX6_week_21 : decode cX6_week 21 = .ok (.iload_n 1, 1) := by decide +kernel
theorem dX6_week_22 : decode cX6_week 22 = .ok (.iconst 0, 1) := by decide +kernel
theorem dX6_week_23 : decode cX6_week 23 = .ok (.iconst 1, 1) := by decide +kernel
theorem dX6_week_24 : decode cX6_week 24 = .ok (.invokevirtual 220, 3) := by decide +kernel
theorem dX6_week_27 : decode cX6_week 27 = .ok (.if_icmp .ge 23, 3) := by decide +kernel
theorem dX6_week_30 : decode cX6_week 30 = .ok (.iload_n 2, 1) := by decide +kernel
theorem dX6_week_31 : decode cX6_week 31 = .ok (.iconst 0, 1) := by decide +kernel
theorem dX6_week_32 : decode cX6_week 32 = .ok (.ldc 193, 2) := by decide +kernel
theorem dX6_week_34 : decode cX6_week 34 = .ok (.invokestatic 102, 3) := by decide +kernel
theorem dX6_week_37 : decode cX6_week 37 = .ok (.ifCond .eq 13, 3) := by decide +kernel
theorem dX6_week_40 : decode cX6_week 40 = .ok (.iload_n 3, 1) := by decide +kernel
theorem dX6_week_41 : decode cX6_week 41 = .ok (.iconst 0, 1) := by decide +kernel
theorem dX6_week_42 : decode cX6_week 42 = .ok (.ldc 193, 2) := by decide +kernel
theorem dX6_week_44 : decode cX6_week 44 = .ok (.invokestatic 102, 3) := by decide +kernel
theorem dX6_week_47 : decode cX6_week 47 = .ok (.ifCond .ne 5, 3) := by decide +kernel
theorem dX6_week_50 : decode cX6_week 50 = .ok (.iconst (-1), 1) := by decide +kernel
theorem dX6_week_51 : decode cX6_week 51 = .ok (.ireturn, 1) := by decide +kernel
theorem dX6_week_52 : decode cX6_week 52 = .ok (.aload_n 0, 1) := by decide +kernel
theorem dX6_week_53 : decode cX6_week 53 = .ok (.getfield 83, 3) := by decide +kernel
theorem dX6_week_56 : decode cX6_week 56 = .ok (.iload_n 1, 1) := by decide +kernel
theorem dX6_week_57 : decode cX6_week 57 = .ok (.dup2, 1) := by decide +kernel
theorem dX6_week_58 : decode cX6_week 58 = .ok (.iaload, 1) := by decide +kernel
theorem dX6_week_59 : decode cX6_week 59 = .ok (.iconst 1, 1) := by decide +kernel
theorem dX6_week_60 : decode cX6_week 60 = .ok (.iadd, 1) := by decide +kernel
theorem dX6_week_61 : decode cX6_week 61 = .ok (.iastore, 1) := by decide +kernel
theorem dX6_week_62 : decode cX6_week 62 = .ok (.iload_n 3, 1) := by decide +kernel
theorem dX6_week_63 : decode cX6_week 63 = .ok (.iload_n 3, 1) := by decide +kernel
theorem dX6_week_64 : decode cX6_week 64 = .ok (.aload_n 0, 1) := by decide +kernel
theorem dX6_week_65 : decode cX6_week 65 = .ok (.iload_n 1, 1) := by decide +kernel
theorem dX6_week_66 : decode cX6_week 66 = .ok (.iconst 1, 1) := by decide +kernel
theorem dX6_week_67 : decode cX6_week 67 = .ok (.iconst 0, 1) := by decide +kernel
theorem dX6_week_68 : decode cX6_week 68 = .ok (.invokevirtual 220, 3) := by decide +kernel
theorem dX6_week_71 : decode cX6_week 71 = .ok (.invokestatic 138, 3) := by decide +kernel
theorem dX6_week_74 : decode cX6_week 74 = .ok (.isub, 1) := by decide +kernel
theorem dX6_week_75 : decode cX6_week 75 = .ok (.istore 4, 2) := by decide +kernel
theorem dX6_week_77 : decode cX6_week 77 = .ok (.iload 4, 2) := by decide +kernel
theorem dX6_week_79 : decode cX6_week 79 = .ok (.aload_n 0, 1) := by decide +kernel
theorem dX6_week_80 : decode cX6_week 80 = .ok (.iload_n 1, 1) := by decide +kernel
theorem dX6_week_81 : decode cX6_week 81 = .ok (.aload_n 0, 1) := by decide +kernel
theorem dX6_week_82 : decode cX6_week 82 = .ok (.getfield 83, 3) := by decide +kernel
theorem dX6_week_85 : decode cX6_week 85 = .ok (.iload_n 1, 1) := by decide +kernel
theorem dX6_week_86 : decode cX6_week 86 = .ok (.iaload, 1) := by decide +kernel
theorem dX6_week_87 : decode cX6_week 87 = .ok (.iload_n 2, 1) := by decide +kernel
theorem dX6_week_88 : decode cX6_week 88 = .ok (.iload_n 3, 1) := by decide +kernel
theorem dX6_week_89 : decode cX6_week 89 = .ok (.invokevirtual 224, 3) := by decide +kernel
theorem dX6_week_92 : decode cX6_week 92 = .ok (.imul, 1) := by decide +kernel
theorem dX6_week_93 : decode cX6_week 93 = .ok (.bipush 100, 2) := by decide +kernel
theorem dX6_week_95 : decode cX6_week 95 = .ok (.idiv, 1) := by decide +kernel
theorem dX6_week_96 : decode cX6_week 96 = .ok (.istore 5, 2) := by decide +kernel
theorem dX6_week_98 : decode cX6_week 98 = .ok (.aload_n 0, 1) := by decide +kernel
theorem dX6_week_99 : decode cX6_week 99 = .ok (.getfield 86, 3) := by decide +kernel
theorem dX6_week_102 : decode cX6_week 102 = .ok (.iload_n 1, 1) := by decide +kernel
theorem dX6_week_103 : decode cX6_week 103 = .ok (.dup2, 1) := by decide +kernel
theorem dX6_week_104 : decode cX6_week 104 = .ok (.iaload, 1) := by decide +kernel
theorem dX6_week_105 : decode cX6_week 105 = .ok (.iload_n 2, 1) := by decide +kernel
theorem dX6_week_106 : decode cX6_week 106 = .ok (.iadd, 1) := by decide +kernel
theorem dX6_week_107 : decode cX6_week 107 = .ok (.iastore, 1) := by decide +kernel
theorem dX6_week_108 : decode cX6_week 108 = .ok (.aload_n 0, 1) := by decide +kernel
theorem dX6_week_109 : decode cX6_week 109 = .ok (.getfield 89, 3) := by decide +kernel
theorem dX6_week_112 : decode cX6_week 112 = .ok (.iload_n 1, 1) := by decide +kernel
theorem dX6_week_113 : decode cX6_week 113 = .ok (.dup2, 1) := by decide +kernel
theorem dX6_week_114 : decode cX6_week 114 = .ok (.laload, 1) := by decide +kernel
theorem dX6_week_115 : decode cX6_week 115 = .ok (.iload 5, 2) := by decide +kernel
theorem dX6_week_117 : decode cX6_week 117 = .ok (.i2l, 1) := by decide +kernel
theorem dX6_week_118 : decode cX6_week 118 = .ok (.ladd, 1) := by decide +kernel
theorem dX6_week_119 : decode cX6_week 119 = .ok (.lastore, 1) := by decide +kernel
theorem dX6_week_120 : decode cX6_week 120 = .ok (.aload_n 0, 1) := by decide +kernel
theorem dX6_week_121 : decode cX6_week 121 = .ok (.getfield 93, 3) := by decide +kernel
theorem dX6_week_124 : decode cX6_week 124 = .ok (.iload_n 1, 1) := by decide +kernel
theorem dX6_week_125 : decode cX6_week 125 = .ok (.dup2, 1) := by decide +kernel
theorem dX6_week_126 : decode cX6_week 126 = .ok (.laload, 1) := by decide +kernel
theorem dX6_week_127 : decode cX6_week 127 = .ok (.iload_n 3, 1) := by decide +kernel
theorem dX6_week_128 : decode cX6_week 128 = .ok (.iload 5, 2) := by decide +kernel
theorem dX6_week_130 : decode cX6_week 130 = .ok (.isub, 1) := by decide +kernel
theorem dX6_week_131 : decode cX6_week 131 = .ok (.i2l, 1) := by decide +kernel
theorem dX6_week_132 : decode cX6_week 132 = .ok (.ladd, 1) := by decide +kernel
theorem dX6_week_133 : decode cX6_week 133 = .ok (.lastore, 1) := by decide +kernel
theorem dX6_week_134 : decode cX6_week 134 = .ok (.iload 5, 2) := by decide +kernel
theorem dX6_week_136 : decode cX6_week 136 = .ok (.ireturn, 1) := by decide +kernel
set_option maxRecDepth 20000 in
theorem ggX6_hallOf_X6_isIn : GoodIn wsX6_hallOf wsX6_isIn := goodIn_r _ [9] (by decide +kernel) (by decide +kernel)
set_option maxRecDepth 20000 in
theorem gX6_hallOf_X6_isIn : GoodIn wsX6_hallOf (va_wsS RX6 102 yX6_isIn wsX6_isIn) := goodIn_app (goodIn_of _ (by decide +kernel)) ggX6_hallOf_X6_isIn
set_option maxRecDepth 20000 in
theorem ggX6_hallOf_X6_lastOf : GoodIn wsX6_hallOf wsX6_lastOf := goodIn_r _ [13, 14, 15, 16, 17, 18, 19, 20, 21, 22, 23, 24, 25, 26, 27, 28, 29, 30, 31, 32, 33, 34, 35, 36, 37, 38, 39, 40, 41, 42, 43, 44, 45, 46, 47, 48, 49, 50, 51, 52, 53, 54, 55, 56, 57, 58] (by decide +kernel) (by decide +kernel)
set_option maxRecDepth 20000 in
theorem gX6_hallOf_X6_lastOf : GoodIn wsX6_hallOf (wsV RX6 220 RX6 yX6_lastOf wsX6_lastOf) := goodIn_app (goodIn_of _ (by decide +kernel)) ggX6_hallOf_X6_lastOf
theorem dX6_hallOf_0 : decode cX6_hallOf 0 = .ok (.iload_n 1, 1) := by decide +kernel
theorem dX6_hallOf_1 : decode cX6_hallOf 1 = .ok (.iconst 0, 1) := by decide +kernel
theorem dX6_hallOf_2 : decode cX6_hallOf 2 = .ok (.aload_n 0, 1) := by decide +kernel
theorem dX6_hallOf_3 : decode cX6_hallOf 3 = .ok (.getfield 214, 3) := by decide +kernel
theorem dX6_hallOf_6 : decode cX6_hallOf 6 = .ok (.iconst 1, 1) := by decide +kernel
theorem dX6_hallOf_7 : decode cX6_hallOf 7 = .ok (.isub, 1) := by decide +kernel
theorem dX6_hallOf_8 : decode cX6_hallOf 8 = .ok (.invokestatic 102, 3) := by decide +kernel
theorem dX6_hallOf_11 : decode cX6_hallOf 11 = .ok (.ifCond .ne 5, 3) := by decide +kernel
theorem dX6_hallOf_14 : decode cX6_hallOf 14 = .ok (.iconst (-1), 1) := by decide +kernel
theorem dX6_hallOf_15 : decode cX6_hallOf 15 = .ok (.ireturn, 1) := by decide +kernel
theorem dX6_hallOf_16 : decode cX6_hallOf 16 = .ok (.iload_n 2, 1) := by decide +kernel
theorem dX6_hallOf_17 : decode cX6_hallOf 17 = .ok (.tableswitch 85 0 5 #[39, 47, 54, 62, 70, 77], 39) := by decide +kernel
theorem dX6_hallOf_56 : decode cX6_hallOf 56 = .ok (.aload_n 0, 1) := by decide +kernel
theorem dX6_hallOf_57 : decode cX6_hallOf 57 = .ok (.iload_n 1, 1) := by decide +kernel
theorem dX6_hallOf_58 : decode cX6_hallOf 58 = .ok (.iconst 0, 1) := by decide +kernel
theorem dX6_hallOf_59 : decode cX6_hallOf 59 = .ok (.iconst 1, 1) := by decide +kernel
theorem dX6_hallOf_60 : decode cX6_hallOf 60 = .ok (.invokevirtual 220, 3) := by decide +kernel
theorem dX6_hallOf_63 : decode cX6_hallOf 63 = .ok (.ireturn, 1) := by decide +kernel
theorem dX6_hallOf_64 : decode cX6_hallOf 64 = .ok (.aload_n 0, 1) := by decide +kernel
theorem dX6_hallOf_65 : decode cX6_hallOf 65 = .ok (.getfield 83, 3) := by decide +kernel
theorem dX6_hallOf_68 : decode cX6_hallOf 68 = .ok (.iload_n 1, 1) := by decide +kernel
theorem dX6_hallOf_69 : decode cX6_hallOf 69 = .ok (.iaload, 1) := by decide +kernel
theorem dX6_hallOf_70 : decode cX6_hallOf 70 = .ok (.ireturn, 1) := by decide +kernel
theorem dX6_hallOf_71 : decode cX6_hallOf 71 = .ok (.aload_n 0, 1) := by decide +kernel
theorem dX6_hallOf_72 : decode cX6_hallOf 72 = .ok (.getfield 89, 3) := by decide +kernel
theorem dX6_hallOf_75 : decode cX6_hallOf 75 = .ok (.iload_n 1, 1) := by decide +kernel
theorem dX6_hallOf_76 : decode cX6_hallOf 76 = .ok (.laload, 1) := by decide +kernel
theorem dX6_hallOf_77 : decode cX6_hallOf 77 = .ok (.l2i, 1) := by decide +kernel
theorem dX6_hallOf_78 : decode cX6_hallOf 78 = .ok (.ireturn, 1) := by decide +kernel
theorem dX6_hallOf_79 : decode cX6_hallOf 79 = .ok (.aload_n 0, 1) := by decide +kernel
theorem dX6_hallOf_80 : decode cX6_hallOf 80 = .ok (.getfield 93, 3) := by decide +kernel
theorem dX6_hallOf_83 : decode cX6_hallOf 83 = .ok (.iload_n 1, 1) := by decide +kernel
theorem dX6_hallOf_84 : decode cX6_hallOf 84 = .ok (.laload, 1) := by decide +kernel
theorem dX6_hallOf_85 : decode cX6_hallOf 85 = .ok (.l2i, 1) := by decide +kernel
theorem dX6_hallOf_86 : decode cX6_hallOf 86 = .ok (.ireturn, 1) := by decide +kernel
theorem dX6_hallOf_87 : decode cX6_hallOf 87 = .ok (.aload_n 0, 1) := by decide +kernel
theorem dX6_hallOf_88 : decode cX6_hallOf 88 = .ok (.getfield 86, 3) := by decide +kernel
theorem dX6_hallOf_91 : decode cX6_hallOf 91 = .ok (.iload_n 1, 1) := by decide +kernel
theorem dX6_hallOf_92 : decode cX6_hallOf 92 = .ok (.iaload, 1) := by decide +kernel
theorem dX6_hallOf_93 : decode cX6_hallOf 93 = .ok (.ireturn, 1) := by decide +kernel
theorem dX6_hallOf_94 : decode cX6_hallOf 94 = .ok (.aload_n 0, 1) := by decide +kernel
theorem dX6_hallOf_95 : decode cX6_hallOf 95 = .ok (.iload_n 1, 1) := by decide +kernel
theorem dX6_hallOf_96 : decode cX6_hallOf 96 = .ok (.iconst 1, 1) := by decide +kernel
theorem dX6_hallOf_97 : decode cX6_hallOf 97 = .ok (.iconst 0, 1) := by decide +kernel
theorem dX6_hallOf_98 : decode cX6_hallOf 98 = .ok (.invokevirtual 220, 3) := by decide +kernel
theorem dX6_hallOf_101 : decode cX6_hallOf 101 = .ok (.ireturn, 1) := by decide +kernel
theorem dX6_hallOf_102 : decode cX6_hallOf 102 = .ok (.iconst (-1), 1) := by decide +kernel
theorem dX6_hallOf_103 : decode cX6_hallOf 103 = .ok (.ireturn, 1) := by decide +kernel
set_option maxRecDepth 20000 in
theorem ggX6_room_X6_isIn : GoodIn wsX6_room wsX6_isIn := goodIn_r _ [5] (by decide +kernel) (by decide +kernel)
set_option maxRecDepth 20000 in
theorem gX6_room_X6_isIn : GoodIn wsX6_room (va_wsS RX6 102 yX6_isIn wsX6_isIn) := goodIn_app (goodIn_of _ (by decide +kernel)) ggX6_room_X6_isIn
theorem dX6_room_0 : decode cX6_room 0 = .ok (.iload_n 1, 1) := by decide +kernel
theorem dX6_room_1 : decode cX6_room 1 = .ok (.iconst 1, 1) := by decide +kernel
theorem dX6_room_2 : decode cX6_room 2 = .ok (.sipush 200, 3) := by decide +kernel
theorem dX6_room_5 : decode cX6_room 5 = .ok (.invokestatic 102, 3) := by decide +kernel
theorem dX6_room_8 : decode cX6_room 8 = .ok (.ifCond .ne 5, 3) := by decide +kernel
theorem dX6_room_11 : decode cX6_room 11 = .ok (.iconst 0, 1) := by decide +kernel
theorem dX6_room_12 : decode cX6_room 12 = .ok (.ireturn, 1) := by decide +kernel
theorem dX6_room_13 : decode cX6_room 13 = .ok (.aload_n 0, 1) := by decide +kernel
theorem dX6_room_14 : decode cX6_room 14 = .ok (.iload_n 1, 1) := by decide +kernel
theorem dX6_room_15 : decode cX6_room 15 = .ok (.putfield 96, 3) := by decide +kernel
theorem dX6_room_18 : decode cX6_room 18 = .ok (.iconst 1, 1) := by decide +kernel
theorem dX6_room_19 : decode cX6_room 19 = .ok (.ireturn, 1) := by decide +kernel
set_option maxRecDepth 20000 in
theorem ggX6_minute_X6_isIn : GoodIn wsX6_minute wsX6_isIn := goodIn_r _ [18] (by decide +kernel) (by decide +kernel)
set_option maxRecDepth 20000 in
theorem gX6_minute_X6_isIn : GoodIn wsX6_minute (va_wsS RX6 102 yX6_isIn wsX6_isIn) := goodIn_app (goodIn_of _ (by decide +kernel)) ggX6_minute_X6_isIn
theorem dX6_minute_0 : decode cX6_minute 0 = .ok (.iload_n 1, 1) := by decide +kernel
theorem dX6_minute_1 : decode cX6_minute 1 = .ok (.iconst 0, 1) := by decide +kernel
theorem dX6_minute_2 : decode cX6_minute 2 = .ok (.sipush 500, 3) := by decide +kernel
theorem dX6_minute_5 : decode cX6_minute 5 = .ok (.invokestatic 102, 3) := by decide +kernel
theorem dX6_minute_8 : decode cX6_minute 8 = .ok (.ifCond .eq 15, 3) := by decide +kernel
theorem dX6_minute_11 : decode cX6_minute 11 = .ok (.aload_n 0, 1) := by decide +kernel
theorem dX6_minute_12 : decode cX6_minute 12 = .ok (.getfield 228, 3) := by decide +kernel
theorem dX6_minute_15 : decode cX6_minute 15 = .ok (.iload_n 1, 1) := by decide +kernel
theorem dX6_minute_16 : decode cX6_minute 16 = .ok (.iadd, 1) := by decide +kernel
theorem dX6_minute_17 : decode cX6_minute 17 = .ok (.sipush 2000, 3) := by decide +kernel
theorem dX6_minute_20 : decode cX6_minute 20 = .ok (.if_icmp .le 5, 3) := by decide +kernel
theorem dX6_minute_23 : decode cX6_minute 23 = .ok (.iconst (-1), 1) := by decide +kernel
theorem dX6_minute_24 : decode cX6_minute 24 = .ok (.ireturn, 1) := by decide +kernel
theorem dX6_minute_25 : decode cX6_minute 25 = .ok (.aload_n 0, 1) := by decide +kernel
theorem dX6_minute_26 : decode cX6_minute 26 = .ok (.getfield 231, 3) := by decide +kernel
theorem dX6_minute_29 : decode cX6_minute 29 = .ok (.bipush 12, 2) := by decide +kernel
theorem dX6_minute_31 : decode cX6_minute 31 = .ok (.irem, 1) := by decide +kernel
theorem dX6_minute_32 : decode cX6_minute 32 = .ok (.istore_n 2, 1) := by decide +kernel
theorem dX6_minute_33 : decode cX6_minute 33 = .ok (.aload_n 0, 1) := by decide +kernel
theorem dX6_minute_34 : decode cX6_minute 34 = .ok (.dup, 1) := by decide +kernel
theorem dX6_minute_35 : decode cX6_minute 35 = .ok (.getfield 234, 3) := by decide +kernel
theorem dX6_minute_38 : decode cX6_minute 38 = .ok (.aload_n 0, 1) := by decide +kernel
theorem dX6_minute_39 : decode cX6_minute 39 = .ok (.getfield 99, 3) := by decide +kernel
theorem dX6_minute_42 : decode cX6_minute 42 = .ok (.iload_n 2, 1) := by decide +kernel
theorem dX6_minute_43 : decode cX6_minute 43 = .ok (.iaload, 1) := by decide +kernel
theorem dX6_minute_44 : decode cX6_minute 44 = .ok (.isub, 1) := by decide +kernel
theorem dX6_minute_45 : decode cX6_minute 45 = .ok (.putfield 234, 3) := by decide +kernel
theorem dX6_minute_48 : decode cX6_minute 48 = .ok (.aload_n 0, 1) := by decide +kernel
theorem dX6_minute_49 : decode cX6_minute 49 = .ok (.dup, 1) := by decide +kernel
theorem dX6_minute_50 : decode cX6_minute 50 = .ok (.getfield 237, 3) := by decide +kernel
theorem dX6_minute_53 : decode cX6_minute 53 = .ok (.aload_n 0, 1) := by decide +kernel
theorem dX6_minute_54 : decode cX6_minute 54 = .ok (.getfield 99, 3) := by decide +kernel
theorem dX6_minute_57 : decode cX6_minute 57 = .ok (.iload_n 2, 1) := by decide +kernel
theorem dX6_minute_58 : decode cX6_minute 58 = .ok (.iaload, 1) := by decide +kernel
theorem dX6_minute_59 : decode cX6_minute 59 = .ok (.iadd, 1) := by decide +kernel
theorem dX6_minute_60 : decode cX6_minute 60 = .ok (.putfield 237, 3) := by decide +kernel
theorem dX6_minute_63 : decode cX6_minute 63 = .ok (.aload_n 0, 1) := by decide +kernel
theorem dX6_minute_64 : decode cX6_minute 64 = .ok (.dup, 1) := by decide +kernel
theorem dX6_minute_65 : decode cX6_minute 65 = .ok (.getfield 228, 3) := by decide +kernel
theorem dX6_minute_68 : decode cX6_minute 68 = .ok (.iload_n 1, 1) := by decide +kernel
theorem dX6_minute_69 : decode cX6_minute 69 = .ok (.iadd, 1) := by decide +kernel
theorem dX6_minute_70 : decode cX6_minute 70 = .ok (.putfield 228, 3) := by decide +kernel
theorem dX6_minute_73 : decode cX6_minute 73 = .ok (.aload_n 0, 1) := by decide +kernel
theorem dX6_minute_74 : decode cX6_minute 74 = .ok (.getfield 99, 3) := by decide +kernel
theorem dX6_minute_77 : decode cX6_minute 77 = .ok (.iload_n 2, 1) := by decide +kernel
theorem dX6_minute_78 : decode cX6_minute 78 = .ok (.iconst 0, 1) := by decide +kernel
theorem dX6_minute_79 : decode cX6_minute 79 = .ok (.bipush 8, 2) := by decide +kernel
theorem dX6_minute_81 : decode cX6_minute 81 = .ok (.aload_n 0, 1) := by decide +kernel
theorem dX6_minute_82 : decode cX6_minute 82 = .ok (.getfield 228, 3) := by decide +kernel
theorem dX6_minute_85 : decode cX6_minute 85 = .ok (.aload_n 0, 1) := by decide +kernel
theorem dX6_minute_86 : decode cX6_minute 86 = .ok (.getfield 96, 3) := by decide +kernel
theorem dX6_minute_89 : decode cX6_minute 89 = .ok (.aload_n 0, 1) := by decide +kernel
theorem dX6_minute_90 : decode cX6_minute 90 = .ok (.getfield 234, 3) := by decide +kernel
theorem dX6_minute_93 : decode cX6_minute 93 = .ok (.isub, 1) := by decide +kernel
theorem dX6_minute_94 : decode cX6_minute 94 = .ok (.invokestatic 138, 3) := by decide +kernel
theorem dX6_minute_97 : decode cX6_minute 97 = .ok (.invokestatic 138, 3) := by decide +kernel
theorem dX6_minute_100 : decode cX6_minute 100 = .ok (.invokestatic 119, 3) := by decide +kernel
theorem dX6_minute_103 : decode cX6_minute 103 = .ok (.iastore, 1) := by decide +kernel
theorem dX6_minute_104 : decode cX6_minute 104 = .ok (.aload_n 0, 1) := by decide +kernel
theorem dX6_minute_105 : decode cX6_minute 105 = .ok (.dup, 1) := by decide +kernel
theorem dX6_minute_106 : decode cX6_minute 106 = .ok (.getfield 228, 3) := by decide +kernel
theorem dX6_minute_109 : decode cX6_minute 109 = .ok (.aload_n 0, 1) := by decide +kernel
theorem dX6_minute_110 : decode cX6_minute 110 = .ok (.getfield 99, 3) := by decide +kernel
theorem dX6_minute_113 : decode cX6_minute 113 = .ok (.iload_n 2, 1) := by decide +kernel
theorem dX6_minute_114 : decode cX6_minute 114 = .ok (.iaload, 1) := by decide +kernel
theorem dX6_minute_115 : decode cX6_minute 115 = .ok (.isub, 1) := by decide +kernel
theorem dX6_minute_116 : decode cX6_minute 116 = .ok (.putfield 228, 3) := by decide +kernel
theorem dX6_minute_119 : decode cX6_minute 119 = .ok (.aload_n 0, 1) := by decide +kernel
theorem dX6_minute_120 : decode cX6_minute 120 = .ok (.dup, 1) := by decide +kernel
theorem dX6_minute_121 : decode cX6_minute 121 = .ok (.getfield 234, 3) := by decide +kernel
theorem dX6_minute_124 : decode cX6_minute 124 = .ok (.aload_n 0, 1) := by decide +kernel
theorem dX6_minute_125 : decode cX6_minute 125 = .ok (.getfield 99, 3) := by decide +kernel
theorem dX6_minute_128 : decode cX6_minute 128 = .ok (.iload_n 2, 1) := by decide +kernel
theorem dX6_minute_129 : decode cX6_minute 129 = .ok (.iaload, 1) := by decide +kernel
theorem dX6_minute_130 : decode cX6_minute 130 = .ok (.iadd, 1) := by decide +kernel
theorem dX6_minute_131 : decode cX6_minute 131 = .ok (.putfield 234, 3) := by decide +kernel
theorem dX6_minute_134 : decode cX6_minute 134 = .ok (.aload_n 0, 1) := by decide +kernel
theorem dX6_minute_135 : decode cX6_minute 135 = .ok (.aload_n 0, 1) := by decide +kernel
theorem dX6_minute_136 : decode cX6_minute 136 = .ok (.getfield 240, 3) := by decide +kernel
theorem dX6_minute_139 : decode cX6_minute 139 = .ok (.aload_n 0, 1) := by decide +kernel
theorem dX6_minute_140 : decode cX6_minute 140 = .ok (.getfield 234, 3) := by decide +kernel
theorem dX6_minute_143 : decode cX6_minute 143 = .ok (.invokestatic 119, 3) := by decide +kernel
theorem dX6_minute_146 : decode cX6_minute 146 = .ok (.putfield 240, 3) := by decide +kernel
theorem dX6_minute_149 : decode cX6_minute 149 = .ok (.aload_n 0, 1) := by decide +kernel
theorem dX6_minute_150 : decode cX6_minute 150 = .ok (.dup, 1) := by decide +kernel
theorem dX6_minute_151 : decode cX6_minute 151 = .ok (.getfield 231, 3) := by decide +kernel
theorem dX6_minute_154 : decode cX6_minute 154 = .ok (.iconst 1, 1) := by decide +kernel
theorem dX6_minute_155 : decode cX6_minute 155 = .ok (.iadd, 1) := by decide +kernel
theorem dX6_minute_156 : decode cX6_minute 156 = .ok (.putfield 231, 3) := by decide +kernel
theorem dX6_minute_159 : decode cX6_minute 159 = .ok (.aload_n 0, 1) := by decide +kernel
theorem dX6_minute_160 : decode cX6_minute 160 = .ok (.getfield 99, 3) := by decide +kernel
theorem dX6_minute_163 : decode cX6_minute 163 = .ok (.iload_n 2, 1) := by decide +kernel
theorem dX6_minute_164 : decode cX6_minute 164 = .ok (.iaload, 1) := by decide +kernel
theorem dX6_minute_165 : decode cX6_minute 165 = .ok (.ireturn, 1) := by decide +kernel
theorem dX6_crowd_0 : decode cX6_crowd 0 = .ok (.iload_n 1, 1) := by decide +kernel
theorem dX6_crowd_1 : decode cX6_crowd 1 = .ok (.tableswitch 69 0 5 #[39, 44, 49, 54, 59, 64], 39) := by decide +kernel
theorem dX6_crowd_40 : decode cX6_crowd 40 = .ok (.aload_n 0, 1) := by decide +kernel
theorem dX6_crowd_41 : decode cX6_crowd 41 = .ok (.getfield 234, 3) := by decide +kernel
theorem dX6_crowd_44 : decode cX6_crowd 44 = .ok (.ireturn, 1) := by decide +kernel
theorem dX6_crowd_45 : decode cX6_crowd 45 = .ok (.aload_n 0, 1) := by decide +kernel
theorem dX6_crowd_46 : decode cX6_crowd 46 = .ok (.getfield 228, 3) := by decide +kernel
theorem dX6_crowd_49 : decode cX6_crowd 49 = .ok (.ireturn, 1) := by decide +kernel
theorem dX6_crowd_50 : decode cX6_crowd 50 = .ok (.aload_n 0, 1) := by decide +kernel
theorem dX6_crowd_51 : decode cX6_crowd 51 = .ok (.getfield 237, 3) := by decide +kernel
theorem dX6_crowd_54 : decode cX6_crowd 54 = .ok (.ireturn, 1) := by decide +kernel
theorem dX6_crowd_55 : decode cX6_crowd 55 = .ok (.aload_n 0, 1) := by decide +kernel
theorem dX6_crowd_56 : decode cX6_crowd 56 = .ok (.getfield 231, 3) := by decide +kernel
theorem dX6_crowd_59 : decode cX6_crowd 59 = .ok (.ireturn, 1) := by decide +kernel
theorem dX6_crowd_60 : decode cX6_crowd 60 = .ok (.aload_n 0, 1) := by decide +kernel
theorem dX6_crowd_61 : decode cX6_crowd 61 = .ok (.getfield 240, 3) := by decide +kernel
theorem dX6_crowd_64 : decode cX6_crowd 64 = .ok (.ireturn, 1) := by decide +kernel
theorem dX6_crowd_65 : decode cX6_crowd 65 = .ok (.aload_n 0, 1) := by decide +kernel
theorem dX6_crowd_66 : decode cX6_crowd 66 = .ok (.getfield 96, 3) := by decide +kernel
theorem dX6_crowd_69 : decode cX6_crowd 69 = .ok (.ireturn, 1) := by decide +kernel
theorem dX6_crowd_70 : decode cX6_crowd 70 = .ok (.iconst (-1), 1) := by decide +kernel
theorem dX6_crowd_71 : decode cX6_crowd 71 = .ok (.ireturn, 1) := by decide +kernel
set_option maxRecDepth 20000 in
theorem ggX6_count_X6_viewAt : GoodIn wsX6_count wsX6_viewAt := goodIn_r _ [10, 11, 12, 13, 14, 15, 16, 17, 18, 19, 20, 9, 21, 22, 23, 24, 25, 26, 27, 28, 29, 30, 31, 32, 33, 34, 35, 36, 37, 38, 39, 40, 41, 42, 43, 44, 45, 46, 47, 48, 49, 50, 51, 52, 53, 54, 55, 56, 57, 58, 59, 60, 61, 62, 63, 64, 65, 66, 67, 68, 69, 70, 71, 72, 73, 74, 75, 76] (by decide +kernel) (by decide +kernel)
set_option maxRecDepth 20000 in
theorem gX6_count_X6_viewAt : GoodIn wsX6_count (wsV RX6 145 RX6 yX6_viewAt wsX6_viewAt) := goodIn_app (goodIn_of _ (by decide +kernel)) ggX6_count_X6_viewAt
theorem dX6_count_0 : decode cX6_count 0 = .ok (.iconst 0, 1) := by decide +kernel
theorem dX6_count_1 : decode cX6_count 1 = .ok (.istore_n 2, 1) := by decide +kernel
theorem dX6_count_2 : decode cX6_count 2 = .ok (.iload_n 1, 1) := by decide +kernel
theorem dX6_count_3 : decode cX6_count 3 = .ok (.tableswitch 125 0 5 #[37, 42, 47, 52, 57, 91], 37) := by decide +kernel
theorem dX6_count_40 : decode cX6_count 40 = .ok (.aload_n 0, 1) := by decide +kernel
theorem dX6_count_41 : decode cX6_count 41 = .ok (.getfield 155, 3) := by decide +kernel
theorem dX6_count_44 : decode cX6_count 44 = .ok (.ireturn, 1) := by decide +kernel
theorem dX6_count_45 : decode cX6_count 45 = .ok (.aload_n 0, 1) := by decide +kernel
theorem dX6_count_46 : decode cX6_count 46 = .ok (.getfield 148, 3) := by decide +kernel
theorem dX6_count_49 : decode cX6_count 49 = .ok (.ireturn, 1) := by decide +kernel
theorem dX6_count_50 : decode cX6_count 50 = .ok (.aload_n 0, 1) := by decide +kernel
theorem dX6_count_51 : decode cX6_count 51 = .ok (.getfield 214, 3) := by decide +kernel
theorem dX6_count_54 : decode cX6_count 54 = .ok (.ireturn, 1) := by decide +kernel
theorem dX6_count_55 : decode cX6_count 55 = .ok (.aload_n 0, 1) := by decide +kernel
theorem dX6_count_56 : decode cX6_count 56 = .ok (.getfield 161, 3) := by decide +kernel
theorem dX6_count_59 : decode cX6_count 59 = .ok (.ireturn, 1) := by decide +kernel
theorem dX6_count_60 : decode cX6_count 60 = .ok (.iconst 0, 1) := by decide +kernel
theorem dX6_count_61 : decode cX6_count 61 = .ok (.istore_n 3, 1) := by decide +kernel
theorem dX6_count_62 : decode cX6_count 62 = .ok (.iload_n 3, 1) := by decide +kernel
theorem dX6_count_63 : decode cX6_count 63 = .ok (.sipush 7200, 3) := by decide +kernel
theorem dX6_count_66 : decode cX6_count 66 = .ok (.if_icmp .ge 26, 3) := by decide +kernel
theorem dX6_count_69 : decode cX6_count 69 = .ok (.iload_n 2, 1) := by decide +kernel
theorem dX6_count_70 : decode cX6_count 70 = .ok (.aload_n 0, 1) := by decide +kernel
theorem dX6_count_71 : decode cX6_count 71 = .ok (.iload_n 3, 1) := by decide +kernel
theorem dX6_count_72 : decode cX6_count 72 = .ok (.invokevirtual 145, 3) := by decide +kernel
theorem dX6_count_75 : decode cX6_count 75 = .ok (.iconst (-1), 1) := by decide +kernel
theorem dX6_count_76 : decode cX6_count 76 = .ok (.if_icmp .eq 7, 3) := by decide +kernel
theorem dX6_count_79 : decode cX6_count 79 = .ok (.iconst 1, 1) := by decide +kernel
theorem dX6_count_80 : decode cX6_count 80 = .ok (.goto 4, 3) := by decide +kernel
theorem dX6_count_83 : decode cX6_count 83 = .ok (.iconst 0, 1) := by decide +kernel
theorem dX6_count_84 : decode cX6_count 84 = .ok (.iadd, 1) := by decide +kernel
theorem dX6_count_85 : decode cX6_count 85 = .ok (.istore_n 2, 1) := by decide +kernel
theorem dX6_count_86 : decode cX6_count 86 = .ok (.iinc 3 1, 3) := by decide +kernel
theorem dX6_count_89 : decode cX6_count 89 = .ok (.goto (-27), 3) := by decide +kernel
theorem dX6_count_92 : decode cX6_count 92 = .ok (.iload_n 2, 1) := by decide +kernel
theorem dX6_count_93 : decode cX6_count 93 = .ok (.ireturn, 1) := by decide +kernel
theorem dX6_count_94 : decode cX6_count 94 = .ok (.iconst 0, 1) := by decide +kernel
theorem dX6_count_95 : decode cX6_count 95 = .ok (.istore_n 3, 1) := by decide +kernel
theorem dX6_count_96 : decode cX6_count 96 = .ok (.iload_n 3, 1) := by decide +kernel
theorem dX6_count_97 : decode cX6_count 97 = .ok (.bipush 72, 2) := by decide +kernel
theorem dX6_count_99 : decode cX6_count 99 = .ok (.if_icmp .ge 27, 3) := by decide +kernel
theorem dX6_count_102 : decode cX6_count 102 = .ok (.iload_n 2, 1) := by decide +kernel
theorem dX6_count_103 : decode cX6_count 103 = .ok (.aload_n 0, 1) := by decide +kernel
theorem dX6_count_104 : decode cX6_count 104 = .ok (.getfield 28, 3) := by decide +kernel
theorem dX6_count_107 : decode cX6_count 107 = .ok (.iload_n 3, 1) := by decide +kernel
theorem dX6_count_108 : decode cX6_count 108 = .ok (.iaload, 1) := by decide +kernel
theorem dX6_count_109 : decode cX6_count 109 = .ok (.iconst 2, 1) := by decide +kernel
theorem dX6_count_110 : decode cX6_count 110 = .ok (.if_icmp .ne 7, 3) := by decide +kernel
theorem dX6_count_113 : decode cX6_count 113 = .ok (.iconst 1, 1) := by decide +kernel
theorem dX6_count_114 : decode cX6_count 114 = .ok (.goto 4, 3) := by decide +kernel
theorem dX6_count_117 : decode cX6_count 117 = .ok (.iconst 0, 1) := by decide +kernel
theorem dX6_count_118 : decode cX6_count 118 = .ok (.iadd, 1) := by decide +kernel
theorem dX6_count_119 : decode cX6_count 119 = .ok (.istore_n 2, 1) := by decide +kernel
theorem dX6_count_120 : decode cX6_count 120 = .ok (.iinc 3 1, 3) := by decide +kernel
theorem dX6_count_123 : decode cX6_count 123 = .ok (.goto (-27), 3) := by decide +kernel
theorem dX6_count_126 : decode cX6_count 126 = .ok (.iload_n 2, 1) := by decide +kernel
theorem dX6_count_127 : decode cX6_count 127 = .ok (.ireturn, 1) := by decide +kernel
theorem dX6_count_128 : decode cX6_count 128 = .ok (.iconst (-1), 1) := by decide +kernel
theorem dX6_count_129 : decode cX6_count 129 = .ok (.ireturn, 1) := by decide +kernel
theorem dJ9_floorDiv_7cf53_0 : decode cJ9_floorDiv_7cf53 0 = .ok (.iload_n 0, 1) := by decide +kernel
theorem dJ9_floorDiv_7cf53_1 : decode cJ9_floorDiv_7cf53 1 = .ok (.iload_n 1, 1) := by decide +kernel
theorem dJ9_floorDiv_7cf53_2 : decode cJ9_floorDiv_7cf53 2 = .ok (.idiv, 1) := by decide +kernel
theorem dJ9_floorDiv_7cf53_3 : decode cJ9_floorDiv_7cf53 3 = .ok (.istore_n 2, 1) := by decide +kernel
theorem dJ9_floorDiv_7cf53_4 : decode cJ9_floorDiv_7cf53 4 = .ok (.iload_n 0, 1) := by decide +kernel
theorem dJ9_floorDiv_7cf53_5 : decode cJ9_floorDiv_7cf53 5 = .ok (.iload_n 1, 1) := by decide +kernel
theorem dJ9_floorDiv_7cf53_6 : decode cJ9_floorDiv_7cf53 6 = .ok (.ixor, 1) := by decide +kernel
theorem dJ9_floorDiv_7cf53_7 : decode cJ9_floorDiv_7cf53 7 = .ok (.ifCond .ge 14, 3) := by decide +kernel
theorem dJ9_floorDiv_7cf53_10 : decode cJ9_floorDiv_7cf53 10 = .ok (.iload_n 2, 1) := by decide +kernel
theorem dJ9_floorDiv_7cf53_11 : decode cJ9_floorDiv_7cf53 11 = .ok (.iload_n 1, 1) := by decide +kernel
theorem dJ9_floorDiv_7cf53_12 : decode cJ9_floorDiv_7cf53 12 = .ok (.imul, 1) := by decide +kernel
theorem dJ9_floorDiv_7cf53_13 : decode cJ9_floorDiv_7cf53 13 = .ok (.iload_n 0, 1) := by decide +kernel
theorem dJ9_floorDiv_7cf53_14 : decode cJ9_floorDiv_7cf53 14 = .ok (.if_icmp .eq 7, 3) := by decide +kernel
theorem dJ9_floorDiv_7cf53_17 : decode cJ9_floorDiv_7cf53 17 = .ok (.iload_n 2, 1) := by decide +kernel
theorem dJ9_floorDiv_7cf53_18 : decode cJ9_floorDiv_7cf53 18 = .ok (.iconst 1, 1) := by decide +kernel
theorem dJ9_floorDiv_7cf53_19 : decode cJ9_floorDiv_7cf53 19 = .ok (.isub, 1) := by decide +kernel
theorem dJ9_floorDiv_7cf53_20 : decode cJ9_floorDiv_7cf53 20 = .ok (.ireturn, 1) := by decide +kernel
theorem dJ9_floorDiv_7cf53_21 : decode cJ9_floorDiv_7cf53 21 = .ok (.iload_n 2, 1) := by decide +kernel
theorem dJ9_floorDiv_7cf53_22 : decode cJ9_floorDiv_7cf53 22 = .ok (.ireturn, 1) := by decide +kernel
theorem dJ9_floorMod_7cf53_0 : decode cJ9_floorMod_7cf53 0 = .ok (.iload_n 0, 1) := by decide +kernel
theorem dJ9_floorMod_7cf53_1 : decode cJ9_floorMod_7cf53 1 = .ok (.iload_n 1, 1) := by decide +kernel
theorem dJ9_floorMod_7cf53_2 : decode cJ9_floorMod_7cf53 2 = .ok (.irem, 1) := by decide +kernel
theorem dJ9_floorMod_7cf53_3 : decode cJ9_floorMod_7cf53 3 = .ok (.istore_n 2, 1) := by decide +kernel
theorem dJ9_floorMod_7cf53_4 : decode cJ9_floorMod_7cf53 4 = .ok (.iload_n 0, 1) := by decide +kernel
theorem dJ9_floorMod_7cf53_5 : decode cJ9_floorMod_7cf53 5 = .ok (.iload_n 1, 1) := by decide +kernel
theorem dJ9_floorMod_7cf53_6 : decode cJ9_floorMod_7cf53 6 = .ok (.ixor, 1) := by decide +kernel
theorem dJ9_floorMod_7cf53_7 : decode cJ9_floorMod_7cf53 7 = .ok (.ifCond .ge 11, 3) := by decide +kernel
theorem dJ9_floorMod_7cf53_10 : decode cJ9_floorMod_7cf53 10 = .ok (.iload_n 2, 1) := by decide +kernel
theorem dJ9_floorMod_7cf53_11 : decode cJ9_floorMod_7cf53 11 = .ok (.ifCond .eq 7, 3) := by decide +kernel
theorem dJ9_floorMod_7cf53_14 : decode cJ9_floorMod_7cf53 14 = .ok (.iload_n 2, 1) := by decide +kernel
theorem dJ9_floorMod_7cf53_15 : decode cJ9_floorMod_7cf53 15 = .ok (.iload_n 1, 1) := by decide +kernel
theorem dJ9_floorMod_7cf53_16 : decode cJ9_floorMod_7cf53 16 = .ok (.iadd, 1) := by decide +kernel
theorem dJ9_floorMod_7cf53_17 : decode cJ9_floorMod_7cf53 17 = .ok (.ireturn, 1) := by decide +kernel
theorem dJ9_floorMod_7cf53_18 : decode cJ9_floorMod_7cf53 18 = .ok (.iload_n 2, 1) := by decide +kernel
theorem dJ9_floorMod_7cf53_19 : decode cJ9_floorMod_7cf53 19 = .ok (.ireturn, 1) := by decide +kernel
theorem dJ9_abs_0f7a4_0 : decode cJ9_abs_0f7a4 0 = .ok (.iload_n 0, 1) := by decide +kernel
theorem dJ9_abs_0f7a4_1 : decode cJ9_abs_0f7a4 1 = .ok (.ifCond .ge 8, 3) := by decide +kernel
theorem dJ9_abs_0f7a4_4 : decode cJ9_abs_0f7a4 4 = .ok (.iload_n 0, 1) := by decide +kernel
theorem dJ9_abs_0f7a4_5 : decode cJ9_abs_0f7a4 5 = .ok (.ineg, 1) := by decide +kernel
theorem dJ9_abs_0f7a4_6 : decode cJ9_abs_0f7a4 6 = .ok (.goto 4, 3) := by decide +kernel
theorem dJ9_abs_0f7a4_9 : decode cJ9_abs_0f7a4 9 = .ok (.iload_n 0, 1) := by decide +kernel
theorem dJ9_abs_0f7a4_10 : decode cJ9_abs_0f7a4 10 = .ok (.ireturn, 1) := by decide +kernel
theorem dJ9_max_7cf53_0 : decode cJ9_max_7cf53 0 = .ok (.iload_n 0, 1) := by decide +kernel
theorem dJ9_max_7cf53_1 : decode cJ9_max_7cf53 1 = .ok (.iload_n 1, 1) := by decide +kernel
theorem dJ9_max_7cf53_2 : decode cJ9_max_7cf53 2 = .ok (.if_icmp .lt 7, 3) := by decide +kernel
theorem dJ9_max_7cf53_5 : decode cJ9_max_7cf53 5 = .ok (.iload_n 0, 1) := by decide +kernel
theorem dJ9_max_7cf53_6 : decode cJ9_max_7cf53 6 = .ok (.goto 4, 3) := by decide +kernel
theorem dJ9_max_7cf53_9 : decode cJ9_max_7cf53 9 = .ok (.iload_n 1, 1) := by decide +kernel
theorem dJ9_max_7cf53_10 : decode cJ9_max_7cf53 10 = .ok (.ireturn, 1) := by decide +kernel
theorem dJ9_min_7cf53_0 : decode cJ9_min_7cf53 0 = .ok (.iload_n 0, 1) := by decide +kernel
theorem dJ9_min_7cf53_1 : decode cJ9_min_7cf53 1 = .ok (.iload_n 1, 1) := by decide +kernel
theorem dJ9_min_7cf53_2 : decode cJ9_min_7cf53 2 = .ok (.if_icmp .gt 7, 3) := by decide +kernel
theorem dJ9_min_7cf53_5 : decode cJ9_min_7cf53 5 = .ok (.iload_n 0, 1) := by decide +kernel
theorem dJ9_min_7cf53_6 : decode cJ9_min_7cf53 6 = .ok (.goto 4, 3) := by decide +kernel
theorem dJ9_min_7cf53_9 : decode cJ9_min_7cf53 9 = .ok (.iload_n 1, 1) := by decide +kernel
theorem dJ9_min_7cf53_10 : decode cJ9_min_7cf53 10 = .ok (.ireturn, 1) := by decide +kernel
set_option maxRecDepth 20000 in
theorem ggJ0_length_8abf5_J0_coder_7d493 : GoodIn wsJ0_length_8abf5 wsJ0_coder_7d493 := goodIn_r _ [6, 7, 8] (by decide +kernel) (by decide +kernel)
set_option maxRecDepth 20000 in
theorem gJ0_length_8abf5_J0_coder_7d493 : GoodIn wsJ0_length_8abf5 (wsV RJ0 335 RJ0 yJ0_coder_7d493 wsJ0_coder_7d493) := goodIn_app (goodIn_of _ (by decide +kernel)) ggJ0_length_8abf5_J0_coder_7d493
theorem dJ0_length_8abf5_0 : decode cJ0_length_8abf5 0 = .ok (.aload_n 0, 1) := by decide +kernel
theorem dJ0_length_8abf5_1 : decode cJ0_length_8abf5 1 = .ok (.getfield 9, 3) := by decide +kernel
theorem dJ0_length_8abf5_4 : decode cJ0_length_8abf5 4 = .ok (.arraylength, 1) := by decide +kernel
theorem dJ0_length_8abf5_5 : decode cJ0_length_8abf5 5 = .ok (.aload_n 0, 1) := by decide +kernel
theorem dJ0_length_8abf5_6 : decode cJ0_length_8abf5 6 = .ok (.invokevirtual 335, 3) := by decide +kernel
theorem dJ0_length_8abf5_9 : decode cJ0_length_8abf5 9 = .ok (.ishr, 1) := by decide +kernel
theorem dJ0_length_8abf5_10 : decode cJ0_length_8abf5 10 = .ok (.ireturn, 1) := by decide +kernel
set_option maxRecDepth 20000 in
theorem ggJ0_charAt_5068e_J0_isLatin1_aae02 : GoodIn wsJ0_charAt_5068e wsJ0_isLatin1_aae02 := goodIn_r _ [6, 7, 8] (by decide +kernel) (by decide +kernel)
set_option maxRecDepth 20000 in
theorem gJ0_charAt_5068e_J0_isLatin1_aae02 : GoodIn wsJ0_charAt_5068e (wsV RJ0 492 RJ0 yJ0_isLatin1_aae02 wsJ0_isLatin1_aae02) := goodIn_app (goodIn_of _ (by decide +kernel)) ggJ0_charAt_5068e_J0_isLatin1_aae02
set_option maxRecDepth 20000 in
theorem ggJ0_charAt_5068e_J1_charAt_3b067 : GoodIn wsJ0_charAt_5068e wsJ1_charAt_3b067 := goodIn_r _ [12, 13, 14, 5, 15, 16, 17, 18, 19, 20] (by decide +kernel) (by decide +kernel)
set_option maxRecDepth 20000 in
theorem gJ0_charAt_5068e_J1_charAt_3b067 : GoodIn wsJ0_charAt_5068e (va_wsS RJ0 495 yJ1_charAt_3b067 wsJ1_charAt_3b067) := goodIn_app (goodIn_of _ (by decide +kernel)) ggJ0_charAt_5068e_J1_charAt_3b067
set_option maxRecDepth 20000 in
theorem ggJ0_charAt_5068e_J2_charAt_3b067 : GoodIn wsJ0_charAt_5068e wsJ2_charAt_3b067 := goodIn_r _ [24, 25, 26, 23, 27, 28, 29, 30, 31, 14, 5, 15, 16, 17, 18, 19, 20, 32, 33, 34, 35, 36, 37] (by decide +kernel) (by decide +kernel)
set_option maxRecDepth 20000 in
theorem gJ0_charAt_5068e_J2_charAt_3b067 : GoodIn wsJ0_charAt_5068e (va_wsS RJ0 498 yJ2_charAt_3b067 wsJ2_charAt_3b067) := goodIn_app (goodIn_of _ (by decide +kernel)) ggJ0_charAt_5068e_J2_charAt_3b067
theorem dJ0_charAt_5068e_0 : decode cJ0_charAt_5068e 0 = .ok (.aload_n 0, 1) := by decide +kernel
theorem dJ0_charAt_5068e_1 : decode cJ0_charAt_5068e 1 = .ok (.invokevirtual 492, 3) := by decide +kernel
theorem dJ0_charAt_5068e_4 : decode cJ0_charAt_5068e 4 = .ok (.ifCond .eq 12, 3) := by decide +kernel
theorem dJ0_charAt_5068e_7 : decode cJ0_charAt_5068e 7 = .ok (.aload_n 0, 1) := by decide +kernel
theorem dJ0_charAt_5068e_8 : decode cJ0_charAt_5068e 8 = .ok (.getfield 9, 3) := by decide +kernel
theorem dJ0_charAt_5068e_11 : decode cJ0_charAt_5068e 11 = .ok (.iload_n 1, 1) := by decide +kernel
theorem dJ0_charAt_5068e_12 : decode cJ0_charAt_5068e 12 = .ok (.invokestatic 495, 3) := by decide +kernel
theorem dJ0_charAt_5068e_15 : decode cJ0_charAt_5068e 15 = .ok (.ireturn, 1) := by decide +kernel
theorem dJ0_charAt_5068e_16 : decode cJ0_charAt_5068e 16 = .ok (.aload_n 0, 1) := by decide +kernel
theorem dJ0_charAt_5068e_17 : decode cJ0_charAt_5068e 17 = .ok (.getfield 9, 3) := by decide +kernel
theorem dJ0_charAt_5068e_20 : decode cJ0_charAt_5068e 20 = .ok (.iload_n 1, 1) := by decide +kernel
theorem dJ0_charAt_5068e_21 : decode cJ0_charAt_5068e 21 = .ok (.invokestatic 498, 3) := by decide +kernel
theorem dJ0_charAt_5068e_24 : decode cJ0_charAt_5068e 24 = .ok (.ireturn, 1) := by decide +kernel
theorem dJ0_coder_7d493_0 : decode cJ0_coder_7d493 0 = .ok (.getstatic 38, 3) := by decide +kernel
theorem dJ0_coder_7d493_3 : decode cJ0_coder_7d493 3 = .ok (.ifCond .eq 10, 3) := by decide +kernel
theorem dJ0_coder_7d493_6 : decode cJ0_coder_7d493 6 = .ok (.aload_n 0, 1) := by decide +kernel
theorem dJ0_coder_7d493_7 : decode cJ0_coder_7d493 7 = .ok (.getfield 15, 3) := by decide +kernel
theorem dJ0_coder_7d493_10 : decode cJ0_coder_7d493 10 = .ok (.goto 4, 3) := by decide +kernel
theorem dJ0_coder_7d493_13 : decode cJ0_coder_7d493 13 = .ok (.iconst 1, 1) := by decide +kernel
theorem dJ0_coder_7d493_14 : decode cJ0_coder_7d493 14 = .ok (.ireturn, 1) := by decide +kernel
theorem dJ0_isLatin1_aae02_0 : decode cJ0_isLatin1_aae02 0 = .ok (.getstatic 38, 3) := by decide +kernel
theorem dJ0_isLatin1_aae02_3 : decode cJ0_isLatin1_aae02 3 = .ok (.ifCond .eq 14, 3) := by decide +kernel
theorem dJ0_isLatin1_aae02_6 : decode cJ0_isLatin1_aae02 6 = .ok (.aload_n 0, 1) := by decide +kernel
theorem dJ0_isLatin1_aae02_7 : decode cJ0_isLatin1_aae02 7 = .ok (.getfield 15, 3) := by decide +kernel
theorem dJ0_isLatin1_aae02_10 : decode cJ0_isLatin1_aae02 10 = .ok (.ifCond .ne 7, 3) := by decide +kernel
theorem dJ0_isLatin1_aae02_13 : decode cJ0_isLatin1_aae02 13 = .ok (.iconst 1, 1) := by decide +kernel
theorem dJ0_isLatin1_aae02_14 : decode cJ0_isLatin1_aae02 14 = .ok (.goto 4, 3) := by decide +kernel
theorem dJ0_isLatin1_aae02_17 : decode cJ0_isLatin1_aae02 17 = .ok (.iconst 0, 1) := by decide +kernel
theorem dJ0_isLatin1_aae02_18 : decode cJ0_isLatin1_aae02 18 = .ok (.ireturn, 1) := by decide +kernel
set_option maxRecDepth 20000 in
theorem ggJ0_checkIndex_df160_J3_checkIndex_8e157 : GoodIn wsJ0_checkIndex_df160 wsJ3_checkIndex_8e157 := goodIn_r _ [5] (by decide +kernel) (by decide +kernel)
set_option maxRecDepth 20000 in
theorem gJ0_checkIndex_df160_J3_checkIndex_8e157 : GoodIn wsJ0_checkIndex_df160 (va_wsS RJ0 1059 yJ3_checkIndex_8e157 wsJ3_checkIndex_8e157) := goodIn_app (goodIn_of _ (by decide +kernel)) ggJ0_checkIndex_df160_J3_checkIndex_8e157
theorem dJ0_checkIndex_df160_0 : decode cJ0_checkIndex_df160 0 = .ok (.iload_n 0, 1) := by decide +kernel
theorem dJ0_checkIndex_df160_1 : decode cJ0_checkIndex_df160 1 = .ok (.iload_n 1, 1) := by decide +kernel
theorem dJ0_checkIndex_df160_2 : decode cJ0_checkIndex_df160 2 = .ok (.getstatic 1053, 3) := by decide +kernel
theorem dJ0_checkIndex_df160_5 : decode cJ0_checkIndex_df160 5 = .ok (.invokestatic 1059, 3) := by decide +kernel
theorem dJ0_checkIndex_df160_8 : decode cJ0_checkIndex_df160 8 = .ok (.pop, 1) := by decide +kernel
theorem dJ0_checkIndex_df160_9 : decode cJ0_checkIndex_df160 9 = .ok (.return_, 1) := by decide +kernel
set_option maxRecDepth 20000 in
theorem ggJ1_charAt_3b067_J0_checkIndex_df160 : GoodIn wsJ1_charAt_3b067 wsJ0_checkIndex_df160 := goodIn_r _ [4, 5, 6, 7, 8, 9] (by decide +kernel) (by decide +kernel)
set_option maxRecDepth 20000 in
theorem gJ1_charAt_3b067_J0_checkIndex_df160 : GoodIn wsJ1_charAt_3b067 (va_wsS RJ1 9 yJ0_checkIndex_df160 wsJ0_checkIndex_df160) := goodIn_app (goodIn_of _ (by decide +kernel)) ggJ1_charAt_3b067_J0_checkIndex_df160
theorem dJ1_charAt_3b067_0 : decode cJ1_charAt_3b067 0 = .ok (.iload_n 1, 1) := by decide +kernel
theorem dJ1_charAt_3b067_1 : decode cJ1_charAt_3b067 1 = .ok (.aload_n 0, 1) := by decide +kernel
theorem dJ1_charAt_3b067_2 : decode cJ1_charAt_3b067 2 = .ok (.arraylength, 1) := by decide +kernel
theorem dJ1_charAt_3b067_3 : decode cJ1_charAt_3b067 3 = .ok (.invokestatic 9, 3) := by decide +kernel
theorem dJ1_charAt_3b067_6 : decode cJ1_charAt_3b067 6 = .ok (.aload_n 0, 1) := by decide +kernel
theorem dJ1_charAt_3b067_7 : decode cJ1_charAt_3b067 7 = .ok (.iload_n 1, 1) := by decide +kernel
theorem dJ1_charAt_3b067_8 : decode cJ1_charAt_3b067 8 = .ok (.baload, 1) := by decide +kernel
theorem dJ1_charAt_3b067_9 : decode cJ1_charAt_3b067 9 = .ok (.sipush 255, 3) := by decide +kernel
theorem dJ1_charAt_3b067_12 : decode cJ1_charAt_3b067 12 = .ok (.iand, 1) := by decide +kernel
theorem dJ1_charAt_3b067_13 : decode cJ1_charAt_3b067 13 = .ok (.i2c, 1) := by decide +kernel
theorem dJ1_charAt_3b067_14 : decode cJ1_charAt_3b067 14 = .ok (.ireturn, 1) := by decide +kernel
set_option maxRecDepth 20000 in
theorem ggJ2_getChar_3b067_J2_length_9d52b : GoodIn wsJ2_getChar_3b067 wsJ2_length_9d52b := goodIn_r _ [7] (by decide +kernel) (by decide +kernel)
set_option maxRecDepth 20000 in
theorem gJ2_getChar_3b067_J2_length_9d52b : GoodIn wsJ2_getChar_3b067 (va_wsS RJ2 48 yJ2_length_9d52b wsJ2_length_9d52b) := goodIn_app (goodIn_of _ (by decide +kernel)) ggJ2_getChar_3b067_J2_length_9d52b
theorem dJ2_getChar_3b067_0 : decode cJ2_getChar_3b067 0 = .ok (.getstatic 44, 3) := by decide +kernel
theorem dJ2_getChar_3b067_3 : decode cJ2_getChar_3b067 3 = .ok (.ifCond .ne 25, 3) := by decide +kernel
theorem dJ2_getChar_3b067_6 : decode cJ2_getChar_3b067 6 = .ok (.iload_n 1, 1) := by decide +kernel
theorem dJ2_getChar_3b067_7 : decode cJ2_getChar_3b067 7 = .ok (.ifCond .lt 11, 3) := by decide +kernel
theorem dJ2_getChar_3b067_10 : decode cJ2_getChar_3b067 10 = .ok (.iload_n 1, 1) := by decide +kernel
theorem dJ2_getChar_3b067_11 : decode cJ2_getChar_3b067 11 = .ok (.aload_n 0, 1) := by decide +kernel
theorem dJ2_getChar_3b067_12 : decode cJ2_getChar_3b067 12 = .ok (.invokestatic 48, 3) := by decide +kernel
theorem dJ2_getChar_3b067_15 : decode cJ2_getChar_3b067 15 = .ok (.if_icmp .lt 13, 3) := by decide +kernel
theorem dJ2_getChar_3b067_18 : decode cJ2_getChar_3b067 18 = .ok (.new 52, 3) := by decide +kernel
theorem dJ2_getChar_3b067_21 : decode cJ2_getChar_3b067 21 = .ok (.dup, 1) := by decide +kernel
theorem dJ2_getChar_3b067_22 : decode cJ2_getChar_3b067 22 = .ok (.ldc 54, 2) := by decide +kernel
theorem dJ2_getChar_3b067_24 : decode cJ2_getChar_3b067 24 = .ok (.invokespecial 56, 3) := by decide +kernel
theorem dJ2_getChar_3b067_27 : decode cJ2_getChar_3b067 27 = .ok (.athrow, 1) := by decide +kernel
theorem dJ2_getChar_3b067_28 : decode cJ2_getChar_3b067 28 = .ok (.iload_n 1, 1) := by decide +kernel
theorem dJ2_getChar_3b067_29 : decode cJ2_getChar_3b067 29 = .ok (.iconst 1, 1) := by decide +kernel
theorem dJ2_getChar_3b067_30 : decode cJ2_getChar_3b067 30 = .ok (.ishl, 1) := by decide +kernel
theorem dJ2_getChar_3b067_31 : decode cJ2_getChar_3b067 31 = .ok (.istore_n 1, 1) := by decide +kernel
theorem dJ2_getChar_3b067_32 : decode cJ2_getChar_3b067 32 = .ok (.aload_n 0, 1) := by decide +kernel
theorem dJ2_getChar_3b067_33 : decode cJ2_getChar_3b067 33 = .ok (.iload_n 1, 1) := by decide +kernel
theorem dJ2_getChar_3b067_34 : decode cJ2_getChar_3b067 34 = .ok (.iinc 1 1, 3) := by decide +kernel
theorem dJ2_getChar_3b067_37 : decode cJ2_getChar_3b067 37 = .ok (.baload, 1) := by decide +kernel
theorem dJ2_getChar_3b067_38 : decode cJ2_getChar_3b067 38 = .ok (.sipush 255, 3) := by decide +kernel
theorem dJ2_getChar_3b067_41 : decode cJ2_getChar_3b067 41 = .ok (.iand, 1) := by decide +kernel
theorem dJ2_getChar_3b067_42 : decode cJ2_getChar_3b067 42 = .ok (.getstatic 59, 3) := by decide +kernel
theorem dJ2_getChar_3b067_45 : decode cJ2_getChar_3b067 45 = .ok (.ishl, 1) := by decide +kernel
theorem dJ2_getChar_3b067_46 : decode cJ2_getChar_3b067 46 = .ok (.aload_n 0, 1) := by decide +kernel
theorem dJ2_getChar_3b067_47 : decode cJ2_getChar_3b067 47 = .ok (.iload_n 1, 1) := by decide +kernel
theorem dJ2_getChar_3b067_48 : decode cJ2_getChar_3b067 48 = .ok (.baload, 1) := by decide +kernel
theorem dJ2_getChar_3b067_49 : decode cJ2_getChar_3b067 49 = .ok (.sipush 255, 3) := by decide +kernel
theorem dJ2_getChar_3b067_52 : decode cJ2_getChar_3b067 52 = .ok (.iand, 1) := by decide +kernel
theorem dJ2_getChar_3b067_53 : decode cJ2_getChar_3b067 53 = .ok (.getstatic 63, 3) := by decide +kernel
theorem dJ2_getChar_3b067_56 : decode cJ2_getChar_3b067 56 = .ok (.ishl, 1) := by decide +kernel
theorem dJ2_getChar_3b067_57 : decode cJ2_getChar_3b067 57 = .ok (.ior, 1) := by decide +kernel
theorem dJ2_getChar_3b067_58 : decode cJ2_getChar_3b067 58 = .ok (.i2c, 1) := by decide +kernel
theorem dJ2_getChar_3b067_59 : decode cJ2_getChar_3b067 59 = .ok (.ireturn, 1) := by decide +kernel
theorem dJ2_length_9d52b_0 : decode cJ2_length_9d52b 0 = .ok (.aload_n 0, 1) := by decide +kernel
theorem dJ2_length_9d52b_1 : decode cJ2_length_9d52b 1 = .ok (.arraylength, 1) := by decide +kernel
theorem dJ2_length_9d52b_2 : decode cJ2_length_9d52b 2 = .ok (.iconst 1, 1) := by decide +kernel
theorem dJ2_length_9d52b_3 : decode cJ2_length_9d52b 3 = .ok (.ishr, 1) := by decide +kernel
theorem dJ2_length_9d52b_4 : decode cJ2_length_9d52b 4 = .ok (.ireturn, 1) := by decide +kernel
set_option maxRecDepth 20000 in
theorem ggJ2_charAt_3b067_J2_checkIndex_2214a : GoodIn wsJ2_charAt_3b067 wsJ2_checkIndex_2214a := goodIn_r _ [4, 5, 6, 3, 7, 8, 9, 10, 11, 12, 13, 14, 15, 16] (by decide +kernel) (by decide +kernel)
set_option maxRecDepth 20000 in
theorem gJ2_charAt_3b067_J2_checkIndex_2214a : GoodIn wsJ2_charAt_3b067 (va_wsS RJ2 67 yJ2_checkIndex_2214a wsJ2_checkIndex_2214a) := goodIn_app (goodIn_of _ (by decide +kernel)) ggJ2_charAt_3b067_J2_checkIndex_2214a
set_option maxRecDepth 20000 in
theorem ggJ2_charAt_3b067_J2_getChar_3b067 : GoodIn wsJ2_charAt_3b067 wsJ2_getChar_3b067 := goodIn_r _ [19, 20, 21, 22, 5, 6, 3, 7] (by decide +kernel) (by decide +kernel)
set_option maxRecDepth 20000 in
theorem gJ2_charAt_3b067_J2_getChar_3b067 : GoodIn wsJ2_charAt_3b067 (va_wsS RJ2 71 yJ2_getChar_3b067 wsJ2_getChar_3b067) := goodIn_app (goodIn_of _ (by decide +kernel)) ggJ2_charAt_3b067_J2_getChar_3b067
theorem dJ2_charAt_3b067_0 : decode cJ2_charAt_3b067 0 = .ok (.iload_n 1, 1) := by decide +kernel
theorem dJ2_charAt_3b067_1 : decode cJ2_charAt_3b067 1 = .ok (.aload_n 0, 1) := by decide +kernel
theorem dJ2_charAt_3b067_2 : decode cJ2_charAt_3b067 2 = .ok (.invokestatic 67, 3) := by decide +kernel
theorem dJ2_charAt_3b067_5 : decode cJ2_charAt_3b067 5 = .ok (.aload_n 0, 1) := by decide +kernel
theorem dJ2_charAt_3b067_6 : decode cJ2_charAt_3b067 6 = .ok (.iload_n 1, 1) := by decide +kernel
theorem dJ2_charAt_3b067_7 : decode cJ2_charAt_3b067 7 = .ok (.invokestatic 71, 3) := by decide +kernel
theorem dJ2_charAt_3b067_10 : decode cJ2_charAt_3b067 10 = .ok (.ireturn, 1) := by decide +kernel
set_option maxRecDepth 20000 in
theorem ggJ2_checkIndex_2214a_J2_length_9d52b : GoodIn wsJ2_checkIndex_2214a wsJ2_length_9d52b := goodIn_r _ [4] (by decide +kernel) (by decide +kernel)
set_option maxRecDepth 20000 in
theorem gJ2_checkIndex_2214a_J2_length_9d52b : GoodIn wsJ2_checkIndex_2214a (va_wsS RJ2 48 yJ2_length_9d52b wsJ2_length_9d52b) := goodIn_app (goodIn_of _ (by decide +kernel)) ggJ2_checkIndex_2214a_J2_length_9d52b
set_option maxRecDepth 20000 in
theorem ggJ2_checkIndex_2214a_J0_checkIndex_df160 : GoodIn wsJ2_checkIndex_2214a wsJ0_checkIndex_df160 := goodIn_r _ [8, 9, 10, 11, 12, 13] (by decide +kernel) (by decide +kernel)
set_option maxRecDepth 20000 in
theorem gJ2_checkIndex_2214a_J0_checkIndex_df160 : GoodIn wsJ2_checkIndex_2214a (va_wsS RJ2 414 yJ0_checkIndex_df160 wsJ0_checkIndex_df160) := goodIn_app (goodIn_of _ (by decide +kernel)) ggJ2_checkIndex_2214a_J0_checkIndex_df160
theorem dJ2_checkIndex_2214a_0 : decode cJ2_checkIndex_2214a 0 = .ok (.iload_n 0, 1) := by decide +kernel
theorem dJ2_checkIndex_2214a_1 : decode cJ2_checkIndex_2214a 1 = .ok (.aload_n 1, 1) := by decide +kernel
theorem dJ2_checkIndex_2214a_2 : decode cJ2_checkIndex_2214a 2 = .ok (.invokestatic 48, 3) := by decide +kernel
theorem dJ2_checkIndex_2214a_5 : decode cJ2_checkIndex_2214a 5 = .ok (.invokestatic 414, 3) := by decide +kernel
theorem dJ2_checkIndex_2214a_8 : decode cJ2_checkIndex_2214a 8 = .ok (.return_, 1) := by decide +kernel
theorem dJ3_checkIndex_8e157_0 : decode cJ3_checkIndex_8e157 0 = .ok (.iload_n 0, 1) := by decide +kernel
theorem dJ3_checkIndex_8e157_1 : decode cJ3_checkIndex_8e157 1 = .ok (.ifCond .lt 8, 3) := by decide +kernel
theorem dJ3_checkIndex_8e157_4 : decode cJ3_checkIndex_8e157 4 = .ok (.iload_n 0, 1) := by decide +kernel
theorem dJ3_checkIndex_8e157_5 : decode cJ3_checkIndex_8e157 5 = .ok (.iload_n 1, 1) := by decide +kernel
theorem dJ3_checkIndex_8e157_6 : decode cJ3_checkIndex_8e157 6 = .ok (.if_icmp .lt 10, 3) := by decide +kernel
theorem dJ3_checkIndex_8e157_9 : decode cJ3_checkIndex_8e157 9 = .ok (.aload_n 2, 1) := by decide +kernel
theorem dJ3_checkIndex_8e157_10 : decode cJ3_checkIndex_8e157 10 = .ok (.iload_n 0, 1) := by decide +kernel
theorem dJ3_checkIndex_8e157_11 : decode cJ3_checkIndex_8e157 11 = .ok (.iload_n 1, 1) := by decide +kernel
theorem dJ3_checkIndex_8e157_12 : decode cJ3_checkIndex_8e157 12 = .ok (.invokestatic 95, 3) := by decide +kernel
theorem dJ3_checkIndex_8e157_15 : decode cJ3_checkIndex_8e157 15 = .ok (.athrow, 1) := by decide +kernel
theorem dJ3_checkIndex_8e157_16 : decode cJ3_checkIndex_8e157 16 = .ok (.iload_n 0, 1) := by decide +kernel
theorem dJ3_checkIndex_8e157_17 : decode cJ3_checkIndex_8e157 17 = .ok (.ireturn, 1) := by decide +kernel
set_option maxRecDepth 20000 in
theorem ggL_law_X5_init : GoodIn wsL_law wsX5_init := goodIn_r _ [8, 9, 10, 11, 12, 13, 14, 15, 16, 17, 18, 19, 20, 21, 22, 23, 24, 25, 26, 27, 28, 29, 30, 31, 32, 33, 34, 35, 36, 37, 38, 39, 40, 41, 42, 43, 44, 45, 46, 47, 48, 49, 50, 51, 52, 53, 54, 55, 56, 57, 58, 59, 60, 61, 62, 63, 64, 65, 66, 67, 68, 69, 70, 71, 72, 73, 74, 75, 764, 765, 714, 715, 716, 717, 718, 719, 720, 721, 766, 767, 768, 769, 770, 771, 772, 773, 774, 775, 776, 777, 778, 779, 780, 781, 782, 783, 784, 785, 786, 787, 788, 789, 790, 791, 792, 793, 794, 795, 796, 797, 798, 799, 800, 801, 802] (by decide +kernel) (by decide +kernel)
set_option maxRecDepth 20000 in
theorem gL_law_X5_init : GoodIn wsL_law (wsX5_init) := ggL_law_X5_init
set_option maxRecDepth 20000 in
theorem ggL_law_X6_init : GoodIn wsL_law wsX6_init := goodIn_r _ [78, 79, 10, 11, 38, 80, 81, 82, 83, 84, 40, 85, 86, 87, 88, 89, 90, 91, 92, 93, 94, 95, 96, 97, 98, 99, 100, 101, 102, 103, 104, 105, 106, 107, 108, 109, 110, 111, 722, 723, 724, 725, 726, 727, 728, 729, 730, 731, 732, 733, 734, 735, 736, 737, 738, 739, 740, 741, 742, 743, 744, 745, 746, 747, 748, 749, 750, 751, 752, 753, 754, 755, 756, 757, 758, 759, 760, 761, 762, 763] (by decide +kernel) (by decide +kernel)
set_option maxRecDepth 20000 in
theorem gL_law_X6_init : GoodIn wsL_law (wsX6_init) := ggL_law_X6_init
set_option maxRecDepth 20000 in
theorem ggL_law_X5_mark : GoodIn wsL_law wsX5_mark := goodIn_r _ [115, 15, 116, 117, 118, 14, 119, 39, 41, 120, 121, 122, 123, 124, 125, 126, 127, 128, 129, 130, 131, 132, 133, 134, 135, 136, 137, 138, 139, 140, 141, 142, 143, 144, 145, 146, 147, 148, 149, 150, 151, 152, 153, 154, 155, 156, 157, 158, 159, 160, 161, 162, 163, 164, 2, 165, 714, 715, 716, 717, 718, 719, 720, 721, 764, 765] (by decide +kernel) (by decide +kernel)
set_option maxRecDepth 20000 in
theorem gL_law_X5_mark : GoodIn wsL_law (wsV RL 13 RX5 yX5_mark wsX5_mark) := goodIn_app (goodIn_of _ (by decide +kernel)) ggL_law_X5_mark
set_option maxRecDepth 20000 in
theorem ggL_law_X6_mark : GoodIn wsL_law wsX6_mark := goodIn_r _ [169, 170, 171, 5, 172, 173, 174, 175, 176, 177, 178, 179, 80, 84, 722, 723, 724, 725, 726, 727, 728, 729, 730, 731, 732, 733, 734, 735, 736, 737, 738, 739, 740, 741, 742, 743, 744, 745, 746, 747, 748, 749, 750, 751, 752, 753, 754, 755, 756, 757, 758, 759, 760, 761, 762, 763] (by decide +kernel) (by decide +kernel)
set_option maxRecDepth 20000 in
theorem gL_law_X6_mark : GoodIn wsL_law (wsV RL 17 RX6 yX6_mark wsX6_mark) := goodIn_app (goodIn_of _ (by decide +kernel)) ggL_law_X6_mark
set_option maxRecDepth 20000 in
theorem ggL_law_X5_line : GoodIn wsL_law wsX5_line := goodIn_r _ [183, 15, 184, 185, 186, 14, 187, 188, 189, 156, 190, 191, 192, 193, 120, 121, 122, 123, 124, 125, 194, 195, 196, 197, 198, 134, 199, 200, 117, 118, 119, 39, 41, 126, 127, 128, 129, 130, 131, 132, 133, 135, 136, 137, 138, 139, 140, 141, 142, 143, 144, 145, 146, 147, 148, 149, 150, 151, 152, 153, 154, 155, 157, 158, 159, 160, 161, 162, 163, 164, 2, 165, 714, 715, 716, 717, 718, 719, 720, 721, 764, 765] (by decide +kernel) (by decide +kernel)
set_option maxRecDepth 20000 in
theorem gL_law_X5_line : GoodIn wsL_law (wsV RL 18 RX5 yX5_line wsX5_line) := goodIn_app (goodIn_of _ (by decide +kernel)) ggL_law_X5_line
set_option maxRecDepth 20000 in
theorem ggL_law_X6_line : GoodIn wsL_law wsX6_line := goodIn_r _ [204, 205, 189, 156, 190, 206, 192, 193, 170, 171, 5, 172, 173, 174, 175, 207, 198, 134, 199, 176, 177, 178, 179, 80, 84, 722, 723, 724, 725, 726, 727, 728, 729, 730, 731, 732, 733, 734, 735, 736, 737, 738, 739, 740, 741, 742, 743, 744, 745, 746, 747, 748, 749, 750, 751, 752, 753, 754, 755, 756, 757, 758, 759, 760, 761, 762, 763] (by decide +kernel) (by decide +kernel)
set_option maxRecDepth 20000 in
theorem gL_law_X6_line : GoodIn wsL_law (wsV RL 22 RX6 yX6_line wsX6_line) := goodIn_app (goodIn_of _ (by decide +kernel)) ggL_law_X6_line
set_option maxRecDepth 20000 in
theorem ggL_law_X5_stands : GoodIn wsL_law wsX5_stands := goodIn_r _ [211, 212, 121, 14, 122, 213, 127, 128, 129, 130, 131, 132, 133, 134, 135, 214, 137, 138, 139, 140, 141] (by decide +kernel) (by decide +kernel)
set_option maxRecDepth 20000 in
theorem gL_law_X5_stands : GoodIn wsL_law (wsV RL 23 RX5 yX5_stands wsX5_stands) := goodIn_app (goodIn_of _ (by decide +kernel)) ggL_law_X5_stands
set_option maxRecDepth 20000 in
theorem ggL_law_X6_stands : GoodIn wsL_law wsX6_stands := goodIn_r _ [218, 170, 171, 5, 172, 173, 174, 175, 219, 220, 221, 222, 133, 134, 135, 223, 224, 225] (by decide +kernel) (by decide +kernel)
set_option maxRecDepth 20000 in
theorem gL_law_X6_stands : GoodIn wsL_law (wsV RL 27 RX6 yX6_stands wsX6_stands) := goodIn_app (goodIn_of _ (by decide +kernel)) ggL_law_X6_stands
set_option maxRecDepth 20000 in
theorem ggL_law_X5_colour : GoodIn wsL_law wsX5_colour := goodIn_r _ [229, 15, 230, 231, 14, 232, 233, 234, 235, 236, 142, 143, 144, 145, 146, 147, 148, 149, 132, 133, 134, 135, 129, 130, 131, 150, 151, 152, 153, 154, 155, 156, 157, 39, 139, 140, 141, 120, 121, 122, 158, 159, 160, 714, 715, 716, 717, 718, 719, 720, 721, 764, 765] (by decide +kernel) (by decide +kernel)
set_option maxRecDepth 20000 in
theorem gL_law_X5_colour : GoodIn wsL_law (wsV RL 28 RX5 yX5_colour wsX5_colour) := goodIn_app (goodIn_of _ (by decide +kernel)) ggL_law_X5_colour
set_option maxRecDepth 20000 in
theorem ggL_law_X6_colour : GoodIn wsL_law wsX6_colour := goodIn_r _ [240, 241, 242, 5, 243, 173, 174, 175, 244, 245, 246, 247, 205, 189, 156, 190, 248, 155, 157, 249, 250, 251, 252, 84, 82, 80, 219, 220, 221, 222, 133, 134, 135, 223, 224, 225, 722, 723, 724, 725, 726, 727, 728, 729, 730, 731, 732, 733, 734, 735, 736, 737, 738, 739, 740, 741, 742, 743, 744, 745, 746, 747, 748, 749, 750, 751, 752, 753, 754, 755, 756, 757, 758, 759, 760, 761, 762, 763] (by decide +kernel) (by decide +kernel)
set_option maxRecDepth 20000 in
theorem gL_law_X6_colour : GoodIn wsL_law (wsV RL 32 RX6 yX6_colour wsX6_colour) := goodIn_app (goodIn_of _ (by decide +kernel)) ggL_law_X6_colour
set_option maxRecDepth 20000 in
theorem ggL_law_X5_from : GoodIn wsL_law wsX5_from := goodIn_r _ [256, 15, 230, 231, 14, 232, 257, 143, 144, 145, 146, 147, 148, 149, 132, 133, 134, 135, 129, 130, 131, 150, 151, 152, 153, 154, 155, 156, 157, 39, 139, 140, 141, 120, 121, 122, 158, 159, 160, 714, 715, 716, 717, 718, 719, 720, 721, 764, 765] (by decide +kernel) (by decide +kernel)
set_option maxRecDepth 20000 in
theorem gL_law_X5_from : GoodIn wsL_law (wsV RL 33 RX5 yX5_from wsX5_from) := goodIn_app (goodIn_of _ (by decide +kernel)) ggL_law_X5_from
set_option maxRecDepth 20000 in
theorem ggL_law_X6_from : GoodIn wsL_law wsX6_from := goodIn_r _ [261, 241, 242, 5, 243, 173, 174, 175, 244, 245, 246, 247, 205, 189, 156, 190, 248, 155, 157, 249, 250, 251, 252, 84, 82, 80, 219, 220, 221, 222, 133, 134, 135, 223, 224, 225, 722, 723, 724, 725, 726, 727, 728, 729, 730, 731, 732, 733, 734, 735, 736, 737, 738, 739, 740, 741, 742, 743, 744, 745, 746, 747, 748, 749, 750, 751, 752, 753, 754, 755, 756, 757, 758, 759, 760, 761, 762, 763] (by decide +kernel) (by decide +kernel)
set_option maxRecDepth 20000 in
theorem gL_law_X6_from : GoodIn wsL_law (wsV RL 36 RX6 yX6_from wsX6_from) := goodIn_app (goodIn_of _ (by decide +kernel)) ggL_law_X6_from
set_option maxRecDepth 20000 in
theorem ggL_law_X5_seam : GoodIn wsL_law wsX5_seam := goodIn_r _ [265, 15, 266, 267, 268, 14, 269, 146, 147, 148, 149, 132, 133, 134, 135, 129, 130, 131, 150, 151, 152, 153, 154, 155, 156, 157, 39, 139, 140, 141, 120, 121, 122, 158, 159, 160, 714, 715, 716, 717, 718, 719, 720, 721, 764, 765] (by decide +kernel) (by decide +kernel)
set_option maxRecDepth 20000 in
theorem gL_law_X5_seam : GoodIn wsL_law (wsV RL 37 RX5 yX5_seam wsX5_seam) := goodIn_app (goodIn_of _ (by decide +kernel)) ggL_law_X5_seam
set_option maxRecDepth 20000 in
theorem ggL_law_X6_seam : GoodIn wsL_law wsX6_seam := goodIn_r _ [273, 173, 174, 5, 175, 249, 250, 251, 252, 84, 82, 80, 219, 220, 221, 222, 133, 134, 135, 223, 224, 225, 722, 723, 724, 725, 726, 727, 728, 729, 730, 731, 732, 733, 734, 735, 736, 737, 738, 739, 740, 741, 742, 743, 744, 745, 746, 747, 748, 749, 750, 751, 752, 753, 754, 755, 756, 757, 758, 759, 760, 761, 762, 763] (by decide +kernel) (by decide +kernel)
set_option maxRecDepth 20000 in
theorem gL_law_X6_seam : GoodIn wsL_law (wsV RL 41 RX6 yX6_seam wsX6_seam) := goodIn_app (goodIn_of _ (by decide +kernel)) ggL_law_X6_seam
set_option maxRecDepth 20000 in
theorem ggL_law_X5_gang : GoodIn wsL_law wsX5_gang := goodIn_r _ [277, 19, 278, 279, 280, 18, 281, 282, 46, 714, 715, 716, 717, 718, 719, 720, 721, 766, 767, 768, 769, 770, 771, 772, 773, 774, 775, 776, 777] (by decide +kernel) (by decide +kernel)
set_option maxRecDepth 20000 in
theorem gL_law_X5_gang : GoodIn wsL_law (wsV RL 42 RX5 yX5_gang wsX5_gang) := goodIn_app (goodIn_of _ (by decide +kernel)) ggL_law_X5_gang
set_option maxRecDepth 20000 in
theorem ggL_law_X6_gang : GoodIn wsL_law wsX6_gang := goodIn_r _ [286, 287, 85, 173, 174, 5, 175, 722, 723, 724, 725, 726, 727, 728, 729, 730, 731, 732, 733, 734, 735, 736, 737, 738, 739, 740, 741, 742, 743, 744, 745, 746, 747, 748, 749, 750, 751, 752, 753, 754, 755, 756, 757, 758, 759, 760, 761, 762, 763] (by decide +kernel) (by decide +kernel)
set_option maxRecDepth 20000 in
theorem gL_law_X6_gang : GoodIn wsL_law (wsV RL 45 RX6 yX6_gang wsX6_gang) := goodIn_app (goodIn_of _ (by decide +kernel)) ggL_law_X6_gang
set_option maxRecDepth 20000 in
theorem ggL_law_X5_put : GoodIn wsL_law wsX5_put := goodIn_r _ [291, 19, 292, 293, 294, 18, 295, 47, 48, 49, 296, 51, 50, 297, 192, 156, 193, 298, 299, 300, 301, 282, 164, 2, 165, 302, 303, 304, 305, 55, 306, 307, 308, 14, 309, 41, 714, 715, 716, 717, 718, 719, 720, 721, 766, 767, 768, 769, 770, 771, 772, 773, 774, 775, 776, 777, 764, 765] (by decide +kernel) (by decide +kernel)
set_option maxRecDepth 20000 in
theorem gL_law_X5_put : GoodIn wsL_law (wsV RL 46 RX5 yX5_put wsX5_put) := goodIn_app (goodIn_of _ (by decide +kernel)) ggL_law_X5_put
set_option maxRecDepth 20000 in
theorem ggL_law_X6_put : GoodIn wsL_law wsX6_put := goodIn_r _ [313, 287, 86, 87, 88, 314, 90, 89, 206, 192, 156, 193, 173, 174, 5, 175, 315, 316, 317, 318, 319, 320, 321, 244, 245, 246, 247, 205, 189, 190, 248, 155, 157, 249, 250, 251, 252, 84, 82, 80, 219, 220, 221, 222, 133, 134, 135, 223, 224, 225, 722, 723, 724, 725, 726, 727, 728, 729, 730, 731, 732, 733, 734, 735, 736, 737, 738, 739, 740, 741, 742, 743, 744, 745, 746, 747, 748, 749, 750, 751, 752, 753, 754, 755, 756, 757, 758, 759, 760, 761, 762, 763] (by decide +kernel) (by decide +kernel)
set_option maxRecDepth 20000 in
theorem gL_law_X6_put : GoodIn wsL_law (wsV RL 49 RX6 yX6_put wsX6_put) := goodIn_app (goodIn_of _ (by decide +kernel)) ggL_law_X6_put
set_option maxRecDepth 20000 in
theorem ggL_law_X5_day : GoodIn wsL_law wsX5_day := goodIn_r _ [325, 19, 326, 327, 328, 18, 329, 296, 47, 330, 331, 332, 333, 50, 46, 297, 192, 156, 193, 298, 299, 300, 301, 282, 164, 2, 165, 334, 335, 336, 337, 48, 51, 52, 53, 49, 714, 715, 716, 717, 718, 719, 720, 721, 766, 767, 768, 769, 770, 771, 772, 773, 774, 775, 776, 777] (by decide +kernel) (by decide +kernel)
set_option maxRecDepth 20000 in
theorem gL_law_X5_day : GoodIn wsL_law (wsV RL 50 RX5 yX5_day wsX5_day) := goodIn_app (goodIn_of _ (by decide +kernel)) ggL_law_X5_day
set_option maxRecDepth 20000 in
theorem ggL_law_X6_day : GoodIn wsL_law wsX6_day := goodIn_r _ [341, 314, 287, 86, 89, 85, 206, 192, 156, 193, 87, 90, 91, 92, 88, 722, 723, 724, 725, 726, 727, 728, 729, 730, 731, 732, 733, 734, 735, 736, 737, 738, 739, 740, 741, 742, 743, 744, 745, 746, 747, 748, 749, 750, 751, 752, 753, 754, 755, 756, 757, 758, 759, 760, 761, 762, 763] (by decide +kernel) (by decide +kernel)
set_option maxRecDepth 20000 in
theorem gL_law_X6_day : GoodIn wsL_law (wsV RL 54 RX6 yX6_day wsX6_day) := goodIn_app (goodIn_of _ (by decide +kernel)) ggL_law_X6_day
set_option maxRecDepth 20000 in
theorem ggL_law_X5_square : GoodIn wsL_law wsX5_square := goodIn_r _ [345, 19, 346, 347, 348, 18, 349, 48, 49, 50, 51, 52, 53, 164, 2, 165, 302, 303, 304, 305, 55, 306, 307, 308, 14, 309, 41, 714, 715, 716, 717, 718, 719, 720, 721, 766, 767, 768, 769, 770, 771, 772, 773, 774, 775, 776, 777, 764, 765] (by decide +kernel) (by decide +kernel)
set_option maxRecDepth 20000 in
theorem gL_law_X5_square : GoodIn wsL_law (wsV RL 55 RX5 yX5_square wsX5_square) := goodIn_app (goodIn_of _ (by decide +kernel)) ggL_law_X5_square
set_option maxRecDepth 20000 in
theorem ggL_law_X6_square : GoodIn wsL_law wsX6_square := goodIn_r _ [353, 87, 88, 89, 90, 91, 92, 315, 316, 5, 317, 173, 174, 175, 318, 319, 320, 321, 244, 245, 246, 247, 205, 189, 156, 190, 248, 155, 157, 249, 250, 251, 252, 84, 82, 80, 219, 220, 221, 222, 133, 134, 135, 223, 224, 225, 722, 723, 724, 725, 726, 727, 728, 729, 730, 731, 732, 733, 734, 735, 736, 737, 738, 739, 740, 741, 742, 743, 744, 745, 746, 747, 748, 749, 750, 751, 752, 753, 754, 755, 756, 757, 758, 759, 760, 761, 762, 763] (by decide +kernel) (by decide +kernel)
set_option maxRecDepth 20000 in
theorem gL_law_X6_square : GoodIn wsL_law (wsV RL 58 RX6 yX6_square wsX6_square) := goodIn_app (goodIn_of _ (by decide +kernel)) ggL_law_X6_square
set_option maxRecDepth 20000 in
theorem ggL_law_X5_least : GoodIn wsL_law wsX5_least := goodIn_r _ [357, 19, 358, 359, 360, 18, 361, 282, 54, 362, 363, 364, 365, 366, 367, 155, 156, 157, 368, 369, 370, 371, 297, 192, 193, 372, 373, 374, 375, 46, 302, 303, 304, 305, 55, 306, 307, 308, 14, 309, 41, 164, 2, 165, 714, 715, 716, 717, 718, 719, 720, 721, 766, 767, 768, 769, 770, 771, 772, 773, 774, 775, 776, 777, 764, 765] (by decide +kernel) (by decide +kernel)
set_option maxRecDepth 20000 in
theorem gL_law_X5_least : GoodIn wsL_law (wsV RL 59 RX5 yX5_least wsX5_least) := goodIn_app (goodIn_of _ (by decide +kernel)) ggL_law_X5_least
set_option maxRecDepth 20000 in
theorem ggL_law_X6_least : GoodIn wsL_law wsX6_least := goodIn_r _ [379, 287, 248, 155, 156, 157, 93, 94, 85, 206, 192, 193, 173, 174, 5, 175, 318, 319, 320, 321, 244, 245, 246, 247, 205, 189, 190, 249, 250, 251, 252, 84, 82, 80, 219, 220, 221, 222, 133, 134, 135, 223, 224, 225, 722, 723, 724, 725, 726, 727, 728, 729, 730, 731, 732, 733, 734, 735, 736, 737, 738, 739, 740, 741, 742, 743, 744, 745, 746, 747, 748, 749, 750, 751, 752, 753, 754, 755, 756, 757, 758, 759, 760, 761, 762, 763] (by decide +kernel) (by decide +kernel)
set_option maxRecDepth 20000 in
theorem gL_law_X6_least : GoodIn wsL_law (wsV RL 63 RX6 yX6_least wsX6_least) := goodIn_app (goodIn_of _ (by decide +kernel)) ggL_law_X6_least
set_option maxRecDepth 20000 in
theorem ggL_law_X5_feed : GoodIn wsL_law wsX5_feed := goodIn_r _ [383, 23, 384, 385, 386, 22, 387, 388, 389, 390, 391, 392, 59, 714, 715, 716, 717, 718, 719, 720, 721, 778, 779, 780, 781, 782, 783] (by decide +kernel) (by decide +kernel)
set_option maxRecDepth 20000 in
theorem gL_law_X5_feed : GoodIn wsL_law (wsV RL 64 RX5 yX5_feed wsX5_feed) := goodIn_app (goodIn_of _ (by decide +kernel)) ggL_law_X5_feed
set_option maxRecDepth 20000 in
theorem ggL_law_X6_feed : GoodIn wsL_law wsX6_feed := goodIn_r _ [396, 397, 398, 399, 400, 5, 401, 95, 722, 723, 724, 725, 726, 727, 728, 729, 730, 731, 732, 733, 734, 735, 736, 737, 738, 739, 740, 741, 742, 743, 744, 745, 746, 747, 748, 749, 750, 751, 752, 753, 754, 755, 756, 757, 758, 759, 760, 761, 762, 763] (by decide +kernel) (by decide +kernel)
set_option maxRecDepth 20000 in
theorem gL_law_X6_feed : GoodIn wsL_law (wsV RL 68 RX6 yX6_feed wsX6_feed) := goodIn_app (goodIn_of _ (by decide +kernel)) ggL_law_X6_feed
set_option maxRecDepth 20000 in
theorem ggL_law_X5_hall : GoodIn wsL_law wsX5_hall := goodIn_r _ [405, 23, 33, 32, 34, 25, 24, 30, 31, 406, 407, 408, 22, 409, 388, 410, 411, 412, 413, 414, 155, 156, 157, 415, 416, 417, 418, 419, 420, 421, 422, 423, 75, 424, 425, 426, 427, 428, 429, 430, 431, 432, 59, 433, 434, 435, 436, 437, 438, 439, 440, 441, 442, 443, 444, 445, 446, 447, 448, 449, 450, 451, 452, 453, 454, 455, 456, 457, 458, 459, 460, 461, 462, 463, 464, 465, 466, 467, 468, 469, 470, 471, 472, 473, 474, 475, 476, 477, 478, 479, 480, 481, 482, 483, 484, 485, 486, 487, 488, 489, 490, 491, 492, 493, 494, 495, 496, 497, 498, 499, 500, 501, 502, 503, 504, 505, 506, 507, 508, 509, 70, 71, 510, 511, 512, 513, 514, 515, 516, 517, 518, 519, 520, 521, 522, 523, 524, 525, 526, 527, 528, 529, 72, 73, 74, 66, 67, 68, 69, 10, 11, 40, 714, 715, 716, 717, 718, 719, 720, 721, 791, 792, 793, 794, 795, 796, 797, 798, 799, 800, 801, 802, 778, 779, 780, 781, 782, 783] (by decide +kernel) (by decide +kernel)
set_option maxRecDepth 20000 in
theorem gL_law_X5_hall : GoodIn wsL_law (wsV RL 69 RX5 yX5_hall wsX5_hall) := goodIn_app (goodIn_of _ (by decide +kernel)) ggL_law_X5_hall
set_option maxRecDepth 20000 in
theorem ggL_law_X6_hall : GoodIn wsL_law wsX6_hall := goodIn_r _ [533, 397, 534, 96, 95, 535, 536, 98, 97, 173, 174, 5, 175, 537, 538, 539, 540, 541, 542, 543, 544, 101, 99, 545, 546, 547, 548, 100, 549, 550, 551, 552, 553, 554, 555, 556, 557, 558, 559, 560, 561, 562, 563, 564, 565, 566, 567, 568, 102, 569, 570, 571, 103, 104, 722, 723, 724, 725, 726, 727, 728, 729, 730, 731, 732, 733, 734, 735, 736, 737, 738, 739, 740, 741, 742, 743, 744, 745, 746, 747, 748, 749, 750, 751, 752, 753, 754, 755, 756, 757, 758, 759, 760, 761, 762, 763] (by decide +kernel) (by decide +kernel)
set_option maxRecDepth 20000 in
theorem gL_law_X6_hall : GoodIn wsL_law (wsV RL 72 RX6 yX6_hall wsX6_hall) := goodIn_app (goodIn_of _ (by decide +kernel)) ggL_law_X6_hall
set_option maxRecDepth 20000 in
theorem ggL_law_X5_fault : GoodIn wsL_law wsX5_fault := goodIn_r _ [575, 34, 714, 715, 716, 717, 718, 719, 720, 721] (by decide +kernel) (by decide +kernel)
set_option maxRecDepth 20000 in
theorem gL_law_X5_fault : GoodIn wsL_law (wsV RL 73 RX5 yX5_fault wsX5_fault) := goodIn_app (goodIn_of _ (by decide +kernel)) ggL_law_X5_fault
set_option maxRecDepth 20000 in
theorem ggL_law_X6_fault : GoodIn wsL_law wsX6_fault := goodIn_r _ [579, 97, 722, 723, 724, 725, 726, 727, 728, 729, 730, 731, 732, 733, 734, 735, 736, 737, 738, 739, 740, 741, 742, 743, 744, 745, 746, 747, 748, 749, 750, 751, 752, 753, 754, 755, 756, 757, 758, 759, 760, 761, 762, 763] (by decide +kernel) (by decide +kernel)
set_option maxRecDepth 20000 in
theorem gL_law_X6_fault : GoodIn wsL_law (wsV RL 76 RX6 yX6_fault wsX6_fault) := goodIn_app (goodIn_of _ (by decide +kernel)) ggL_law_X6_fault
set_option maxRecDepth 20000 in
theorem ggL_law_X5_week : GoodIn wsL_law wsX5_week := goodIn_r _ [583, 584, 585, 586, 2, 587, 25, 588, 589, 590, 591, 592, 593, 594, 31, 595, 596, 75, 424, 597, 155, 156, 157, 598, 599, 600, 601, 602, 603, 604, 423, 70, 605, 606, 607, 608, 71, 609, 610, 611, 612, 72, 73, 74, 613, 614, 615, 616, 714, 715, 716, 717, 718, 719, 720, 721, 791, 792, 793, 794, 795, 796, 797, 798, 799, 800, 801, 802] (by decide +kernel) (by decide +kernel)
set_option maxRecDepth 20000 in
theorem gL_law_X5_week : GoodIn wsL_law (wsV RL 77 RX5 yX5_week wsX5_week) := goodIn_app (goodIn_of _ (by decide +kernel)) ggL_law_X5_week
set_option maxRecDepth 20000 in
theorem ggL_law_X6_week : GoodIn wsL_law wsX6_week := goodIn_r _ [620, 534, 105, 548, 248, 155, 156, 157, 106, 108, 109, 173, 174, 5, 175, 621, 622, 623, 624, 98, 99, 100, 625, 626, 627, 628, 101, 102, 103, 104, 722, 723, 724, 725, 726, 727, 728, 729, 730, 731, 732, 733, 734, 735, 736, 737, 738, 739, 740, 741, 742, 743, 744, 745, 746, 747, 748, 749, 750, 751, 752, 753, 754, 755, 756, 757, 758, 759, 760, 761, 762, 763] (by decide +kernel) (by decide +kernel)
set_option maxRecDepth 20000 in
theorem gL_law_X6_week : GoodIn wsL_law (wsV RL 80 RX6 yX6_week wsX6_week) := goodIn_app (goodIn_of _ (by decide +kernel)) ggL_law_X6_week
set_option maxRecDepth 20000 in
theorem ggL_law_X5_hallOf : GoodIn wsL_law wsX5_hallOf := goodIn_r _ [632, 584, 585, 586, 2, 587, 25, 633, 634, 635, 31, 636, 75, 596, 598, 599, 600, 424, 714, 715, 716, 717, 718, 719, 720, 721, 791, 792, 793, 794, 795, 796, 797, 798, 799, 800, 801, 802] (by decide +kernel) (by decide +kernel)
set_option maxRecDepth 20000 in
theorem gL_law_X5_hallOf : GoodIn wsL_law (wsV RL 81 RX5 yX5_hallOf wsX5_hallOf) := goodIn_app (goodIn_of _ (by decide +kernel)) ggL_law_X5_hallOf
set_option maxRecDepth 20000 in
theorem ggL_law_X6_hallOf : GoodIn wsL_law wsX6_hallOf := goodIn_r _ [640, 534, 105, 108, 109, 106, 173, 174, 5, 175, 621, 622, 623, 624, 98, 99, 100, 722, 723, 724, 725, 726, 727, 728, 729, 730, 731, 732, 733, 734, 735, 736, 737, 738, 739, 740, 741, 742, 743, 744, 745, 746, 747, 748, 749, 750, 751, 752, 753, 754, 755, 756, 757, 758, 759, 760, 761, 762, 763] (by decide +kernel) (by decide +kernel)
set_option maxRecDepth 20000 in
theorem gL_law_X6_hallOf : GoodIn wsL_law (wsV RL 84 RX6 yX6_hallOf wsX6_hallOf) := goodIn_app (goodIn_of _ (by decide +kernel)) ggL_law_X6_hallOf
end
section
set_option maxRecDepth 20000 in
theorem ggL_law_X5_room : GoodIn wsL_law wsX5_room := goodIn_r _ [644, 29, 645, 646, 647, 28, 648, 65, 714, 715, 716, 717, 718, 719, 720, 721, 784, 785, 786, 787, 788, 789, 790] (by decide +kernel) (by decide +kernel)
set_option maxRecDepth 20000 in
theorem gL_law_X5_room : GoodIn wsL_law (wsV RL 85 RX5 yX5_room wsX5_room) := goodIn_app (goodIn_of _ (by decide +kernel)) ggL_law_X5_room
set_option maxRecDepth 20000 in
theorem ggL_law_X6_room : GoodIn wsL_law wsX6_room := goodIn_r _ [652, 110, 173, 174, 5, 175, 722, 723, 724, 725, 726, 727, 728, 729, 730, 731, 732, 733, 734, 735, 736, 737, 738, 739, 740, 741, 742, 743, 744, 745, 746, 747, 748, 749, 750, 751, 752, 753, 754, 755, 756, 757, 758, 759, 760, 761, 762, 763] (by decide +kernel) (by decide +kernel)
set_option maxRecDepth 20000 in
theorem gL_law_X6_room : GoodIn wsL_law (wsV RL 89 RX6 yX6_room wsX6_room) := goodIn_app (goodIn_of _ (by decide +kernel)) ggL_law_X6_room
set_option maxRecDepth 20000 in
theorem ggL_law_X5_minute : GoodIn wsL_law wsX5_minute := goodIn_r _ [656, 29, 657, 658, 659, 28, 660, 661, 662, 663, 64, 664, 65, 665, 192, 156, 193, 666, 155, 157, 667, 668, 133, 134, 135, 714, 715, 716, 717, 718, 719, 720, 721, 784, 785, 786, 787, 788, 789, 790] (by decide +kernel) (by decide +kernel)
set_option maxRecDepth 20000 in
theorem gL_law_X5_minute : GoodIn wsL_law (wsV RL 90 RX5 yX5_minute wsX5_minute) := goodIn_app (goodIn_of _ (by decide +kernel)) ggL_law_X5_minute
set_option maxRecDepth 20000 in
theorem ggL_law_X6_minute : GoodIn wsL_law wsX6_minute := goodIn_r _ [672, 673, 674, 675, 111, 676, 110, 248, 155, 156, 157, 206, 192, 193, 677, 173, 174, 5, 175, 722, 723, 724, 725, 726, 727, 728, 729, 730, 731, 732, 733, 734, 735, 736, 737, 738, 739, 740, 741, 742, 743, 744, 745, 746, 747, 748, 749, 750, 751, 752, 753, 754, 755, 756, 757, 758, 759, 760, 761, 762, 763] (by decide +kernel) (by decide +kernel)
set_option maxRecDepth 20000 in
theorem gL_law_X6_minute : GoodIn wsL_law (wsV RL 93 RX6 yX6_minute wsX6_minute) := goodIn_app (goodIn_of _ (by decide +kernel)) ggL_law_X6_minute
set_option maxRecDepth 20000 in
theorem ggL_law_X5_crowd : GoodIn wsL_law wsX5_crowd := goodIn_r _ [681, 29, 682, 683, 684, 28, 685, 663, 661, 664, 662, 667, 65, 714, 715, 716, 717, 718, 719, 720, 721, 784, 785, 786, 787, 788, 789, 790] (by decide +kernel) (by decide +kernel)
set_option maxRecDepth 20000 in
theorem gL_law_X5_crowd : GoodIn wsL_law (wsV RL 94 RX5 yX5_crowd wsX5_crowd) := goodIn_app (goodIn_of _ (by decide +kernel)) ggL_law_X5_crowd
set_option maxRecDepth 20000 in
theorem ggL_law_X6_crowd : GoodIn wsL_law wsX6_crowd := goodIn_r _ [689, 675, 673, 676, 674, 677, 110, 722, 723, 724, 725, 726, 727, 728, 729, 730, 731, 732, 733, 734, 735, 736, 737, 738, 739, 740, 741, 742, 743, 744, 745, 746, 747, 748, 749, 750, 751, 752, 753, 754, 755, 756, 757, 758, 759, 760, 761, 762, 763] (by decide +kernel) (by decide +kernel)
set_option maxRecDepth 20000 in
theorem gL_law_X6_crowd : GoodIn wsL_law (wsV RL 97 RX6 yX6_crowd wsX6_crowd) := goodIn_app (goodIn_of _ (by decide +kernel)) ggL_law_X6_crowd
set_option maxRecDepth 20000 in
theorem ggL_law_X5_count : GoodIn wsL_law wsX5_count := goodIn_r _ [693, 19, 33, 23, 15, 694, 695, 696, 18, 697, 296, 698, 699, 700, 701, 282, 406, 407, 408, 22, 409, 388, 702, 703, 704, 14, 705, 41, 706, 707, 708, 709, 48, 714, 715, 716, 717, 718, 719, 720, 721, 766, 767, 768, 769, 770, 771, 772, 773, 774, 775, 776, 777, 778, 779, 780, 781, 782, 783, 764, 765] (by decide +kernel) (by decide +kernel)
set_option maxRecDepth 20000 in
theorem gL_law_X5_count : GoodIn wsL_law (wsV RL 98 RX5 yX5_count wsX5_count) := goodIn_app (goodIn_of _ (by decide +kernel)) ggL_law_X5_count
set_option maxRecDepth 20000 in
theorem ggL_law_X6_count : GoodIn wsL_law wsX6_count := goodIn_r _ [713, 314, 287, 534, 397, 87, 244, 245, 246, 5, 247, 205, 189, 156, 190, 248, 155, 157, 249, 250, 251, 252, 84, 82, 80, 219, 220, 221, 222, 133, 134, 135, 223, 224, 225, 722, 723, 724, 725, 726, 727, 728, 729, 730, 731, 732, 733, 734, 735, 736, 737, 738, 739, 740, 741, 742, 743, 744, 745, 746, 747, 748, 749, 750, 751, 752, 753, 754, 755, 756, 757, 758, 759, 760, 761, 762, 763] (by decide +kernel) (by decide +kernel)
set_option maxRecDepth 20000 in
theorem gL_law_X6_count : GoodIn wsL_law (wsV RL 101 RX6 yX6_count wsX6_count) := goodIn_app (goodIn_of _ (by decide +kernel)) ggL_law_X6_count
theorem dL_law_0 : decode cL_law 0 = .ok (.new 7, 3) := by decide +kernel
theorem dL_law_3 : decode cL_law 3 = .ok (.dup, 1) := by decide +kernel
theorem dL_law_4 : decode cL_law 4 = .ok (.invokespecial 9, 3) := by decide +kernel
theorem dL_law_7 : decode cL_law 7 = .ok (.astore_n 1, 1) := by decide +kernel
theorem dL_law_8 : decode cL_law 8 = .ok (.new 10, 3) := by decide +kernel
theorem dL_law_11 : decode cL_law 11 = .ok (.dup, 1) := by decide +kernel
theorem dL_law_12 : decode cL_law 12 = .ok (.invokespecial 12, 3) := by decide +kernel
theorem dL_law_15 : decode cL_law 15 = .ok (.astore_n 2, 1) := by decide +kernel
theorem dL_law_16 : decode cL_law 16 = .ok (.iconst 0, 1) := by decide +kernel
theorem dL_law_17 : decode cL_law 17 = .ok (.istore_n 3, 1) := by decide +kernel
theorem dL_law_18 : decode cL_law 18 = .ok (.iload_n 3, 1) := by decide +kernel
theorem dL_law_19 : decode cL_law 19 = .ok (.aload_n 0, 1) := by decide +kernel
theorem dL_law_20 : decode cL_law 20 = .ok (.arraylength, 1) := by decide +kernel
theorem dL_law_21 : decode cL_law 21 = .ok (.bipush 7, 2) := by decide +kernel
theorem dL_law_23 : decode cL_law 23 = .ok (.isub, 1) := by decide +kernel
theorem dL_law_24 : decode cL_law 24 = .ok (.if_icmp .gt 792, 3) := by decide +kernel
theorem dL_law_27 : decode cL_law 27 = .ok (.aload_n 0, 1) := by decide +kernel
theorem dL_law_28 : decode cL_law 28 = .ok (.iload_n 3, 1) := by decide +kernel
theorem dL_law_29 : decode cL_law 29 = .ok (.iaload, 1) := by decide +kernel
theorem dL_law_30 : decode cL_law 30 = .ok (.bipush 31, 2) := by decide +kernel
theorem dL_law_32 : decode cL_law 32 = .ok (.iand, 1) := by decide +kernel
theorem dL_law_33 : decode cL_law 33 = .ok (.tableswitch 777 0 19 #[95, 148, 223, 276, 309, 342, 365, 388, 421, 434, 467, 510, 573, 596, 609, 652, 685, 708, 731, 754], 95) := by decide +kernel
theorem dL_law_128 : decode cL_law 128 = .ok (.aload_n 1, 1) := by decide +kernel
theorem dL_law_129 : decode cL_law 129 = .ok (.aload_n 0, 1) := by decide +kernel
theorem dL_law_130 : decode cL_law 130 = .ok (.iload_n 3, 1) := by decide +kernel
theorem dL_law_131 : decode cL_law 131 = .ok (.iconst 1, 1) := by decide +kernel
theorem dL_law_132 : decode cL_law 132 = .ok (.iadd, 1) := by decide +kernel
theorem dL_law_133 : decode cL_law 133 = .ok (.iaload, 1) := by decide +kernel
theorem dL_law_134 : decode cL_law 134 = .ok (.aload_n 0, 1) := by decide +kernel
theorem dL_law_135 : decode cL_law 135 = .ok (.iload_n 3, 1) := by decide +kernel
theorem dL_law_136 : decode cL_law 136 = .ok (.iconst 2, 1) := by decide +kernel
theorem dL_law_137 : decode cL_law 137 = .ok (.iadd, 1) := by decide +kernel
theorem dL_law_138 : decode cL_law 138 = .ok (.iaload, 1) := by decide +kernel
theorem dL_law_139 : decode cL_law 139 = .ok (.aload_n 0, 1) := by decide +kernel
theorem dL_law_140 : decode cL_law 140 = .ok (.iload_n 3, 1) := by decide +kernel
theorem dL_law_141 : decode cL_law 141 = .ok (.iconst 3, 1) := by decide +kernel
theorem dL_law_142 : decode cL_law 142 = .ok (.iadd, 1) := by decide +kernel
theorem dL_law_143 : decode cL_law 143 = .ok (.iaload, 1) := by decide +kernel
theorem dL_law_144 : decode cL_law 144 = .ok (.aload_n 0, 1) := by decide +kernel
theorem dL_law_145 : decode cL_law 145 = .ok (.iload_n 3, 1) := by decide +kernel
theorem dL_law_146 : decode cL_law 146 = .ok (.iconst 4, 1) := by decide +kernel
theorem dL_law_147 : decode cL_law 147 = .ok (.iadd, 1) := by decide +kernel
theorem dL_law_148 : decode cL_law 148 = .ok (.iaload, 1) := by decide +kernel
theorem dL_law_149 : decode cL_law 149 = .ok (.invokevirtual 13, 3) := by decide +kernel
theorem dL_law_152 : decode cL_law 152 = .ok (.aload_n 2, 1) := by decide +kernel
theorem dL_law_153 : decode cL_law 153 = .ok (.aload_n 0, 1) := by decide +kernel
theorem dL_law_154 : decode cL_law 154 = .ok (.iload_n 3, 1) := by decide +kernel
theorem dL_law_155 : decode cL_law 155 = .ok (.iconst 1, 1) := by decide +kernel
theorem dL_law_156 : decode cL_law 156 = .ok (.iadd, 1) := by decide +kernel
theorem dL_law_157 : decode cL_law 157 = .ok (.iaload, 1) := by decide +kernel
theorem dL_law_158 : decode cL_law 158 = .ok (.aload_n 0, 1) := by decide +kernel
theorem dL_law_159 : decode cL_law 159 = .ok (.iload_n 3, 1) := by decide +kernel
theorem dL_law_160 : decode cL_law 160 = .ok (.iconst 2, 1) := by decide +kernel
theorem dL_law_161 : decode cL_law 161 = .ok (.iadd, 1) := by decide +kernel
theorem dL_law_162 : decode cL_law 162 = .ok (.iaload, 1) := by decide +kernel
theorem dL_law_163 : decode cL_law 163 = .ok (.aload_n 0, 1) := by decide +kernel
theorem dL_law_164 : decode cL_law 164 = .ok (.iload_n 3, 1) := by decide +kernel
theorem dL_law_165 : decode cL_law 165 = .ok (.iconst 3, 1) := by decide +kernel
theorem dL_law_166 : decode cL_law 166 = .ok (.iadd, 1) := by decide +kernel
theorem dL_law_167 : decode cL_law 167 = .ok (.iaload, 1) := by decide +kernel
theorem dL_law_168 : decode cL_law 168 = .ok (.aload_n 0, 1) := by decide +kernel
theorem dL_law_169 : decode cL_law 169 = .ok (.iload_n 3, 1) := by decide +kernel
theorem dL_law_170 : decode cL_law 170 = .ok (.iconst 4, 1) := by decide +kernel
theorem dL_law_171 : decode cL_law 171 = .ok (.iadd, 1) := by decide +kernel
theorem dL_law_172 : decode cL_law 172 = .ok (.iaload, 1) := by decide +kernel
theorem dL_law_173 : decode cL_law 173 = .ok (.invokevirtual 17, 3) := by decide +kernel
theorem dL_law_176 : decode cL_law 176 = .ok (.if_icmp .eq 634, 3) := by decide +kernel
theorem dL_law_179 : decode cL_law 179 = .ok (.iconst 0, 1) := by decide +kernel
theorem dL_law_180 : decode cL_law 180 = .ok (.ireturn, 1) := by decide +kernel
theorem dL_law_181 : decode cL_law 181 = .ok (.aload_n 1, 1) := by decide +kernel
theorem dL_law_182 : decode cL_law 182 = .ok (.aload_n 0, 1) := by decide +kernel
theorem dL_law_183 : decode cL_law 183 = .ok (.iload_n 3, 1) := by decide +kernel
theorem dL_law_184 : decode cL_law 184 = .ok (.iconst 1, 1) := by decide +kernel
theorem dL_law_185 : decode cL_law 185 = .ok (.iadd, 1) := by decide +kernel
theorem dL_law_186 : decode cL_law 186 = .ok (.iaload, 1) := by decide +kernel
theorem dL_law_187 : decode cL_law 187 = .ok (.aload_n 0, 1) := by decide +kernel
theorem dL_law_188 : decode cL_law 188 = .ok (.iload_n 3, 1) := by decide +kernel
theorem dL_law_189 : decode cL_law 189 = .ok (.iconst 2, 1) := by decide +kernel
theorem dL_law_190 : decode cL_law 190 = .ok (.iadd, 1) := by decide +kernel
theorem dL_law_191 : decode cL_law 191 = .ok (.iaload, 1) := by decide +kernel
theorem dL_law_192 : decode cL_law 192 = .ok (.aload_n 0, 1) := by decide +kernel
theorem dL_law_193 : decode cL_law 193 = .ok (.iload_n 3, 1) := by decide +kernel
theorem dL_law_194 : decode cL_law 194 = .ok (.iconst 3, 1) := by decide +kernel
theorem dL_law_195 : decode cL_law 195 = .ok (.iadd, 1) := by decide +kernel
theorem dL_law_196 : decode cL_law 196 = .ok (.iaload, 1) := by decide +kernel
theorem dL_law_197 : decode cL_law 197 = .ok (.aload_n 0, 1) := by decide +kernel
theorem dL_law_198 : decode cL_law 198 = .ok (.iload_n 3, 1) := by decide +kernel
theorem dL_law_199 : decode cL_law 199 = .ok (.iconst 4, 1) := by decide +kernel
theorem dL_law_200 : decode cL_law 200 = .ok (.iadd, 1) := by decide +kernel
theorem dL_law_201 : decode cL_law 201 = .ok (.iaload, 1) := by decide +kernel
theorem dL_law_202 : decode cL_law 202 = .ok (.aload_n 0, 1) := by decide +kernel
theorem dL_law_203 : decode cL_law 203 = .ok (.iload_n 3, 1) := by decide +kernel
theorem dL_law_204 : decode cL_law 204 = .ok (.iconst 5, 1) := by decide +kernel
theorem dL_law_205 : decode cL_law 205 = .ok (.iadd, 1) := by decide +kernel
theorem dL_law_206 : decode cL_law 206 = .ok (.iaload, 1) := by decide +kernel
theorem dL_law_207 : decode cL_law 207 = .ok (.aload_n 0, 1) := by decide +kernel
theorem dL_law_208 : decode cL_law 208 = .ok (.iload_n 3, 1) := by decide +kernel
theorem dL_law_209 : decode cL_law 209 = .ok (.bipush 6, 2) := by decide +kernel
theorem dL_law_211 : decode cL_law 211 = .ok (.iadd, 1) := by decide +kernel
theorem dL_law_212 : decode cL_law 212 = .ok (.iaload, 1) := by decide +kernel
theorem dL_law_213 : decode cL_law 213 = .ok (.invokevirtual 18, 3) := by decide +kernel
theorem dL_law_216 : decode cL_law 216 = .ok (.aload_n 2, 1) := by decide +kernel
theorem dL_law_217 : decode cL_law 217 = .ok (.aload_n 0, 1) := by decide +kernel
theorem dL_law_218 : decode cL_law 218 = .ok (.iload_n 3, 1) := by decide +kernel
theorem dL_law_219 : decode cL_law 219 = .ok (.iconst 1, 1) := by decide +kernel
theorem dL_law_220 : decode cL_law 220 = .ok (.iadd, 1) := by decide +kernel
theorem dL_law_221 : decode cL_law 221 = .ok (.iaload, 1) := by decide +kernel
theorem dL_law_222 : decode cL_law 222 = .ok (.aload_n 0, 1) := by decide +kernel
theorem dL_law_223 : decode cL_law 223 = .ok (.iload_n 3, 1) := by decide +kernel
theorem dL_law_224 : decode cL_law 224 = .ok (.iconst 2, 1) := by decide +kernel
theorem dL_law_225 : decode cL_law 225 = .ok (.iadd, 1) := by decide +kernel
theorem dL_law_226 : decode cL_law 226 = .ok (.iaload, 1) := by decide +kernel
theorem dL_law_227 : decode cL_law 227 = .ok (.aload_n 0, 1) := by decide +kernel
theorem dL_law_228 : decode cL_law 228 = .ok (.iload_n 3, 1) := by decide +kernel
theorem dL_law_229 : decode cL_law 229 = .ok (.iconst 3, 1) := by decide +kernel
theorem dL_law_230 : decode cL_law 230 = .ok (.iadd, 1) := by decide +kernel
theorem dL_law_231 : decode cL_law 231 = .ok (.iaload, 1) := by decide +kernel
theorem dL_law_232 : decode cL_law 232 = .ok (.aload_n 0, 1) := by decide +kernel
theorem dL_law_233 : decode cL_law 233 = .ok (.iload_n 3, 1) := by decide +kernel
theorem dL_law_234 : decode cL_law 234 = .ok (.iconst 4, 1) := by decide +kernel
theorem dL_law_235 : decode cL_law 235 = .ok (.iadd, 1) := by decide +kernel
theorem dL_law_236 : decode cL_law 236 = .ok (.iaload, 1) := by decide +kernel
theorem dL_law_237 : decode cL_law 237 = .ok (.aload_n 0, 1) := by decide +kernel
theorem dL_law_238 : decode cL_law 238 = .ok (.iload_n 3, 1) := by decide +kernel
theorem dL_law_239 : decode cL_law 239 = .ok (.iconst 5, 1) := by decide +kernel
theorem dL_law_240 : decode cL_law 240 = .ok (.iadd, 1) := by decide +kernel
theorem dL_law_241 : decode cL_law 241 = .ok (.iaload, 1) := by decide +kernel
theorem dL_law_242 : decode cL_law 242 = .ok (.aload_n 0, 1) := by decide +kernel
theorem dL_law_243 : decode cL_law 243 = .ok (.iload_n 3, 1) := by decide +kernel
theorem dL_law_244 : decode cL_law 244 = .ok (.bipush 6, 2) := by decide +kernel
theorem dL_law_246 : decode cL_law 246 = .ok (.iadd, 1) := by decide +kernel
theorem dL_law_247 : decode cL_law 247 = .ok (.iaload, 1) := by decide +kernel
theorem dL_law_248 : decode cL_law 248 = .ok (.invokevirtual 22, 3) := by decide +kernel
theorem dL_law_251 : decode cL_law 251 = .ok (.if_icmp .eq 559, 3) := by decide +kernel
theorem dL_law_254 : decode cL_law 254 = .ok (.iconst 0, 1) := by decide +kernel
theorem dL_law_255 : decode cL_law 255 = .ok (.ireturn, 1) := by decide +kernel
theorem dL_law_256 : decode cL_law 256 = .ok (.aload_n 1, 1) := by decide +kernel
theorem dL_law_257 : decode cL_law 257 = .ok (.aload_n 0, 1) := by decide +kernel
theorem dL_law_258 : decode cL_law 258 = .ok (.iload_n 3, 1) := by decide +kernel
theorem dL_law_259 : decode cL_law 259 = .ok (.iconst 1, 1) := by decide +kernel
theorem dL_law_260 : decode cL_law 260 = .ok (.iadd, 1) := by decide +kernel
theorem dL_law_261 : decode cL_law 261 = .ok (.iaload, 1) := by decide +kernel
theorem dL_law_262 : decode cL_law 262 = .ok (.aload_n 0, 1) := by decide +kernel
theorem dL_law_263 : decode cL_law 263 = .ok (.iload_n 3, 1) := by decide +kernel
theorem dL_law_264 : decode cL_law 264 = .ok (.iconst 2, 1) := by decide +kernel
theorem dL_law_265 : decode cL_law 265 = .ok (.iadd, 1) := by decide +kernel
theorem dL_law_266 : decode cL_law 266 = .ok (.iaload, 1) := by decide +kernel
theorem dL_law_267 : decode cL_law 267 = .ok (.aload_n 0, 1) := by decide +kernel
theorem dL_law_268 : decode cL_law 268 = .ok (.iload_n 3, 1) := by decide +kernel
theorem dL_law_269 : decode cL_law 269 = .ok (.iconst 3, 1) := by decide +kernel
theorem dL_law_270 : decode cL_law 270 = .ok (.iadd, 1) := by decide +kernel
theorem dL_law_271 : decode cL_law 271 = .ok (.iaload, 1) := by decide +kernel
theorem dL_law_272 : decode cL_law 272 = .ok (.aload_n 0, 1) := by decide +kernel
theorem dL_law_273 : decode cL_law 273 = .ok (.iload_n 3, 1) := by decide +kernel
theorem dL_law_274 : decode cL_law 274 = .ok (.iconst 4, 1) := by decide +kernel
theorem dL_law_275 : decode cL_law 275 = .ok (.iadd, 1) := by decide +kernel
theorem dL_law_276 : decode cL_law 276 = .ok (.iaload, 1) := by decide +kernel
theorem dL_law_277 : decode cL_law 277 = .ok (.invokevirtual 23, 3) := by decide +kernel
theorem dL_law_280 : decode cL_law 280 = .ok (.aload_n 2, 1) := by decide +kernel
theorem dL_law_281 : decode cL_law 281 = .ok (.aload_n 0, 1) := by decide +kernel
theorem dL_law_282 : decode cL_law 282 = .ok (.iload_n 3, 1) := by decide +kernel
theorem dL_law_283 : decode cL_law 283 = .ok (.iconst 1, 1) := by decide +kernel
theorem dL_law_284 : decode cL_law 284 = .ok (.iadd, 1) := by decide +kernel
theorem dL_law_285 : decode cL_law 285 = .ok (.iaload, 1) := by decide +kernel
theorem dL_law_286 : decode cL_law 286 = .ok (.aload_n 0, 1) := by decide +kernel
theorem dL_law_287 : decode cL_law 287 = .ok (.iload_n 3, 1) := by decide +kernel
theorem dL_law_288 : decode cL_law 288 = .ok (.iconst 2, 1) := by decide +kernel
theorem dL_law_289 : decode cL_law 289 = .ok (.iadd, 1) := by decide +kernel
theorem dL_law_290 : decode cL_law 290 = .ok (.iaload, 1) := by decide +kernel
theorem dL_law_291 : decode cL_law 291 = .ok (.aload_n 0, 1) := by decide +kernel
theorem dL_law_292 : decode cL_law 292 = .ok (.iload_n 3, 1) := by decide +kernel
theorem dL_law_293 : decode cL_law 293 = .ok (.iconst 3, 1) := by decide +kernel
theorem dL_law_294 : decode cL_law 294 = .ok (.iadd, 1) := by decide +kernel
theorem dL_law_295 : decode cL_law 295 = .ok (.iaload, 1) := by decide +kernel
theorem dL_law_296 : decode cL_law 296 = .ok (.aload_n 0, 1) := by decide +kernel
theorem dL_law_297 : decode cL_law 297 = .ok (.iload_n 3, 1) := by decide +kernel
theorem dL_law_298 : decode cL_law 298 = .ok (.iconst 4, 1) := by decide +kernel
theorem dL_law_299 : decode cL_law 299 = .ok (.iadd, 1) := by decide +kernel
theorem dL_law_300 : decode cL_law 300 = .ok (.iaload, 1) := by decide +kernel
theorem dL_law_301 : decode cL_law 301 = .ok (.invokevirtual 27, 3) := by decide +kernel
theorem dL_law_304 : decode cL_law 304 = .ok (.if_icmp .eq 506, 3) := by decide +kernel
theorem dL_law_307 : decode cL_law 307 = .ok (.iconst 0, 1) := by decide +kernel
theorem dL_law_308 : decode cL_law 308 = .ok (.ireturn, 1) := by decide +kernel
theorem dL_law_309 : decode cL_law 309 = .ok (.aload_n 1, 1) := by decide +kernel
theorem dL_law_310 : decode cL_law 310 = .ok (.aload_n 0, 1) := by decide +kernel
theorem dL_law_311 : decode cL_law 311 = .ok (.iload_n 3, 1) := by decide +kernel
theorem dL_law_312 : decode cL_law 312 = .ok (.iconst 1, 1) := by decide +kernel
theorem dL_law_313 : decode cL_law 313 = .ok (.iadd, 1) := by decide +kernel
theorem dL_law_314 : decode cL_law 314 = .ok (.iaload, 1) := by decide +kernel
theorem dL_law_315 : decode cL_law 315 = .ok (.aload_n 0, 1) := by decide +kernel
theorem dL_law_316 : decode cL_law 316 = .ok (.iload_n 3, 1) := by decide +kernel
theorem dL_law_317 : decode cL_law 317 = .ok (.iconst 2, 1) := by decide +kernel
theorem dL_law_318 : decode cL_law 318 = .ok (.iadd, 1) := by decide +kernel
theorem dL_law_319 : decode cL_law 319 = .ok (.iaload, 1) := by decide +kernel
theorem dL_law_320 : decode cL_law 320 = .ok (.invokevirtual 28, 3) := by decide +kernel
theorem dL_law_323 : decode cL_law 323 = .ok (.aload_n 2, 1) := by decide +kernel
theorem dL_law_324 : decode cL_law 324 = .ok (.aload_n 0, 1) := by decide +kernel
theorem dL_law_325 : decode cL_law 325 = .ok (.iload_n 3, 1) := by decide +kernel
theorem dL_law_326 : decode cL_law 326 = .ok (.iconst 1, 1) := by decide +kernel
theorem dL_law_327 : decode cL_law 327 = .ok (.iadd, 1) := by decide +kernel
theorem dL_law_328 : decode cL_law 328 = .ok (.iaload, 1) := by decide +kernel
theorem dL_law_329 : decode cL_law 329 = .ok (.aload_n 0, 1) := by decide +kernel
theorem dL_law_330 : decode cL_law 330 = .ok (.iload_n 3, 1) := by decide +kernel
theorem dL_law_331 : decode cL_law 331 = .ok (.iconst 2, 1) := by decide +kernel
theorem dL_law_332 : decode cL_law 332 = .ok (.iadd, 1) := by decide +kernel
theorem dL_law_333 : decode cL_law 333 = .ok (.iaload, 1) := by decide +kernel
theorem dL_law_334 : decode cL_law 334 = .ok (.invokevirtual 32, 3) := by decide +kernel
theorem dL_law_337 : decode cL_law 337 = .ok (.if_icmp .eq 473, 3) := by decide +kernel
theorem dL_law_340 : decode cL_law 340 = .ok (.iconst 0, 1) := by decide +kernel
theorem dL_law_341 : decode cL_law 341 = .ok (.ireturn, 1) := by decide +kernel
theorem dL_law_342 : decode cL_law 342 = .ok (.aload_n 1, 1) := by decide +kernel
theorem dL_law_343 : decode cL_law 343 = .ok (.aload_n 0, 1) := by decide +kernel
theorem dL_law_344 : decode cL_law 344 = .ok (.iload_n 3, 1) := by decide +kernel
theorem dL_law_345 : decode cL_law 345 = .ok (.iconst 1, 1) := by decide +kernel
theorem dL_law_346 : decode cL_law 346 = .ok (.iadd, 1) := by decide +kernel
theorem dL_law_347 : decode cL_law 347 = .ok (.iaload, 1) := by decide +kernel
theorem dL_law_348 : decode cL_law 348 = .ok (.aload_n 0, 1) := by decide +kernel
theorem dL_law_349 : decode cL_law 349 = .ok (.iload_n 3, 1) := by decide +kernel
theorem dL_law_350 : decode cL_law 350 = .ok (.iconst 2, 1) := by decide +kernel
theorem dL_law_351 : decode cL_law 351 = .ok (.iadd, 1) := by decide +kernel
theorem dL_law_352 : decode cL_law 352 = .ok (.iaload, 1) := by decide +kernel
theorem dL_law_353 : decode cL_law 353 = .ok (.invokevirtual 33, 3) := by decide +kernel
theorem dL_law_356 : decode cL_law 356 = .ok (.aload_n 2, 1) := by decide +kernel
theorem dL_law_357 : decode cL_law 357 = .ok (.aload_n 0, 1) := by decide +kernel
theorem dL_law_358 : decode cL_law 358 = .ok (.iload_n 3, 1) := by decide +kernel
theorem dL_law_359 : decode cL_law 359 = .ok (.iconst 1, 1) := by decide +kernel
theorem dL_law_360 : decode cL_law 360 = .ok (.iadd, 1) := by decide +kernel
theorem dL_law_361 : decode cL_law 361 = .ok (.iaload, 1) := by decide +kernel
theorem dL_law_362 : decode cL_law 362 = .ok (.aload_n 0, 1) := by decide +kernel
theorem dL_law_363 : decode cL_law 363 = .ok (.iload_n 3, 1) := by decide +kernel
theorem dL_law_364 : decode cL_law 364 = .ok (.iconst 2, 1) := by decide +kernel
theorem dL_law_365 : decode cL_law 365 = .ok (.iadd, 1) := by decide +kernel
theorem dL_law_366 : decode cL_law 366 = .ok (.iaload, 1) := by decide +kernel
theorem dL_law_367 : decode cL_law 367 = .ok (.invokevirtual 36, 3) := by decide +kernel
theorem dL_law_370 : decode cL_law 370 = .ok (.if_icmp .eq 440, 3) := by decide +kernel
theorem dL_law_373 : decode cL_law 373 = .ok (.iconst 0, 1) := by decide +kernel
theorem dL_law_374 : decode cL_law 374 = .ok (.ireturn, 1) := by decide +kernel
theorem dL_law_375 : decode cL_law 375 = .ok (.aload_n 1, 1) := by decide +kernel
theorem dL_law_376 : decode cL_law 376 = .ok (.aload_n 0, 1) := by decide +kernel
theorem dL_law_377 : decode cL_law 377 = .ok (.iload_n 3, 1) := by decide +kernel
theorem dL_law_378 : decode cL_law 378 = .ok (.iconst 1, 1) := by decide +kernel
theorem dL_law_379 : decode cL_law 379 = .ok (.iadd, 1) := by decide +kernel
theorem dL_law_380 : decode cL_law 380 = .ok (.iaload, 1) := by decide +kernel
theorem dL_law_381 : decode cL_law 381 = .ok (.invokevirtual 37, 3) := by decide +kernel
theorem dL_law_384 : decode cL_law 384 = .ok (.aload_n 2, 1) := by decide +kernel
theorem dL_law_385 : decode cL_law 385 = .ok (.aload_n 0, 1) := by decide +kernel
theorem dL_law_386 : decode cL_law 386 = .ok (.iload_n 3, 1) := by decide +kernel
theorem dL_law_387 : decode cL_law 387 = .ok (.iconst 1, 1) := by decide +kernel
theorem dL_law_388 : decode cL_law 388 = .ok (.iadd, 1) := by decide +kernel
theorem dL_law_389 : decode cL_law 389 = .ok (.iaload, 1) := by decide +kernel
theorem dL_law_390 : decode cL_law 390 = .ok (.invokevirtual 41, 3) := by decide +kernel
theorem dL_law_393 : decode cL_law 393 = .ok (.if_icmp .eq 417, 3) := by decide +kernel
theorem dL_law_396 : decode cL_law 396 = .ok (.iconst 0, 1) := by decide +kernel
theorem dL_law_397 : decode cL_law 397 = .ok (.ireturn, 1) := by decide +kernel
theorem dL_law_398 : decode cL_law 398 = .ok (.aload_n 1, 1) := by decide +kernel
theorem dL_law_399 : decode cL_law 399 = .ok (.aload_n 0, 1) := by decide +kernel
theorem dL_law_400 : decode cL_law 400 = .ok (.iload_n 3, 1) := by decide +kernel
theorem dL_law_401 : decode cL_law 401 = .ok (.iconst 1, 1) := by decide +kernel
theorem dL_law_402 : decode cL_law 402 = .ok (.iadd, 1) := by decide +kernel
theorem dL_law_403 : decode cL_law 403 = .ok (.iaload, 1) := by decide +kernel
theorem dL_law_404 : decode cL_law 404 = .ok (.invokevirtual 42, 3) := by decide +kernel
theorem dL_law_407 : decode cL_law 407 = .ok (.aload_n 2, 1) := by decide +kernel
theorem dL_law_408 : decode cL_law 408 = .ok (.aload_n 0, 1) := by decide +kernel
theorem dL_law_409 : decode cL_law 409 = .ok (.iload_n 3, 1) := by decide +kernel
theorem dL_law_410 : decode cL_law 410 = .ok (.iconst 1, 1) := by decide +kernel
theorem dL_law_411 : decode cL_law 411 = .ok (.iadd, 1) := by decide +kernel
theorem dL_law_412 : decode cL_law 412 = .ok (.iaload, 1) := by decide +kernel
theorem dL_law_413 : decode cL_law 413 = .ok (.invokevirtual 45, 3) := by decide +kernel
theorem dL_law_416 : decode cL_law 416 = .ok (.if_icmp .eq 394, 3) := by decide +kernel
theorem dL_law_419 : decode cL_law 419 = .ok (.iconst 0, 1) := by decide +kernel
theorem dL_law_420 : decode cL_law 420 = .ok (.ireturn, 1) := by decide +kernel
theorem dL_law_421 : decode cL_law 421 = .ok (.aload_n 1, 1) := by decide +kernel
theorem dL_law_422 : decode cL_law 422 = .ok (.aload_n 0, 1) := by decide +kernel
theorem dL_law_423 : decode cL_law 423 = .ok (.iload_n 3, 1) := by decide +kernel
theorem dL_law_424 : decode cL_law 424 = .ok (.iconst 1, 1) := by decide +kernel
theorem dL_law_425 : decode cL_law 425 = .ok (.iadd, 1) := by decide +kernel
theorem dL_law_426 : decode cL_law 426 = .ok (.iaload, 1) := by decide +kernel
theorem dL_law_427 : decode cL_law 427 = .ok (.aload_n 0, 1) := by decide +kernel
theorem dL_law_428 : decode cL_law 428 = .ok (.iload_n 3, 1) := by decide +kernel
theorem dL_law_429 : decode cL_law 429 = .ok (.iconst 2, 1) := by decide +kernel
theorem dL_law_430 : decode cL_law 430 = .ok (.iadd, 1) := by decide +kernel
theorem dL_law_431 : decode cL_law 431 = .ok (.iaload, 1) := by decide +kernel
theorem dL_law_432 : decode cL_law 432 = .ok (.invokevirtual 46, 3) := by decide +kernel
theorem dL_law_435 : decode cL_law 435 = .ok (.aload_n 2, 1) := by decide +kernel
theorem dL_law_436 : decode cL_law 436 = .ok (.aload_n 0, 1) := by decide +kernel
theorem dL_law_437 : decode cL_law 437 = .ok (.iload_n 3, 1) := by decide +kernel
theorem dL_law_438 : decode cL_law 438 = .ok (.iconst 1, 1) := by decide +kernel
theorem dL_law_439 : decode cL_law 439 = .ok (.iadd, 1) := by decide +kernel
theorem dL_law_440 : decode cL_law 440 = .ok (.iaload, 1) := by decide +kernel
theorem dL_law_441 : decode cL_law 441 = .ok (.aload_n 0, 1) := by decide +kernel
theorem dL_law_442 : decode cL_law 442 = .ok (.iload_n 3, 1) := by decide +kernel
theorem dL_law_443 : decode cL_law 443 = .ok (.iconst 2, 1) := by decide +kernel
theorem dL_law_444 : decode cL_law 444 = .ok (.iadd, 1) := by decide +kernel
theorem dL_law_445 : decode cL_law 445 = .ok (.iaload, 1) := by decide +kernel
theorem dL_law_446 : decode cL_law 446 = .ok (.invokevirtual 49, 3) := by decide +kernel
theorem dL_law_449 : decode cL_law 449 = .ok (.if_icmp .eq 361, 3) := by decide +kernel
theorem dL_law_452 : decode cL_law 452 = .ok (.iconst 0, 1) := by decide +kernel
theorem dL_law_453 : decode cL_law 453 = .ok (.ireturn, 1) := by decide +kernel
theorem dL_law_454 : decode cL_law 454 = .ok (.aload_n 1, 1) := by decide +kernel
theorem dL_law_455 : decode cL_law 455 = .ok (.invokevirtual 50, 3) := by decide +kernel
theorem dL_law_458 : decode cL_law 458 = .ok (.aload_n 2, 1) := by decide +kernel
theorem dL_law_459 : decode cL_law 459 = .ok (.invokevirtual 54, 3) := by decide +kernel
theorem dL_law_462 : decode cL_law 462 = .ok (.if_icmp .eq 348, 3) := by decide +kernel
theorem dL_law_465 : decode cL_law 465 = .ok (.iconst 0, 1) := by decide +kernel
theorem dL_law_466 : decode cL_law 466 = .ok (.ireturn, 1) := by decide +kernel
theorem dL_law_467 : decode cL_law 467 = .ok (.aload_n 1, 1) := by decide +kernel
theorem dL_law_468 : decode cL_law 468 = .ok (.aload_n 0, 1) := by decide +kernel
theorem dL_law_469 : decode cL_law 469 = .ok (.iload_n 3, 1) := by decide +kernel
theorem dL_law_470 : decode cL_law 470 = .ok (.iconst 1, 1) := by decide +kernel
theorem dL_law_471 : decode cL_law 471 = .ok (.iadd, 1) := by decide +kernel
theorem dL_law_472 : decode cL_law 472 = .ok (.iaload, 1) := by decide +kernel
theorem dL_law_473 : decode cL_law 473 = .ok (.aload_n 0, 1) := by decide +kernel
theorem dL_law_474 : decode cL_law 474 = .ok (.iload_n 3, 1) := by decide +kernel
theorem dL_law_475 : decode cL_law 475 = .ok (.iconst 2, 1) := by decide +kernel
theorem dL_law_476 : decode cL_law 476 = .ok (.iadd, 1) := by decide +kernel
theorem dL_law_477 : decode cL_law 477 = .ok (.iaload, 1) := by decide +kernel
theorem dL_law_478 : decode cL_law 478 = .ok (.invokevirtual 55, 3) := by decide +kernel
theorem dL_law_481 : decode cL_law 481 = .ok (.aload_n 2, 1) := by decide +kernel
theorem dL_law_482 : decode cL_law 482 = .ok (.aload_n 0, 1) := by decide +kernel
theorem dL_law_483 : decode cL_law 483 = .ok (.iload_n 3, 1) := by decide +kernel
theorem dL_law_484 : decode cL_law 484 = .ok (.iconst 1, 1) := by decide +kernel
theorem dL_law_485 : decode cL_law 485 = .ok (.iadd, 1) := by decide +kernel
theorem dL_law_486 : decode cL_law 486 = .ok (.iaload, 1) := by decide +kernel
theorem dL_law_487 : decode cL_law 487 = .ok (.aload_n 0, 1) := by decide +kernel
theorem dL_law_488 : decode cL_law 488 = .ok (.iload_n 3, 1) := by decide +kernel
theorem dL_law_489 : decode cL_law 489 = .ok (.iconst 2, 1) := by decide +kernel
theorem dL_law_490 : decode cL_law 490 = .ok (.iadd, 1) := by decide +kernel
theorem dL_law_491 : decode cL_law 491 = .ok (.iaload, 1) := by decide +kernel
theorem dL_law_492 : decode cL_law 492 = .ok (.invokevirtual 58, 3) := by decide +kernel
theorem dL_law_495 : decode cL_law 495 = .ok (.if_icmp .eq 315, 3) := by decide +kernel
theorem dL_law_498 : decode cL_law 498 = .ok (.iconst 0, 1) := by decide +kernel
theorem dL_law_499 : decode cL_law 499 = .ok (.ireturn, 1) := by decide +kernel
theorem dL_law_500 : decode cL_law 500 = .ok (.aload_n 1, 1) := by decide +kernel
theorem dL_law_501 : decode cL_law 501 = .ok (.aload_n 0, 1) := by decide +kernel
theorem dL_law_502 : decode cL_law 502 = .ok (.iload_n 3, 1) := by decide +kernel
theorem dL_law_503 : decode cL_law 503 = .ok (.iconst 1, 1) := by decide +kernel
theorem dL_law_504 : decode cL_law 504 = .ok (.iadd, 1) := by decide +kernel
theorem dL_law_505 : decode cL_law 505 = .ok (.iaload, 1) := by decide +kernel
theorem dL_law_506 : decode cL_law 506 = .ok (.aload_n 0, 1) := by decide +kernel
theorem dL_law_507 : decode cL_law 507 = .ok (.iload_n 3, 1) := by decide +kernel
theorem dL_law_508 : decode cL_law 508 = .ok (.iconst 2, 1) := by decide +kernel
theorem dL_law_509 : decode cL_law 509 = .ok (.iadd, 1) := by decide +kernel
theorem dL_law_510 : decode cL_law 510 = .ok (.iaload, 1) := by decide +kernel
theorem dL_law_511 : decode cL_law 511 = .ok (.aload_n 0, 1) := by decide +kernel
theorem dL_law_512 : decode cL_law 512 = .ok (.iload_n 3, 1) := by decide +kernel
theorem dL_law_513 : decode cL_law 513 = .ok (.iconst 3, 1) := by decide +kernel
theorem dL_law_514 : decode cL_law 514 = .ok (.iadd, 1) := by decide +kernel
theorem dL_law_515 : decode cL_law 515 = .ok (.iaload, 1) := by decide +kernel
theorem dL_law_516 : decode cL_law 516 = .ok (.invokevirtual 59, 3) := by decide +kernel
theorem dL_law_519 : decode cL_law 519 = .ok (.aload_n 2, 1) := by decide +kernel
theorem dL_law_520 : decode cL_law 520 = .ok (.aload_n 0, 1) := by decide +kernel
theorem dL_law_521 : decode cL_law 521 = .ok (.iload_n 3, 1) := by decide +kernel
theorem dL_law_522 : decode cL_law 522 = .ok (.iconst 1, 1) := by decide +kernel
theorem dL_law_523 : decode cL_law 523 = .ok (.iadd, 1) := by decide +kernel
theorem dL_law_524 : decode cL_law 524 = .ok (.iaload, 1) := by decide +kernel
theorem dL_law_525 : decode cL_law 525 = .ok (.aload_n 0, 1) := by decide +kernel
theorem dL_law_526 : decode cL_law 526 = .ok (.iload_n 3, 1) := by decide +kernel
theorem dL_law_527 : decode cL_law 527 = .ok (.iconst 2, 1) := by decide +kernel
theorem dL_law_528 : decode cL_law 528 = .ok (.iadd, 1) := by decide +kernel
theorem dL_law_529 : decode cL_law 529 = .ok (.iaload, 1) := by decide +kernel
theorem dL_law_530 : decode cL_law 530 = .ok (.aload_n 0, 1) := by decide +kernel
theorem dL_law_531 : decode cL_law 531 = .ok (.iload_n 3, 1) := by decide +kernel
theorem dL_law_532 : decode cL_law 532 = .ok (.iconst 3, 1) := by decide +kernel
theorem dL_law_533 : decode cL_law 533 = .ok (.iadd, 1) := by decide +kernel
theorem dL_law_534 : decode cL_law 534 = .ok (.iaload, 1) := by decide +kernel
theorem dL_law_535 : decode cL_law 535 = .ok (.invokevirtual 63, 3) := by decide +kernel
theorem dL_law_538 : decode cL_law 538 = .ok (.if_icmp .eq 272, 3) := by decide +kernel
theorem dL_law_541 : decode cL_law 541 = .ok (.iconst 0, 1) := by decide +kernel
theorem dL_law_542 : decode cL_law 542 = .ok (.ireturn, 1) := by decide +kernel
theorem dL_law_543 : decode cL_law 543 = .ok (.aload_n 1, 1) := by decide +kernel
theorem dL_law_544 : decode cL_law 544 = .ok (.aload_n 0, 1) := by decide +kernel
theorem dL_law_545 : decode cL_law 545 = .ok (.iload_n 3, 1) := by decide +kernel
theorem dL_law_546 : decode cL_law 546 = .ok (.iconst 1, 1) := by decide +kernel
theorem dL_law_547 : decode cL_law 547 = .ok (.iadd, 1) := by decide +kernel
theorem dL_law_548 : decode cL_law 548 = .ok (.iaload, 1) := by decide +kernel
theorem dL_law_549 : decode cL_law 549 = .ok (.aload_n 0, 1) := by decide +kernel
theorem dL_law_550 : decode cL_law 550 = .ok (.iload_n 3, 1) := by decide +kernel
theorem dL_law_551 : decode cL_law 551 = .ok (.iconst 2, 1) := by decide +kernel
theorem dL_law_552 : decode cL_law 552 = .ok (.iadd, 1) := by decide +kernel
theorem dL_law_553 : decode cL_law 553 = .ok (.iaload, 1) := by decide +kernel
theorem dL_law_554 : decode cL_law 554 = .ok (.aload_n 0, 1) := by decide +kernel
theorem dL_law_555 : decode cL_law 555 = .ok (.iload_n 3, 1) := by decide +kernel
theorem dL_law_556 : decode cL_law 556 = .ok (.iconst 3, 1) := by decide +kernel
theorem dL_law_557 : decode cL_law 557 = .ok (.iadd, 1) := by decide +kernel
theorem dL_law_558 : decode cL_law 558 = .ok (.iaload, 1) := by decide +kernel
theorem dL_law_559 : decode cL_law 559 = .ok (.aload_n 0, 1) := by decide +kernel
theorem dL_law_560 : decode cL_law 560 = .ok (.iload_n 3, 1) := by decide +kernel
theorem dL_law_561 : decode cL_law 561 = .ok (.iconst 4, 1) := by decide +kernel
theorem dL_law_562 : decode cL_law 562 = .ok (.iadd, 1) := by decide +kernel
theorem dL_law_563 : decode cL_law 563 = .ok (.iaload, 1) := by decide +kernel
theorem dL_law_564 : decode cL_law 564 = .ok (.aload_n 0, 1) := by decide +kernel
theorem dL_law_565 : decode cL_law 565 = .ok (.iload_n 3, 1) := by decide +kernel
theorem dL_law_566 : decode cL_law 566 = .ok (.iconst 5, 1) := by decide +kernel
theorem dL_law_567 : decode cL_law 567 = .ok (.iadd, 1) := by decide +kernel
theorem dL_law_568 : decode cL_law 568 = .ok (.iaload, 1) := by decide +kernel
theorem dL_law_569 : decode cL_law 569 = .ok (.invokevirtual 64, 3) := by decide +kernel
theorem dL_law_572 : decode cL_law 572 = .ok (.aload_n 2, 1) := by decide +kernel
theorem dL_law_573 : decode cL_law 573 = .ok (.aload_n 0, 1) := by decide +kernel
theorem dL_law_574 : decode cL_law 574 = .ok (.iload_n 3, 1) := by decide +kernel
theorem dL_law_575 : decode cL_law 575 = .ok (.iconst 1, 1) := by decide +kernel
theorem dL_law_576 : decode cL_law 576 = .ok (.iadd, 1) := by decide +kernel
theorem dL_law_577 : decode cL_law 577 = .ok (.iaload, 1) := by decide +kernel
theorem dL_law_578 : decode cL_law 578 = .ok (.aload_n 0, 1) := by decide +kernel
theorem dL_law_579 : decode cL_law 579 = .ok (.iload_n 3, 1) := by decide +kernel
theorem dL_law_580 : decode cL_law 580 = .ok (.iconst 2, 1) := by decide +kernel
theorem dL_law_581 : decode cL_law 581 = .ok (.iadd, 1) := by decide +kernel
theorem dL_law_582 : decode cL_law 582 = .ok (.iaload, 1) := by decide +kernel
theorem dL_law_583 : decode cL_law 583 = .ok (.aload_n 0, 1) := by decide +kernel
theorem dL_law_584 : decode cL_law 584 = .ok (.iload_n 3, 1) := by decide +kernel
theorem dL_law_585 : decode cL_law 585 = .ok (.iconst 3, 1) := by decide +kernel
theorem dL_law_586 : decode cL_law 586 = .ok (.iadd, 1) := by decide +kernel
theorem dL_law_587 : decode cL_law 587 = .ok (.iaload, 1) := by decide +kernel
theorem dL_law_588 : decode cL_law 588 = .ok (.aload_n 0, 1) := by decide +kernel
theorem dL_law_589 : decode cL_law 589 = .ok (.iload_n 3, 1) := by decide +kernel
theorem dL_law_590 : decode cL_law 590 = .ok (.iconst 4, 1) := by decide +kernel
theorem dL_law_591 : decode cL_law 591 = .ok (.iadd, 1) := by decide +kernel
theorem dL_law_592 : decode cL_law 592 = .ok (.iaload, 1) := by decide +kernel
theorem dL_law_593 : decode cL_law 593 = .ok (.aload_n 0, 1) := by decide +kernel
theorem dL_law_594 : decode cL_law 594 = .ok (.iload_n 3, 1) := by decide +kernel
theorem dL_law_595 : decode cL_law 595 = .ok (.iconst 5, 1) := by decide +kernel
theorem dL_law_596 : decode cL_law 596 = .ok (.iadd, 1) := by decide +kernel
theorem dL_law_597 : decode cL_law 597 = .ok (.iaload, 1) := by decide +kernel
theorem dL_law_598 : decode cL_law 598 = .ok (.invokevirtual 68, 3) := by decide +kernel
theorem dL_law_601 : decode cL_law 601 = .ok (.if_icmp .eq 209, 3) := by decide +kernel
theorem dL_law_604 : decode cL_law 604 = .ok (.iconst 0, 1) := by decide +kernel
theorem dL_law_605 : decode cL_law 605 = .ok (.ireturn, 1) := by decide +kernel
theorem dL_law_606 : decode cL_law 606 = .ok (.aload_n 1, 1) := by decide +kernel
theorem dL_law_607 : decode cL_law 607 = .ok (.aload_n 0, 1) := by decide +kernel
theorem dL_law_608 : decode cL_law 608 = .ok (.iload_n 3, 1) := by decide +kernel
theorem dL_law_609 : decode cL_law 609 = .ok (.iconst 1, 1) := by decide +kernel
theorem dL_law_610 : decode cL_law 610 = .ok (.iadd, 1) := by decide +kernel
theorem dL_law_611 : decode cL_law 611 = .ok (.iaload, 1) := by decide +kernel
theorem dL_law_612 : decode cL_law 612 = .ok (.invokevirtual 69, 3) := by decide +kernel
theorem dL_law_615 : decode cL_law 615 = .ok (.aload_n 2, 1) := by decide +kernel
theorem dL_law_616 : decode cL_law 616 = .ok (.aload_n 0, 1) := by decide +kernel
theorem dL_law_617 : decode cL_law 617 = .ok (.iload_n 3, 1) := by decide +kernel
theorem dL_law_618 : decode cL_law 618 = .ok (.iconst 1, 1) := by decide +kernel
theorem dL_law_619 : decode cL_law 619 = .ok (.iadd, 1) := by decide +kernel
theorem dL_law_620 : decode cL_law 620 = .ok (.iaload, 1) := by decide +kernel
theorem dL_law_621 : decode cL_law 621 = .ok (.invokevirtual 72, 3) := by decide +kernel
theorem dL_law_624 : decode cL_law 624 = .ok (.if_icmp .eq 186, 3) := by decide +kernel
theorem dL_law_627 : decode cL_law 627 = .ok (.iconst 0, 1) := by decide +kernel
theorem dL_law_628 : decode cL_law 628 = .ok (.ireturn, 1) := by decide +kernel
theorem dL_law_629 : decode cL_law 629 = .ok (.aload_n 1, 1) := by decide +kernel
theorem dL_law_630 : decode cL_law 630 = .ok (.invokevirtual 73, 3) := by decide +kernel
theorem dL_law_633 : decode cL_law 633 = .ok (.aload_n 2, 1) := by decide +kernel
theorem dL_law_634 : decode cL_law 634 = .ok (.invokevirtual 76, 3) := by decide +kernel
theorem dL_law_637 : decode cL_law 637 = .ok (.if_icmp .eq 173, 3) := by decide +kernel
theorem dL_law_640 : decode cL_law 640 = .ok (.iconst 0, 1) := by decide +kernel
theorem dL_law_641 : decode cL_law 641 = .ok (.ireturn, 1) := by decide +kernel
theorem dL_law_642 : decode cL_law 642 = .ok (.aload_n 1, 1) := by decide +kernel
theorem dL_law_643 : decode cL_law 643 = .ok (.aload_n 0, 1) := by decide +kernel
theorem dL_law_644 : decode cL_law 644 = .ok (.iload_n 3, 1) := by decide +kernel
theorem dL_law_645 : decode cL_law 645 = .ok (.iconst 1, 1) := by decide +kernel
theorem dL_law_646 : decode cL_law 646 = .ok (.iadd, 1) := by decide +kernel
theorem dL_law_647 : decode cL_law 647 = .ok (.iaload, 1) := by decide +kernel
theorem dL_law_648 : decode cL_law 648 = .ok (.aload_n 0, 1) := by decide +kernel
theorem dL_law_649 : decode cL_law 649 = .ok (.iload_n 3, 1) := by decide +kernel
theorem dL_law_650 : decode cL_law 650 = .ok (.iconst 2, 1) := by decide +kernel
theorem dL_law_651 : decode cL_law 651 = .ok (.iadd, 1) := by decide +kernel
theorem dL_law_652 : decode cL_law 652 = .ok (.iaload, 1) := by decide +kernel
theorem dL_law_653 : decode cL_law 653 = .ok (.aload_n 0, 1) := by decide +kernel
theorem dL_law_654 : decode cL_law 654 = .ok (.iload_n 3, 1) := by decide +kernel
theorem dL_law_655 : decode cL_law 655 = .ok (.iconst 3, 1) := by decide +kernel
theorem dL_law_656 : decode cL_law 656 = .ok (.iadd, 1) := by decide +kernel
theorem dL_law_657 : decode cL_law 657 = .ok (.iaload, 1) := by decide +kernel
theorem dL_law_658 : decode cL_law 658 = .ok (.invokevirtual 77, 3) := by decide +kernel
theorem dL_law_661 : decode cL_law 661 = .ok (.aload_n 2, 1) := by decide +kernel
theorem dL_law_662 : decode cL_law 662 = .ok (.aload_n 0, 1) := by decide +kernel
theorem dL_law_663 : decode cL_law 663 = .ok (.iload_n 3, 1) := by decide +kernel
theorem dL_law_664 : decode cL_law 664 = .ok (.iconst 1, 1) := by decide +kernel
theorem dL_law_665 : decode cL_law 665 = .ok (.iadd, 1) := by decide +kernel
theorem dL_law_666 : decode cL_law 666 = .ok (.iaload, 1) := by decide +kernel
theorem dL_law_667 : decode cL_law 667 = .ok (.aload_n 0, 1) := by decide +kernel
theorem dL_law_668 : decode cL_law 668 = .ok (.iload_n 3, 1) := by decide +kernel
theorem dL_law_669 : decode cL_law 669 = .ok (.iconst 2, 1) := by decide +kernel
theorem dL_law_670 : decode cL_law 670 = .ok (.iadd, 1) := by decide +kernel
theorem dL_law_671 : decode cL_law 671 = .ok (.iaload, 1) := by decide +kernel
theorem dL_law_672 : decode cL_law 672 = .ok (.aload_n 0, 1) := by decide +kernel
theorem dL_law_673 : decode cL_law 673 = .ok (.iload_n 3, 1) := by decide +kernel
theorem dL_law_674 : decode cL_law 674 = .ok (.iconst 3, 1) := by decide +kernel
theorem dL_law_675 : decode cL_law 675 = .ok (.iadd, 1) := by decide +kernel
theorem dL_law_676 : decode cL_law 676 = .ok (.iaload, 1) := by decide +kernel
theorem dL_law_677 : decode cL_law 677 = .ok (.invokevirtual 80, 3) := by decide +kernel
theorem dL_law_680 : decode cL_law 680 = .ok (.if_icmp .eq 130, 3) := by decide +kernel
theorem dL_law_683 : decode cL_law 683 = .ok (.iconst 0, 1) := by decide +kernel
theorem dL_law_684 : decode cL_law 684 = .ok (.ireturn, 1) := by decide +kernel
theorem dL_law_685 : decode cL_law 685 = .ok (.aload_n 1, 1) := by decide +kernel
theorem dL_law_686 : decode cL_law 686 = .ok (.aload_n 0, 1) := by decide +kernel
theorem dL_law_687 : decode cL_law 687 = .ok (.iload_n 3, 1) := by decide +kernel
theorem dL_law_688 : decode cL_law 688 = .ok (.iconst 1, 1) := by decide +kernel
theorem dL_law_689 : decode cL_law 689 = .ok (.iadd, 1) := by decide +kernel
theorem dL_law_690 : decode cL_law 690 = .ok (.iaload, 1) := by decide +kernel
theorem dL_law_691 : decode cL_law 691 = .ok (.aload_n 0, 1) := by decide +kernel
theorem dL_law_692 : decode cL_law 692 = .ok (.iload_n 3, 1) := by decide +kernel
theorem dL_law_693 : decode cL_law 693 = .ok (.iconst 2, 1) := by decide +kernel
theorem dL_law_694 : decode cL_law 694 = .ok (.iadd, 1) := by decide +kernel
theorem dL_law_695 : decode cL_law 695 = .ok (.iaload, 1) := by decide +kernel
theorem dL_law_696 : decode cL_law 696 = .ok (.invokevirtual 81, 3) := by decide +kernel
theorem dL_law_699 : decode cL_law 699 = .ok (.aload_n 2, 1) := by decide +kernel
theorem dL_law_700 : decode cL_law 700 = .ok (.aload_n 0, 1) := by decide +kernel
theorem dL_law_701 : decode cL_law 701 = .ok (.iload_n 3, 1) := by decide +kernel
theorem dL_law_702 : decode cL_law 702 = .ok (.iconst 1, 1) := by decide +kernel
theorem dL_law_703 : decode cL_law 703 = .ok (.iadd, 1) := by decide +kernel
theorem dL_law_704 : decode cL_law 704 = .ok (.iaload, 1) := by decide +kernel
theorem dL_law_705 : decode cL_law 705 = .ok (.aload_n 0, 1) := by decide +kernel
theorem dL_law_706 : decode cL_law 706 = .ok (.iload_n 3, 1) := by decide +kernel
theorem dL_law_707 : decode cL_law 707 = .ok (.iconst 2, 1) := by decide +kernel
theorem dL_law_708 : decode cL_law 708 = .ok (.iadd, 1) := by decide +kernel
theorem dL_law_709 : decode cL_law 709 = .ok (.iaload, 1) := by decide +kernel
theorem dL_law_710 : decode cL_law 710 = .ok (.invokevirtual 84, 3) := by decide +kernel
theorem dL_law_713 : decode cL_law 713 = .ok (.if_icmp .eq 97, 3) := by decide +kernel
theorem dL_law_716 : decode cL_law 716 = .ok (.iconst 0, 1) := by decide +kernel
theorem dL_law_717 : decode cL_law 717 = .ok (.ireturn, 1) := by decide +kernel
theorem dL_law_718 : decode cL_law 718 = .ok (.aload_n 1, 1) := by decide +kernel
theorem dL_law_719 : decode cL_law 719 = .ok (.aload_n 0, 1) := by decide +kernel
theorem dL_law_720 : decode cL_law 720 = .ok (.iload_n 3, 1) := by decide +kernel
theorem dL_law_721 : decode cL_law 721 = .ok (.iconst 1, 1) := by decide +kernel
theorem dL_law_722 : decode cL_law 722 = .ok (.iadd, 1) := by decide +kernel
theorem dL_law_723 : decode cL_law 723 = .ok (.iaload, 1) := by decide +kernel
theorem dL_law_724 : decode cL_law 724 = .ok (.invokevirtual 85, 3) := by decide +kernel
theorem dL_law_727 : decode cL_law 727 = .ok (.aload_n 2, 1) := by decide +kernel
theorem dL_law_728 : decode cL_law 728 = .ok (.aload_n 0, 1) := by decide +kernel
theorem dL_law_729 : decode cL_law 729 = .ok (.iload_n 3, 1) := by decide +kernel
theorem dL_law_730 : decode cL_law 730 = .ok (.iconst 1, 1) := by decide +kernel
theorem dL_law_731 : decode cL_law 731 = .ok (.iadd, 1) := by decide +kernel
theorem dL_law_732 : decode cL_law 732 = .ok (.iaload, 1) := by decide +kernel
theorem dL_law_733 : decode cL_law 733 = .ok (.invokevirtual 89, 3) := by decide +kernel
theorem dL_law_736 : decode cL_law 736 = .ok (.if_icmp .eq 74, 3) := by decide +kernel
theorem dL_law_739 : decode cL_law 739 = .ok (.iconst 0, 1) := by decide +kernel
theorem dL_law_740 : decode cL_law 740 = .ok (.ireturn, 1) := by decide +kernel
theorem dL_law_741 : decode cL_law 741 = .ok (.aload_n 1, 1) := by decide +kernel
theorem dL_law_742 : decode cL_law 742 = .ok (.aload_n 0, 1) := by decide +kernel
theorem dL_law_743 : decode cL_law 743 = .ok (.iload_n 3, 1) := by decide +kernel
theorem dL_law_744 : decode cL_law 744 = .ok (.iconst 1, 1) := by decide +kernel
theorem dL_law_745 : decode cL_law 745 = .ok (.iadd, 1) := by decide +kernel
theorem dL_law_746 : decode cL_law 746 = .ok (.iaload, 1) := by decide +kernel
theorem dL_law_747 : decode cL_law 747 = .ok (.invokevirtual 90, 3) := by decide +kernel
theorem dL_law_750 : decode cL_law 750 = .ok (.aload_n 2, 1) := by decide +kernel
theorem dL_law_751 : decode cL_law 751 = .ok (.aload_n 0, 1) := by decide +kernel
theorem dL_law_752 : decode cL_law 752 = .ok (.iload_n 3, 1) := by decide +kernel
theorem dL_law_753 : decode cL_law 753 = .ok (.iconst 1, 1) := by decide +kernel
theorem dL_law_754 : decode cL_law 754 = .ok (.iadd, 1) := by decide +kernel
theorem dL_law_755 : decode cL_law 755 = .ok (.iaload, 1) := by decide +kernel
theorem dL_law_756 : decode cL_law 756 = .ok (.invokevirtual 93, 3) := by decide +kernel
theorem dL_law_759 : decode cL_law 759 = .ok (.if_icmp .eq 51, 3) := by decide +kernel
theorem dL_law_762 : decode cL_law 762 = .ok (.iconst 0, 1) := by decide +kernel
theorem dL_law_763 : decode cL_law 763 = .ok (.ireturn, 1) := by decide +kernel
theorem dL_law_764 : decode cL_law 764 = .ok (.aload_n 1, 1) := by decide +kernel
theorem dL_law_765 : decode cL_law 765 = .ok (.aload_n 0, 1) := by decide +kernel
theorem dL_law_766 : decode cL_law 766 = .ok (.iload_n 3, 1) := by decide +kernel
theorem dL_law_767 : decode cL_law 767 = .ok (.iconst 1, 1) := by decide +kernel
theorem dL_law_768 : decode cL_law 768 = .ok (.iadd, 1) := by decide +kernel
theorem dL_law_769 : decode cL_law 769 = .ok (.iaload, 1) := by decide +kernel
theorem dL_law_770 : decode cL_law 770 = .ok (.invokevirtual 94, 3) := by decide +kernel
theorem dL_law_773 : decode cL_law 773 = .ok (.aload_n 2, 1) := by decide +kernel
theorem dL_law_774 : decode cL_law 774 = .ok (.aload_n 0, 1) := by decide +kernel
theorem dL_law_775 : decode cL_law 775 = .ok (.iload_n 3, 1) := by decide +kernel
theorem dL_law_776 : decode cL_law 776 = .ok (.iconst 1, 1) := by decide +kernel
theorem dL_law_777 : decode cL_law 777 = .ok (.iadd, 1) := by decide +kernel
theorem dL_law_778 : decode cL_law 778 = .ok (.iaload, 1) := by decide +kernel
theorem dL_law_779 : decode cL_law 779 = .ok (.invokevirtual 97, 3) := by decide +kernel
theorem dL_law_782 : decode cL_law 782 = .ok (.if_icmp .eq 28, 3) := by decide +kernel
theorem dL_law_785 : decode cL_law 785 = .ok (.iconst 0, 1) := by decide +kernel
theorem dL_law_786 : decode cL_law 786 = .ok (.ireturn, 1) := by decide +kernel
theorem dL_law_787 : decode cL_law 787 = .ok (.aload_n 1, 1) := by decide +kernel
theorem dL_law_788 : decode cL_law 788 = .ok (.aload_n 0, 1) := by decide +kernel
theorem dL_law_789 : decode cL_law 789 = .ok (.iload_n 3, 1) := by decide +kernel
theorem dL_law_790 : decode cL_law 790 = .ok (.iconst 1, 1) := by decide +kernel
theorem dL_law_791 : decode cL_law 791 = .ok (.iadd, 1) := by decide +kernel
theorem dL_law_792 : decode cL_law 792 = .ok (.iaload, 1) := by decide +kernel
theorem dL_law_793 : decode cL_law 793 = .ok (.invokevirtual 98, 3) := by decide +kernel
theorem dL_law_796 : decode cL_law 796 = .ok (.aload_n 2, 1) := by decide +kernel
theorem dL_law_797 : decode cL_law 797 = .ok (.aload_n 0, 1) := by decide +kernel
theorem dL_law_798 : decode cL_law 798 = .ok (.iload_n 3, 1) := by decide +kernel
theorem dL_law_799 : decode cL_law 799 = .ok (.iconst 1, 1) := by decide +kernel
theorem dL_law_800 : decode cL_law 800 = .ok (.iadd, 1) := by decide +kernel
theorem dL_law_801 : decode cL_law 801 = .ok (.iaload, 1) := by decide +kernel
theorem dL_law_802 : decode cL_law 802 = .ok (.invokevirtual 101, 3) := by decide +kernel
theorem dL_law_805 : decode cL_law 805 = .ok (.if_icmp .eq 5, 3) := by decide +kernel
theorem dL_law_808 : decode cL_law 808 = .ok (.iconst 0, 1) := by decide +kernel
theorem dL_law_809 : decode cL_law 809 = .ok (.ireturn, 1) := by decide +kernel
theorem dL_law_810 : decode cL_law 810 = .ok (.iinc 3 7, 3) := by decide +kernel
theorem dL_law_813 : decode cL_law 813 = .ok (.goto (-795), 3) := by decide +kernel
theorem dL_law_816 : decode cL_law 816 = .ok (.iconst 1, 1) := by decide +kernel
theorem dL_law_817 : decode cL_law 817 = .ok (.ireturn, 1) := by decide +kernel
abbrev vwCl : List vw_C := [(RX0, TX0, 6), (RX1, TX1, 12), (RX2, TX2, 12), (RX3, TX3, 7), (RX4, TX4, 2), (RX5, TX5, 8), (RX6, TX6, 42)]
end
