/-! ambient facts: nest links, String constants, two statics of the JDK (by program: gen/amb.py) -/
def nw0 : Cond := .methodLinkNest "PanoramaHouse" 9 ⟨"PanoramaHouse$Round", "<init>", "()V"⟩ "PanoramaHouse"
def nw1 : Cond := .methodLinkNest "PanoramaHouse" 27 ⟨"PanoramaHouse$ContractReader", "<init>", "()V"⟩ "PanoramaHouse"
def nw2 : Cond := .methodLinkNest "PanoramaHouse$Round" 56 ⟨"PanoramaHouse", "isSquare", "(I)Z"⟩ "PanoramaHouse"
def nw3 : Cond := .methodLinkNest "PanoramaHouse$Paintwork" 60 ⟨"PanoramaHouse", "isSquare", "(I)Z"⟩ "PanoramaHouse"
abbrev Kx : Type := (Nat → Nat) × (Nat → Nat)
def Amb (K : Kx) (A : Nat → Prop) (U : State) (H : Heap) : Prop := va_Nw nw0 U ∧ va_Nw nw1 U ∧ va_Nw nw2 U ∧ va_Nw nw3 U ∧ vk_R "PanoramaHouse$ContractReader" 53 "weeks" (K.1 0) U ∧ vk_R "PanoramaHouse$ContractReader" 59 "part" (K.1 1) U ∧ vk_R "PanoramaHouse$ContractReader" 61 "rent" (K.1 2) U ∧ vk_R "PanoramaHouse$ContractReader" 84 "if" (K.1 3) U ∧ vk_R "PanoramaHouse$ContractReader" 98 "week" (K.1 4) U ∧ vk_R "PanoramaHouse$ContractReader" 100 "people" (K.1 5) U ∧ vk_R "PanoramaHouse$ContractReader" 102 "coins" (K.1 6) U ∧ vk_R "PanoramaHouse$ContractReader" 89 "and" (K.1 7) U ∧ va_AO "PanoramaHouse$Hall" U ∧ vk_S 8 sLen sByt K.1 K.2 A U H ∧ va_Z "java/lang/String" "COMPACT_STRINGS" "Z" (.int 1) A U H ∧ va_Zq "jdk/internal/util/Preconditions" "SIOOBE_FORMATTER" "Ljava/util/function/BiFunction;" A U H
theorem Amb.warm {K : Kx} {A : Nat → Prop} {s U : State} {H : Heap} (hW : s.WarmedH U.vm) (h : Amb K A s H) : Amb K A U H := by
  obtain ⟨n0, n1, n2, n3, r0, r1, r2, r3, r4, r5, r6, r7, ao, t0, t1, t2⟩ := h
  exact ⟨va_Nw.warmM hW n0, va_Nw.warmM hW n1, va_Nw.warmM hW n2, va_Nw.warmM hW n3, vk_R.warm hW r0, vk_R.warm hW r1, vk_R.warm hW r2, vk_R.warm hW r3, vk_R.warm hW r4, vk_R.warm hW r5, vk_R.warm hW r6, vk_R.warm hW r7, ao.moved hW.alike, t0.moved hW.alike, t1.moved hW.alike, t2.moved hW.alike⟩
theorem Amb.same {K : Kx} {A : Nat → Prop} {u U : State} {H : Heap} (hv : u.vm = U.vm) (h : Amb K A u H) : Amb K A U H := by
  obtain ⟨n0, n1, n2, n3, r0, r1, r2, r3, r4, r5, r6, r7, ao, t0, t1, t2⟩ := h
  have ha : u.vm.Alike U.vm := by rw [hv]; exact Vm.Alike.refl U.vm
  exact ⟨va_Nw.same rfl hv n0, va_Nw.same rfl hv n1, va_Nw.same rfl hv n2, va_Nw.same rfl hv n3, vk_R.same hv.symm r0, vk_R.same hv.symm r1, vk_R.same hv.symm r2, vk_R.same hv.symm r3, vk_R.same hv.symm r4, vk_R.same hv.symm r5, vk_R.same hv.symm r6, vk_R.same hv.symm r7, ao.moved ha, t0.moved ha, t1.moved ha, t2.moved ha⟩
theorem Amb.kept {K : Kx} {A : Nat → Prop} {U : State} {H H1 : Heap} (h : Amb K A U H) (hq : ∀ a : Nat, a < H.size → ¬ A a → H1[a]? = H[a]?) : Amb K A U H1 := by
  obtain ⟨n0, n1, n2, n3, r0, r1, r2, r3, r4, r5, r6, r7, ao, t0, t1, t2⟩ := h
  exact ⟨n0, n1, n2, n3, r0, r1, r2, r3, r4, r5, r6, r7, ao, t0.kept hq, t1.kept hq, t2.kept hq⟩
theorem Amb.narrow {K : Kx} {A B : Nat → Prop} {U : State} {H : Heap} (h : Amb K A U H) (hAB : ∀ q, B q → A q) : Amb K B U H := by
  obtain ⟨n0, n1, n2, n3, r0, r1, r2, r3, r4, r5, r6, r7, ao, t0, t1, t2⟩ := h
  exact ⟨n0, n1, n2, n3, r0, r1, r2, r3, r4, r5, r6, r7, ao, t0.narrow hAB, t1.narrow hAB, t2.narrow hAB⟩
theorem Amb.nw0 {K : Kx} {A : Nat → Prop} {U : State} {H : Heap} (h : Amb K A U H) : va_Nw nw0 U := h.1
theorem Amb.nw1 {K : Kx} {A : Nat → Prop} {U : State} {H : Heap} (h : Amb K A U H) : va_Nw nw1 U := h.2.1
theorem Amb.nw2 {K : Kx} {A : Nat → Prop} {U : State} {H : Heap} (h : Amb K A U H) : va_Nw nw2 U := h.2.2.1
theorem Amb.nw3 {K : Kx} {A : Nat → Prop} {U : State} {H : Heap} (h : Amb K A U H) : va_Nw nw3 U := h.2.2.2.1
theorem Amb.str0 {K : Kx} {A : Nat → Prop} {U : State} {H : Heap} (h : Amb K A U H) : vk_R "PanoramaHouse$ContractReader" 53 "weeks" (K.1 0) U := h.2.2.2.2.1
theorem Amb.str1 {K : Kx} {A : Nat → Prop} {U : State} {H : Heap} (h : Amb K A U H) : vk_R "PanoramaHouse$ContractReader" 59 "part" (K.1 1) U := h.2.2.2.2.2.1
theorem Amb.str2 {K : Kx} {A : Nat → Prop} {U : State} {H : Heap} (h : Amb K A U H) : vk_R "PanoramaHouse$ContractReader" 61 "rent" (K.1 2) U := h.2.2.2.2.2.2.1
theorem Amb.str3 {K : Kx} {A : Nat → Prop} {U : State} {H : Heap} (h : Amb K A U H) : vk_R "PanoramaHouse$ContractReader" 84 "if" (K.1 3) U := h.2.2.2.2.2.2.2.1
theorem Amb.str4 {K : Kx} {A : Nat → Prop} {U : State} {H : Heap} (h : Amb K A U H) : vk_R "PanoramaHouse$ContractReader" 98 "week" (K.1 4) U := h.2.2.2.2.2.2.2.2.1
theorem Amb.str5 {K : Kx} {A : Nat → Prop} {U : State} {H : Heap} (h : Amb K A U H) : vk_R "PanoramaHouse$ContractReader" 100 "people" (K.1 5) U := h.2.2.2.2.2.2.2.2.2.1
theorem Amb.str6 {K : Kx} {A : Nat → Prop} {U : State} {H : Heap} (h : Amb K A U H) : vk_R "PanoramaHouse$ContractReader" 102 "coins" (K.1 6) U := h.2.2.2.2.2.2.2.2.2.2.1
theorem Amb.str7 {K : Kx} {A : Nat → Prop} {U : State} {H : Heap} (h : Amb K A U H) : vk_R "PanoramaHouse$ContractReader" 89 "and" (K.1 7) U := h.2.2.2.2.2.2.2.2.2.2.2.1
theorem Amb.hallArr {K : Kx} {A : Nat → Prop} {U : State} {H : Heap} (h : Amb K A U H) : va_AO "PanoramaHouse$Hall" U := h.2.2.2.2.2.2.2.2.2.2.2.2.1
theorem Amb.txt {K : Kx} {A : Nat → Prop} {U : State} {H : Heap} (h : Amb K A U H) : vk_S 8 sLen sByt K.1 K.2 A U H := h.2.2.2.2.2.2.2.2.2.2.2.2.2.1
theorem Amb.cst {K : Kx} {A : Nat → Prop} {U : State} {H : Heap} (h : Amb K A U H) : va_Z "java/lang/String" "COMPACT_STRINGS" "Z" (.int 1) A U H := h.2.2.2.2.2.2.2.2.2.2.2.2.2.2.1
theorem Amb.fmt {K : Kx} {A : Nat → Prop} {U : State} {H : Heap} (h : Amb K A U H) : va_Zq "jdk/internal/util/Preconditions" "SIOOBE_FORMATTER" "Ljava/util/function/BiFunction;" A U H := h.2.2.2.2.2.2.2.2.2.2.2.2.2.2.2
