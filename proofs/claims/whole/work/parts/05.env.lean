/-! what stays fixed: E = (classes of arrays, address of the text of letters, address of its bytes, a static of Preconditions) -/
abbrev ur_Ev : Type := (Nat → ClassId) × Nat × Nat × Option Nat
def ur_ty (k : Nat → ClassId) : List (ClassId × FieldType) := [(k 0, .int), (k 1, .byte), (k 2, .object "UnitRoom$Device"), (k 3, .array .int), (k 4, .array .byte), (k 5, .long), (k 6, .boolean)]
def ur_Z (E : ur_Ev) (A : Nat → Prop) (U : State) (H : Heap) : Prop := va_O "java/lang/String" E.2.1 A U H ∧ va_OF "java/lang/String" "coder" "B" (.int 0) E.2.1 A U H ∧ va_OF "java/lang/String" "value" "[B" (.ref E.2.2.1) E.2.1 A U H ∧ va_T .byte E.2.2.1 56 (fun j => .int (um_let.getD j 0)) A U H ∧ va_Z "java/lang/String" "COMPACT_STRINGS" "Z" (.int 1) A U H ∧ va_Z "jdk/internal/util/Preconditions" "SIOOBE_FORMATTER" "Ljava/util/function/BiFunction;" (va_rf E.2.2.2) A U H
theorem ur_Z_ok (E : ur_Ev) : ur_Zok (ur_Z E) := by
  refine ⟨fun A u U H hvm h => ?_, fun A U H H1 hq h => ?_, fun A B U H hAB h => ?_⟩
  · obtain ⟨h1, h2, h3, h4, h5, h6⟩ := h
    exact ⟨va_O.moved hvm h1, va_OF.moved hvm h2, va_OF.moved hvm h3, va_T.moved hvm h4, va_Z.moved hvm h5, va_Z.moved hvm h6⟩
  · obtain ⟨h1, h2, h3, h4, h5, h6⟩ := h
    exact ⟨h1.kept hq, h2.kept hq, h3.kept hq, h4.kept hq, h5.kept hq, h6.kept hq⟩
  · obtain ⟨h1, h2, h3, h4, h5, h6⟩ := h
    exact ⟨h1.narrow hAB, h2.narrow hAB, h3.narrow hAB, h4.narrow hAB, h5.narrow hAB, h6.narrow hAB⟩
def ur_nM : List (String × Nat × MethodName × String) := [("UnitRoom", 9, ⟨"UnitRoom$Memory", "<init>", "()V"⟩, "UnitRoom"), ("UnitRoom", 18, ⟨"UnitRoom$InputTape", "<init>", "()V"⟩, "UnitRoom"), ("UnitRoom$Writer", 43, ⟨"UnitRoom", "letterOf", "(I)C"⟩, "UnitRoom"), ("UnitRoom$InputTape", 17, ⟨"UnitRoom", "codeOf", "(I)I"⟩, "UnitRoom")]
def ur_nD : List MethodName := [⟨"UnitRoom$Device", "faultOf", "(III)I"⟩, ⟨"UnitRoom$Device", "work", "(IIILUnitRoom$Memory;)V"⟩, ⟨"UnitRoom$BlockDevice", "readBlock", "(II)V"⟩, ⟨"UnitRoom$Device", "bringTo", "(I)V"⟩, ⟨"UnitRoom$BlockDevice", "writeBlock", "(IILUnitRoom$Memory;)V"⟩, ⟨"UnitRoom$Device", "tell", "()I"⟩]
def ur_nC : List (String × String) := [("UnitRoom$Writer", "UnitRoom$Writer"), ("UnitRoom$Disk", "UnitRoom$BlockDevice"), ("UnitRoom$Tape", "UnitRoom$BlockDevice"), ("UnitRoom$Disk", "UnitRoom$Device"), ("UnitRoom$Reader", "UnitRoom$Device"), ("UnitRoom$Tape", "UnitRoom$Device"), ("UnitRoom$Writer", "UnitRoom$Device")]
def ur_nN : List (String × String) := [("UnitRoom$Reader", "UnitRoom$Writer"), ("UnitRoom$Tape", "UnitRoom$Writer"), ("UnitRoom$Disk", "UnitRoom$Writer"), ("UnitRoom$Reader", "UnitRoom$BlockDevice"), ("UnitRoom$Writer", "UnitRoom$BlockDevice")]
def ur_nO : List FieldType := [.object "UnitRoom$Device", .array .int, .array .byte]
/-- an array class of arrays, as the tables have it -/
def ur_AA (cA cR : ClassId) (t : FieldType) (U : State) : Prop := (∃ kA : Class, U.vm.classes[cA]? = some kA ∧ kA.kind = .array cR (.array t)) ∧ ∃ kR : Class, U.vm.classes[cR]? = some kR
theorem ur_AA.moved {cA cR : ClassId} {t : FieldType} {u U : State} (hvm : u.vm.Alike U.vm) (h : ur_AA cA cR t u) : ur_AA cA cR t U := by
  obtain ⟨⟨kA, h1, h2⟩, kR, h3⟩ := h
  obtain ⟨k', hk', he⟩ := hvm.2.2 _ _ h1
  obtain ⟨k2, hk2, -⟩ := hvm.2.2 _ _ h3
  exact ⟨⟨k', hk', by rw [he]; exact h2⟩, k2, hk2⟩
def ur_CD (U : State) : Prop := ∃ (comp : ClassId) (k : Class), U.vm.findClass "UnitRoom$Device" = some comp ∧ U.vm.classes[comp]? = some k
theorem ur_CD.moved {u U : State} (hvm : u.vm.Alike U.vm) (h : ur_CD u) : ur_CD U := by
  obtain ⟨comp, k, h1, h2⟩ := h
  obtain ⟨k', hk', -⟩ := hvm.2.2 _ _ h2
  exact ⟨comp, k', by rw [hvm.findClass]; exact h1, hk'⟩
theorem ur_AOs {t : FieldType} {u U : State} (hv : U.vm = u.vm) (h : va_Nw (.arrayOver t) u) : va_Nw (.arrayOver t) U := by
  unfold va_Nw at h ⊢
  simp only [Cond.before, Cond.holds, Cond.value, hv] at h ⊢
  exact h
def ur_X (E : ur_Ev) (U : State) : Prop := (∀ q ∈ ur_nM, va_Nw (.methodLinkNest q.1 q.2.1 q.2.2.1 q.2.2.2) U) ∧ (∀ x ∈ ur_nD, va_Nw (.declares x) U) ∧ (∀ q ∈ ur_nC, va_Nw (.castable q.1 q.2) U) ∧ (∀ q ∈ ur_nN, va_Nc q.1 q.2 U) ∧ (∀ t ∈ ur_nO, va_Nw (.arrayOver t) U) ∧ ur_AA (E.1 3) (E.1 0) .int U ∧ ur_AA (E.1 4) (E.1 1) .byte U ∧ ur_CD U ∧ vk_R "UnitRoom" 159 " ABCDEFGHI~JKLMNOPQR[#STUVWXYZ0123456789.,()+-*/=$<>@;:'" E.2.1 U
theorem ur_X_ok (E : ur_Ev) : ur_Xok (ur_X E) := by
  refine ⟨fun s U hW h => ?_, fun u U hv h => ?_⟩
  · obtain ⟨h1, h2, h3, h4, h5, h6, h7, h8, h9⟩ := h
    exact ⟨fun q hq => va_Nw.warmM hW (h1 q hq), fun x hx => va_Nw.warmD hW (h2 x hx), fun q hq => va_Nw.warmC hW (h3 q hq), fun q hq => va_Nc.moved hW.alike (h4 q hq), fun t ht => ur_AOs (u := s.setVm U.vm) rfl (by show (Cond.arrayOver t).before #[] _ = true; rw [Cond.arrayOver_setVmC hW.alike]; exact h5 t ht), h6.moved hW.alike, h7.moved hW.alike, h8.moved hW.alike, h9.warm hW⟩
  · obtain ⟨h1, h2, h3, h4, h5, h6, h7, h8, h9⟩ := h
    have ha : u.vm.Alike U.vm := by rw [hv]; exact Vm.Alike.refl _
    exact ⟨fun q hq => va_Nw.same rfl hv.symm (h1 q hq), fun x hx => va_Nw.same rfl hv.symm (h2 x hx), fun q hq => va_Nw.same rfl hv.symm (h3 q hq), fun q hq => va_Nc.moved ha (h4 q hq), fun t ht => ur_AOs hv (h5 t ht), h6.moved ha, h7.moved ha, h8.moved ha, vk_R.same hv h9⟩
def ur_v (E : ur_Ev) : ur_V := (ur_ty E.1, ur_Z E, ur_X E)
