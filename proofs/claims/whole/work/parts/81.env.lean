/-! what the start gives -/
def lw_sv : Term := .field (.string "UnitRoom" 159) "java/lang/String" "value" "[B"
theorem lw_els : ∀ j, j < 56 → Cond.eq (.elem lw_sv (.int (Int32.ofNat j))) (.int (um_let.getD j 0)) ∈ flatC (Jvm.Cond.and given_1 narrow_1) := by decide +kernel
theorem lw_noA {s : State} (a : Nat) (ha : a < s.heap.size) : ¬ ur_A (fun _ => none) s.heap.size a := by
  rintro (⟨e, z⟩ | z)
  · cases z
  · omega
theorem lw_arr {args : Array Value} {s : State} {ty : FieldType} (h : (Cond.arrayClass ty).before args s = true) : ∃ cA : ClassId, ArrOfT s cA ty ∧ s.vm.findClass ("[" ++ ty.toString) = some cA := by
  obtain ⟨c, k, comp, f1, f2, f3⟩ := Cond.arrayClass_spec h
  exact ⟨c, fun N z => ⟨(fun k h => by cases h), k, f2, comp, f3⟩, f1⟩
theorem lw_ao {args : Array Value} {s : State} {ty : FieldType} (h : (Cond.arrayOver ty).before args s = true) : va_Nw (.arrayOver ty) s := by
  unfold va_Nw
  simp only [Cond.before, Cond.holds, Cond.value] at h ⊢
  exact h
section LWE
variable {s : State} {b : Nat}
theorem lw_X1 (hts : ∀ w ∈ lw_tbl, w.before #[Value.ref b] s = true) : ∀ q ∈ ur_nM, va_Nw (.methodLinkNest q.1 q.2.1 q.2.2.1 q.2.2.2) s := by
  have k : ∀ q ∈ ur_nM, Cond.methodLinkNest q.1 q.2.1 q.2.2.1 q.2.2.2 ∈ lw_tbl := by decide +kernel
  exact fun q hq => va_Nw.of rfl (hts _ (k q hq))
theorem lw_X2 (hts : ∀ w ∈ lw_tbl, w.before #[Value.ref b] s = true) : ∀ x ∈ ur_nD, va_Nw (.declares x) s := by
  have k : ∀ q ∈ ur_nD, Cond.declares q ∈ lw_tbl := by decide +kernel
  exact fun q hq => va_Nw.of rfl (hts _ (k q hq))
theorem lw_X3 (hts : ∀ w ∈ lw_tbl, w.before #[Value.ref b] s = true) : ∀ q ∈ ur_nC, va_Nw (.castable q.1 q.2) s := by
  have k : ∀ q ∈ ur_nC, Cond.castable q.1 q.2 ∈ lw_tbl := by decide +kernel
  exact fun q hq => va_Nw.of rfl (hts _ (k q hq))
theorem lw_X4 (hs : ∀ w ∈ flatC (Jvm.Cond.and given_1 narrow_1), w.before #[Value.ref b] s = true) : ∀ q ∈ ur_nN, va_Nc q.1 q.2 s := by
  have k : ∀ q ∈ ur_nN, Cond.not (.castable q.1 q.2) ∈ flatC (Jvm.Cond.and given_1 narrow_1) := by decide +kernel
  exact fun q hq => va_Nc.of (hs _ (k q hq))
theorem lw_X5 (hts : ∀ w ∈ lw_tbl, w.before #[Value.ref b] s = true) : ∀ t ∈ ur_nO, va_Nw (.arrayOver t) s := by
  have k : ∀ q ∈ ur_nO, Cond.arrayOver q ∈ lw_tbl := by decide +kernel
  exact fun q hq => lw_ao (hts _ (k q hq))
theorem lw_str (hs : ∀ w ∈ flatC (Jvm.Cond.and given_1 narrow_1), w.before #[Value.ref b] s = true) : ∃ aK aV : Nat, (va_O "java/lang/String" aK (ur_A (fun _ => none) s.heap.size) s s.heap ∧ va_OF "java/lang/String" "coder" "B" (.int 0) aK (ur_A (fun _ => none) s.heap.size) s s.heap ∧ va_OF "java/lang/String" "value" "[B" (.ref aV) aK (ur_A (fun _ => none) s.heap.size) s s.heap ∧ va_T .byte aV 56 (fun j => .int (um_let.getD j 0)) (ur_A (fun _ => none) s.heap.size) s s.heap) ∧ (Term.string "UnitRoom" 159).eval #[Value.ref b] s none [] s = some (.ref aK) := by
  obtain ⟨adK, adV, h1, h2⟩ := vk_Sof (args := #[Value.ref b]) (s := s) (N := 1) (tm := fun _ => Term.string "UnitRoom" 159) (len := [56]) (byt := [um_let]) (A := ur_A (fun _ => none) s.heap.size)
    (fun i hi => by obtain rfl : i = 0 := by omega
                    decide)
    (fun i hi => hs _ (by decide +kernel)) (fun i hi => hs _ (by decide +kernel)) (fun i hi => hs _ (by decide +kernel))
    (fun i hi => by obtain rfl : i = 0 := by omega
                    exact hs _ (by decide +kernel))
    (fun i hi j hj => by obtain rfl : i = 0 := by omega
                         exact hs _ (lw_els j hj))
    (fun i j hi hj n => absurd (show i = j by omega) n) lw_noA
  exact ⟨adK 0, adV 0, h1.1 0 (by decide), h2 0 (by decide)⟩
theorem lw_fmt (hts : ∀ w ∈ lw_tbl, w.before #[Value.ref b] s = true) (hs : ∀ w ∈ flatC (Jvm.Cond.and given_1 narrow_1), w.before #[Value.ref b] s = true) : ∃ o : Option Nat, va_Z "jdk/internal/util/Preconditions" "SIOOBE_FORMATTER" "Ljava/util/function/BiFunction;" (va_rf o) (ur_A (fun _ => none) s.heap.size) s s.heap := by
  rcases va_Zqof (args := #[Value.ref b]) (s := s) (C := "jdk/internal/util/Preconditions") (n := "SIOOBE_FORMATTER") (d := "Ljava/util/function/BiFunction;") (A := ur_A (fun _ => none) s.heap.size) (hts _ (by decide +kernel)) (hts _ (by decide +kernel)) (hs _ (by decide +kernel)) lw_noA with h | ⟨t, h⟩
  · exact ⟨none, h⟩
  · exact ⟨some t, h⟩
theorem lw_cmpt (hts : ∀ w ∈ lw_tbl, w.before #[Value.ref b] s = true) (hs : ∀ w ∈ flatC (Jvm.Cond.and given_1 narrow_1), w.before #[Value.ref b] s = true) : va_Z "java/lang/String" "COMPACT_STRINGS" "Z" (.int 1) (ur_A (fun _ => none) s.heap.size) s s.heap :=
  va_Zof (args := #[Value.ref b]) (hts _ (by decide +kernel)) (hts _ (by decide +kernel)) (va_eqt (hs _ (by decide +kernel))) lw_noA
theorem lw_env (hts : ∀ w ∈ lw_tbl, w.before #[Value.ref b] s = true) (hgv : (Jvm.Cond.and given_1 narrow_1).before #[Value.ref b] s = true) : ∃ (D : va_G) (E : ur_Ev), ur_K D vwCl (ur_v E) s ∧ ur_O (ur_v E) (ur_A (fun _ => none) s.heap.size) s s.heap := by
  have htsG : ∀ w ∈ ur_G, w.before #[Value.ref b] s = true := fun w hw => hts w (List.mem_filter.mp hw).1
  have hs := flat_of_before _ hgv
  obtain ⟨c0, i0, k0⟩ := u_known (C := "UnitRoom") (T := TU) (N := 6) (n := 6) htsG inU (htsG _ mw19)
  obtain ⟨c1, i1, k1⟩ := u_known (C := "UnitRoom$Memory") (T := TM) (N := 1) (n := 1) htsG inM (htsG _ mw27)
  obtain ⟨c2, i2, k2⟩ := u_known (C := "UnitRoom$InputTape") (T := TN) (N := 2) (n := 2) htsG inN (htsG _ mw38)
  obtain ⟨c3, i3, k3⟩ := u_known (C := "UnitRoom$Tape") (T := TT) (N := 9) (n := 9) htsG inT (htsG _ mw106)
  obtain ⟨c4, i4, k4⟩ := u_known (C := "UnitRoom$Disk") (T := TK) (N := 8) (n := 8) htsG inK (htsG _ mw131)
  obtain ⟨c5, i5, k5⟩ := u_known (C := "UnitRoom$Reader") (T := TR) (N := 10) (n := 10) htsG inR (htsG _ mw52)
  obtain ⟨c6, i6, k6⟩ := u_known (C := "UnitRoom$Writer") (T := TW) (N := 10) (n := 10) htsG inW (htsG _ mw146)
  obtain ⟨c7, i7, k7⟩ := u_known (C := "UnitRoomModel") (T := TF) (N := 18) (n := 18) htsG inF (htsG _ mw570)
  obtain ⟨a0, q0, f0⟩ := lw_arr (hts (.arrayClass .int) (by decide +kernel))
  obtain ⟨a1, q1, f1⟩ := lw_arr (hts (.arrayClass .byte) (by decide +kernel))
  obtain ⟨a5, q5, f5⟩ := lw_arr (hts (.arrayClass .long) (by decide +kernel))
  obtain ⟨a6, q6, f6⟩ := lw_arr (hts (.arrayClass .boolean) (by decide +kernel))
  obtain ⟨m2, a2, r2, e21, -, e22, e23, e24⟩ := Cond.arrayOver_spec (hts (.arrayOver (.object "UnitRoom$Device")) (by decide +kernel))
  obtain ⟨m3, a3, r3, e31, e32, e33, e34⟩ := Cond.arrayOver_specA (hts (.arrayOver (.array .int)) (by decide +kernel))
  obtain ⟨m4, a4, r4, e41, e42, e43, e44⟩ := Cond.arrayOver_specA (hts (.arrayOver (.array .byte)) (by decide +kernel))
  obtain ⟨z0, hz0⟩ := Vm.classAt_of_findClass f0
  obtain ⟨z1, hz1⟩ := Vm.classAt_of_findClass f1
  obtain ⟨z2, hz2⟩ := Vm.classAt_of_findClass e21
  have em3 : m3 = a0 := Option.some.inj (e31.symm.trans f0)
  have em4 : m4 = a1 := Option.some.inj (e41.symm.trans f1)
  subst em3
  subst em4
  obtain ⟨aK, aV, hstr, hev⟩ := lw_str hs
  obtain ⟨fo, hfo⟩ := lw_fmt hts hs
  refine ⟨(fun k => match k with | 0 => c0 | 1 => c1 | 2 => c2 | 3 => c3 | 4 => c4 | 5 => c5 | 6 => c6 | _ => c7, fun k => match k with | 0 => i0 | 1 => i1 | 2 => i2 | 3 => i3 | 4 => i4 | 5 => i5 | 6 => i6 | _ => i7), (fun k => match k with | 0 => m3 | 1 => m4 | 2 => a2 | 3 => a3 | 4 => a4 | 5 => a5 | _ => a6, aK, aV, fo), ⟨⟨fun k q hk => ?_, fun k q hk => ?_⟩, ?_, ur_X_ok _⟩, ?_, ur_Z_ok _⟩
  · match k, hk with
    | 0, hk => cases hk; exact k0
    | 1, hk => cases hk; exact k1
    | 2, hk => cases hk; exact k2
    | 3, hk => cases hk; exact k3
    | 4, hk => cases hk; exact k4
    | 5, hk => cases hk; exact k5
    | 6, hk => cases hk; exact k6
    | 7, hk => cases hk; exact k7
    | n + 8, hk => cases hk
  · match k, hk with
    | 0, hk => cases hk; exact ⟨q0, f0⟩
    | 1, hk => cases hk; exact ⟨q1, f1⟩
    | 2, hk => cases hk; exact ⟨fun N z => ⟨(fun k h => by cases h), r2, e22, m2, e23⟩, r2, m2, e22, e23, e21, e24⟩
    | 3, hk => cases hk; exact ⟨fun N z => ⟨(fun k h => by cases h), r3, e32, _, e33⟩, e34⟩
    | 4, hk => cases hk; exact ⟨fun N z => ⟨(fun k h => by cases h), r4, e42, _, e43⟩, e44⟩
    | 5, hk => cases hk; exact ⟨q5, f5⟩
    | 6, hk => cases hk; exact ⟨q6, f6⟩
    | n + 7, hk => cases hk
  · exact ⟨lw_X1 hts, lw_X2 hts, lw_X3 hts, lw_X4 hs, lw_X5 hts, ⟨⟨r3, e32, e33⟩, z0, hz0⟩, ⟨⟨r4, e42, e43⟩, z1, hz1⟩, ⟨m2, z2, e21, hz2⟩, vk_R.of (A := #[Value.ref b]) (hts _ (by decide +kernel)) hev⟩
  · exact ⟨hstr.1, hstr.2.1, hstr.2.2.1, hstr.2.2.2, lw_cmpt hts hs, hfo⟩
end LWE
