/-! THE HEAP AS A FUNCTION. h a = some e: the cell a is known to be e. A contract speaks of h and of the h' behind it; nothing is said of cells that h doesn't know, and none of them is changed. -/
abbrev ur_M : Type := Nat → Option va_E
def ur_P (D : va_G) (cl : List vw_C) (h : ur_M) (H : Heap) : Prop := ∀ (a : Nat) (e : va_E), h a = some e → va_at D cl (a, e) H
def ur_A (h : ur_M) (sz : Nat) : Nat → Prop := fun q => (∃ e, h q = some e) ∨ sz ≤ q
def ur_I (D : va_G) (cl : List vw_C) (A : Nat → Prop) (H0 : Heap) (h : ur_M) (H : Heap) (locs : List Loc) : Prop := ur_P D cl h H ∧ (∀ (a : Nat) (e : va_E), h a = some e → A a) ∧ va_S A H0 H locs ∧ ∀ q : Nat, H0.size ≤ q → A q
/-- what stays fixed: the classes of arrays; Z: what is only read (of cells that don't change); X: what the tables say -/
abbrev ur_V : Type := List (ClassId × FieldType) × ((Nat → Prop) → State → Heap → Prop) × (State → Prop)
def ur_Zok (Z : (Nat → Prop) → State → Heap → Prop) : Prop := (∀ (A : Nat → Prop) (u U : State) (H : Heap), u.vm.Alike U.vm → Z A u H → Z A U H) ∧ (∀ (A : Nat → Prop) (U : State) (H H1 : Heap), (∀ a : Nat, a < H.size → ¬ A a → H1[a]? = H[a]?) → Z A U H → Z A U H1) ∧ ∀ (A B : Nat → Prop) (U : State) (H : Heap), (∀ q, B q → A q) → Z A U H → Z B U H
def ur_Xok (X : State → Prop) : Prop := (∀ s U : State, s.WarmedH U.vm → X s → X U) ∧ ∀ u U : State, U.vm = u.vm → X u → X U
def ur_K (D : va_G) (cl : List vw_C) (V : ur_V) (U : State) : Prop := va_K D cl V.1 U ∧ V.2.2 U ∧ ur_Xok V.2.2
theorem ur_K.warm {D : va_G} {cl : List vw_C} {V : ur_V} {s U : State} (hW : s.WarmedH U.vm) (h : ur_K D cl V s) : ur_K D cl V U := ⟨va_K.moved hW.alike h.1, h.2.2.1 s U hW h.2.1, h.2.2⟩
def ur_O (V : ur_V) (A : Nat → Prop) (s : State) (H : Heap) : Prop := V.2.1 A s H ∧ ur_Zok V.2.1
def ur_B (D : va_G) (cl : List vw_C) (V : ur_V) (h : ur_M) (sz : Nat) (U : State) : Prop := U.heap.size = sz ∧ ur_P D cl h U.heap ∧ ur_O V (ur_A h sz) U U.heap ∧ ur_K D cl V U
def ur_E (D : va_G) (cl : List vw_C) (h : ur_M) (sz : Nat) (h' : ur_M) (t : State) : Prop := ur_P D cl h' t.heap ∧ ∀ (a : Nat) (e : va_E), h' a = some e → ur_A h sz a
/-- behind a call that had the part h1 of h, and left h1' of it -/
def ur_mix (h h1 h1' : ur_M) : ur_M := fun a => match h1' a with
  | some e => some e
  | none => match h1 a with
    | some _ => none
    | none => h a
theorem ur_mix_all (h h' : ur_M) : ur_mix h h h' = h' := by
  funext a
  unfold ur_mix
  cases h' a with
  | some e => rfl
  | none => cases h a <;> rfl
theorem ur_mix_in {h h1 h1' : ur_M} {a : Nat} {e : va_E} (q : h1' a = some e) : ur_mix h h1 h1' a = some e := by
  unfold ur_mix
  rw [q]
theorem ur_mix_out {h h1 h1' : ur_M} {a : Nat} (q : h1' a = none) (q1 : h1 a = none) : ur_mix h h1 h1' a = h a := by
  unfold ur_mix
  rw [q, q1]
theorem ur_one {D : va_G} {cl : List vw_C} {h : ur_M} {H : Heap} {a : Nat} {e : va_E} (hP : ur_P D cl h H) (ha : h a = some e) : va_P D cl [(a, e)] H := by
  intro k q hk
  have hz : k < 1 := (List.getElem?_eq_some_iff.mp hk).1
  rw [show k = 0 by omega] at hk
  cases hk
  exact hP a e ha
theorem ur_lt {D : va_G} {cl : List vw_C} {h : ur_M} {H : Heap} {a : Nat} {e : va_E} (hP : ur_P D cl h H) (ha : h a = some e) : a < H.size := (hP a e ha).lt
theorem ur_none {D : va_G} {cl : List vw_C} {h : ur_M} {H : Heap} {a : Nat} (hP : ur_P D cl h H) (ha : H.size ≤ a) : h a = none := by
  cases q : h a with
  | none => rfl
  | some e => exact absurd (ur_lt hP q) (Nat.not_lt.mpr ha)
theorem ur_begin {D : va_G} {cl : List vw_C} {h : ur_M} {H : Heap} (hP : ur_P D cl h H) : ur_I D cl (ur_A h H.size) H h H [] := ⟨hP, fun _ e q => Or.inl ⟨e, q⟩, va_S.rf, fun _ q => Or.inr q⟩
theorem ur_I.put {D : va_G} {cl : List vw_C} {A : Nat → Prop} {H0 H H1 : Heap} {h : ur_M} {locs : List Loc} {a k : Nat} {e0 e : va_E} (hI : ur_I D cl A H0 h H locs) (ha : h a = some e0) (z : H1.size = H.size) (oq : ∀ q : Nat, q ≠ a → H1[q]? = H[q]?) (hat : va_at D cl (a, e) H1) : ur_I D cl A H0 (va_up h a (some e)) H1 (locs ++ [⟨a, k⟩]) := by
  refine ⟨fun b eb hb => ?_, fun b eb hb => ?_, hI.2.2.1.put z oq (hI.2.1 a e0 ha), hI.2.2.2⟩
  · by_cases hq : b = a
    · subst hq
      rw [va_up_self] at hb
      cases hb
      exact hat
    · rw [va_up_ne _ _ hq] at hb
      exact (hI.1 b eb hb).kept (oq b hq)
  · by_cases hq : b = a
    · subst hq
      exact hI.2.1 _ _ ha
    · rw [va_up_ne _ _ hq] at hb
      exact hI.2.1 b eb hb
theorem ur_I.new {D : va_G} {cl : List vw_C} {A : Nat → Prop} {H0 H H1 : Heap} {h : ur_M} {locs : List Loc} {e : va_E} (hI : ur_I D cl A H0 h H locs) (z : H1.size = H.size + 1) (o1 : ∀ q : Nat, q < H.size → H1[q]? = H[q]?) (hat : va_at D cl (H.size, e) H1) : ur_I D cl A H0 (va_up h H.size (some e)) H1 locs := by
  have hS := hI.2.2.1
  refine ⟨fun b eb hb => ?_, fun b eb hb => ?_, ⟨Nat.le_trans hS.1 (by omega), fun x h1 h2 => (o1 x (Nat.lt_of_lt_of_le h1 hS.1)).trans (hS.2.1 x h1 h2), hS.2.2⟩, hI.2.2.2⟩
  · by_cases hq : b = H.size
    · subst hq
      rw [va_up_self] at hb
      cases hb
      exact hat
    · rw [va_up_ne _ _ hq] at hb
      exact (hI.1 b eb hb).kept (o1 b (ur_lt hI.1 hb))
  · by_cases hq : b = H.size
    · subst hq
      exact hI.2.2.2 _ hS.1
    · rw [va_up_ne _ _ hq] at hb
      exact hI.2.1 b eb hb
theorem ur_ret {D : va_G} {cl : List vw_C} {s t : State} {h0 h : ur_M} {H : Heap} {locs : List Loc} (hI : ur_I D cl (ur_A h0 s.heap.size) s.heap h H locs) (ht : t.heap = H) : ur_E D cl h0 s.heap.size h t ∧ va_F (ur_A h0 s.heap.size) s t :=
  ⟨⟨by rw [ht]; exact hI.1, hI.2.1⟩, hI.2.2.1.F ht⟩
theorem ur_sub {D : va_G} {cl : List vw_C} {A : Nat → Prop} {H0 H : Heap} {h h1 : ur_M} {locs : List Loc} (hI : ur_I D cl A H0 h H locs) (hs : ∀ (a : Nat) (e : va_E), h1 a = some e → h a = some e) : ∀ q : Nat, ur_A h1 H.size q → A q := by
  intro q hq
  rcases hq with ⟨e, he⟩ | hq
  · exact hI.2.1 q e (hs q e he)
  · exact hI.2.2.2 q (Nat.le_trans hI.2.2.1.1 hq)
theorem ur_blind {D : va_G} {cl : List vw_C} {V : ur_V} {av : List Value} {h : ur_M} {sz : Nat} : FrameBlind (va_Pc av (ur_B D cl V h sz)) := fun a U g mk q => by
  obtain ⟨q0, q1, qP, qO, qK⟩ := q
  exact ⟨q0, q1, qP, ⟨qO.2.1 _ U (U.calling g mk a) _ (Vm.Alike.refl U.vm) qO.1, qO.2⟩, va_K.moved (u := U) (U := U.calling g mk a) (Vm.Alike.refl U.vm) qK.1, qK.2.2.2 U _ rfl qK.2.1, qK.2.2⟩
theorem ur_pre {D : va_G} {cl : List vw_C} {V : ur_V} {A : Nat → Prop} {H : Heap} {h h1 : ur_M} {locs : List Loc} {s : State} {av : List Value} (hI : ur_I D cl A s.heap h H locs) (hO : ur_O V A s s.heap) (hK : ur_K D cl V s) (hs : ∀ (a : Nat) (e : va_E), h1 a = some e → h a = some e) : ∀ U : State, U.heap = H → s.WarmedH U.vm → va_Pc av (ur_B D cl V h1 H.size) av.toArray U :=
  fun U hU hW => ⟨rfl, by rw [hU], by rw [hU]; exact fun a e q => hI.1 a e (hs a e q), by
    rw [hU]
    exact ⟨hO.2.2.2 A _ U H (ur_sub hI hs) (hO.2.1 A s U H hW.alike (hO.2.2.1 A s s.heap H hI.2.2.1.2.1 hO.1)), hO.2⟩, hK.warm hW⟩
theorem ur_back {D : va_G} {cl : List vw_C} {A : Nat → Prop} {H0 H H1 : Heap} {h h1 h1' : ur_M} {locs locs1 : List Loc} {t : State} (hI : ur_I D cl A H0 h H locs) (hs : ∀ (a : Nat) (e : va_E), h1 a = some e → h a = some e) (ht : t.heap = H1) (hE : ur_E D cl h1 H.size h1' t) (hk : ∀ q : Nat, q < H.size → ¬ ur_A h1 H.size q → H1[q]? = H[q]?) (hS : va_S A H0 H1 locs1) : ur_I D cl A H0 (ur_mix h h1 h1') H1 locs1 := by
  obtain ⟨e1, e3⟩ := hE
  rw [ht] at e1
  have key : ∀ (b : Nat) (eb : va_E), ur_mix h h1 h1' b = some eb → (h1' b = some eb) ∨ (h1 b = none ∧ h b = some eb) := by
    intro b eb hb
    unfold ur_mix at hb
    cases q : h1' b with
    | some x => rw [q] at hb; exact Or.inl hb
    | none =>
      rw [q] at hb
      cases q1 : h1 b with
      | some x => rw [q1] at hb; cases hb
      | none => rw [q1] at hb; exact Or.inr ⟨rfl, hb⟩
  refine ⟨fun b eb hb => ?_, fun b eb hb => ?_, hS, hI.2.2.2⟩
  · rcases key b eb hb with q | ⟨q1, q⟩
    · exact e1 b eb q
    · have hlt := ur_lt hI.1 q
      refine (hI.1 b eb q).kept (hk b hlt ?_)
      rintro (⟨x, hx⟩ | hx)
      · rw [q1] at hx; cases hx
      · omega
  · rcases key b eb hb with q | ⟨q1, q⟩
    · exact ur_sub hI hs b (e3 b eb q)
    · exact hI.2.1 b eb q
section URW
variable {p : Program} {l : Launch} {e : Env} {R : Room} {s : State} {m : MethodId} {args : Array Value} {below : List Frame} {meth : Method} {c : Code} {H : Heap} {locs : List Loc} {cells slots : Nat} {Q : State → Prop}
variable {cc : ByteArray} {pc : Nat} {ls : Array Slot} {rest st0 : List Value} {D : va_G} {cl : List vw_C} {A : Nat → Prop} {a : Nat} {tys : List (ClassId × FieldType)} {H0 : Heap} {h h0 h1 : ur_M} {mc ms : Nat} {av : Array Value}
/-- a field is written -/
theorem ur_put (hexec : p.tables.exec = Jvm.exec) (hb : c.code = cc) {own ref C : String} {T : u_T} {N ci index : Nat} {Ts : List Cond} (hts : ∀ w ∈ Ts, w.before args s = true) (hin : ∀ w ∈ u_ws C T N, w ∈ Ts) (ty0 : Nat → FieldType) (hty : ∀ k, k < N → parseFieldDescriptor (T k).2.2.1 = some (ty0 k)) (hnm : ∀ a, a < N → ∀ b, b < N → a ≠ b → (T a).2.1 ≠ (T b).2.1) (hown : s.vm.findClass own = some m.cls) (hK : va_K D cl tys s) (hI : ur_I D cl A H0 h H locs) {fs : List Value} (he : h a = some (.inr (ci, fs))) (hc : cl[ci]? = some (C, T, N)) (k : Nat) (hk : k < N) (hlink : (Cond.fieldLink own index ref (T k).2.1 (T k).2.2.1).before args s = true) (hsame : ∀ x, s.fieldFound? (T k).1 (T k).2.1 (T k).2.2.1 = some x → s.fieldFound? ref (T k).2.1 (T k).2.2.1 = some x) (hfin : (T k).2.2.2 = false) {ty : FieldType} {v : Value} (hd : parseFieldDescriptor (T k).2.2.1 = some ty) (hn : narrow ty v = v) (hfit : fits ty v = true) (hl : k < fs.length)
    (hdg : decode cc pc = .ok (.putfield index, 3)) (kk : ∀ (H1 : Heap) (locs1 : List Loc), ur_I D cl A H0 (va_up h a (some (.inr (ci, fs.set k v)))) H1 locs1 → W p l e R s m args below meth c H1 locs1 cells slots Q (F0 m (pc + 3) ls rest)) : W p l e R s m args below meth c H locs cells slots Q (F0 m pc ls (v :: .ref a :: rest)) := by
  have hap := va_apart (own := own) hts hin ty0 hty hnm hK hc
  obtain ⟨r, g1, cell, q1, q2, q3, q4⟩ := hI.1 _ _ he
  have hr : r = (C, T, N) := Option.some.inj (g1.symm.trans hc)
  subst hr
  obtain ⟨hS, hfc, kC, hkC, hkind⟩ := hK.1 ci _ hc
  obtain ⟨cf, kf, fi, f, hi, hsl⟩ := hS k hk
  have hlay := hts _ (hin _ (u_in_lay hk))
  unfold u_lay at hlay
  rw [if_neg (by rw [hfin]; decide)] at hlay
  have hst := (u_facts hfc hkC (u_lays hts hin hk) hi).1
  have h6 := u_store hfc hkC hkind hlay hi hd hn hfit
  refine W.putK hexec hb (f := f) ⟨hown, hlink, ⟨_, _, _, hsame _ hi⟩, hst⟩ (by rw [q2]; exact h6) q1 q3 (by rw [hsl]; exact k2_hasslot (q4 k hk)) rfl rfl hdg fun H' e1 e2 e3 => ?_
  rw [hsl] at e1 ⊢
  exact kk H' _ (hI.put he e2 e3 ⟨_, hc, t_OB.to (V := updV (vp_V fs) k v) ⟨_, e1, q2, q3, t_set q4 hap hk v⟩ (fun j _ => vp_updV_set hl v j)⟩)
/-- a final field is written, in a constructor -/
theorem ur_putF (hexec : p.tables.exec = Jvm.exec) (hb : c.code = cc) {own ref C : String} {T : u_T} {N ci index : Nat} {Ts : List Cond} (hts : ∀ w ∈ Ts, w.before args s = true) (hin : ∀ w ∈ u_ws C T N, w ∈ Ts) (ty0 : Nat → FieldType) (hty : ∀ k, k < N → parseFieldDescriptor (T k).2.2.1 = some (ty0 k)) (hnm : ∀ a, a < N → ∀ b, b < N → a ≠ b → (T a).2.1 ≠ (T b).2.1) (hown : s.vm.findClass own = some m.cls) (hK : va_K D cl tys s) (hI : ur_I D cl A H0 h H locs) {fs : List Value} (he : h a = some (.inr (ci, fs))) (hc : cl[ci]? = some (C, T, N)) (k : Nat) (hk : k < N) (hlink : (Cond.fieldLink own index ref (T k).2.1 (T k).2.2.1).before args s = true) (hsame : ∀ x, s.fieldFound? (T k).1 (T k).2.1 (T k).2.2.1 = some x → s.fieldFound? ref (T k).2.1 (T k).2.2.1 = some x) (hfin : (T k).2.2.2 = true) (hin2 : meth.name = "<init>") (hdecl : (T k).1 = own) {ty : FieldType} {v : Value} (hd : parseFieldDescriptor (T k).2.2.1 = some ty) (hn : narrow ty v = v) (hfit : fits ty v = true) (hl : k < fs.length)
    (hdg : decode cc pc = .ok (.putfield index, 3)) (kk : ∀ (H1 : Heap) (locs1 : List Loc), ur_I D cl A H0 (va_up h a (some (.inr (ci, fs.set k v)))) H1 locs1 → W p l e R s m args below meth c H1 locs1 cells slots Q (F0 m (pc + 3) ls rest)) : W p l e R s m args below meth c H locs cells slots Q (F0 m pc ls (v :: .ref a :: rest)) := by
  have hap := va_apart (own := own) hts hin ty0 hty hnm hK hc
  obtain ⟨r, g1, cell, q1, q2, q3, q4⟩ := hI.1 _ _ he
  have hr : r = (C, T, N) := Option.some.inj (g1.symm.trans hc)
  subst hr
  obtain ⟨hS, hfc, kC, hkC, hkind⟩ := hK.1 ci _ hc
  obtain ⟨cf, kf, fi, f, hi, hsl⟩ := hS k hk
  have hlay := hts _ (hin _ (u_in_lay hk))
  unfold u_lay at hlay
  rw [if_pos hfin] at hlay
  have hst := (u_facts hfc hkC (u_lays hts hin hk) hi).1
  have hcf : m.cls = cf := by
    obtain ⟨_, _, c', _, _, _, -, -, hf', -, -, -, hown2, -⟩ := Cond.laysFinal_spec hlay
    have e1 : c' = cf := by have := hi.symm.trans hf'; simp at this; exact this.1.symm
    rw [hdecl] at hown2
    rw [← e1]; exact Option.some.inj (hown.symm.trans hown2)
  have h6 := u_fits hfc hkC hkind (Or.inr hlay) hi hd hn hfit
  refine W.putFinK hexec hb hown hlink (hsame _ hi) hst hcf hin2 (by rw [q2]; exact h6) q1 q3 (by rw [hsl]; exact k2_hasslot (q4 k hk)) rfl rfl hdg fun H' e1 e2 e3 => ?_
  rw [hsl] at e1 ⊢
  exact kk H' _ (hI.put he e2 e3 ⟨_, hc, t_OB.to (V := updV (vp_V fs) k v) ⟨_, e1, q2, q3, t_set q4 hap hk v⟩ (fun j _ => vp_updV_set hl v j)⟩)
theorem ur_iast (hexec : p.tables.exec = Jvm.exec) (hb : c.code = cc) (hK : va_K D cl tys s) (hI : ur_I D cl A H0 h H locs) (t0 : Nat) {cA : ClassId} {n : Nat} {f : Nat → Int32} (ha : h a = some (.inl (cA, n, .inl f))) (ht : tys[t0]? = some (cA, .int)) {i : Int32} {x : Int32} (hin : vp_in i n) (hdg : decode cc pc = .ok (.iastore, 1))
    (kk : ∀ (H1 : Heap) (locs1 : List Loc), ur_I D cl A H0 (va_up h a (some (.inl (cA, n, .inl (upd f i.toNatClampNeg x))))) H1 locs1 → W p l e R s m args below meth c H1 locs1 cells slots Q (F0 m (pc + 1) ls rest)) : W p l e R s m args below meth c H locs cells slots Q (F0 m pc ls (.int x :: .int i :: .ref a :: rest)) := by
  refine W.iast hexec hb (hI.1 _ _ ha) ((hK.2 t0 _ ht).1 n (fun j => .int (f j))) (fun q => by cases q) (by show ¬ (i < 0 ∨ (arrV _ _ _).slots.size ≤ _); rw [arrV_size]; exact hin) rfl rfl hdg fun H1 e z oq => ?_
  refine kk H1 _ (hI.put ha z oq ?_)
  show H1[a]? = some (vp_cell _ _)
  rw [e, vp_cell_i, vp_cell_i, arrV_store]
  congr 2
  funext q
  by_cases hq : q = i.toNatClampNeg
  · subst hq
    simp [updV, upd]
  · simp [updV, upd, hq]
theorem ur_bast (hexec : p.tables.exec = Jvm.exec) (hb : c.code = cc) (hK : va_K D cl tys s) (hI : ur_I D cl A H0 h H locs) (t0 : Nat) {cA : ClassId} {n : Nat} {f : Nat → Int32} (ha : h a = some (.inl (cA, n, .inl f))) (ht : tys[t0]? = some (cA, .byte)) {i : Int32} {x : Int32} (hin : vp_in i n) (hdg : decode cc pc = .ok (.bastore, 1))
    (kk : ∀ (H1 : Heap) (locs1 : List Loc), ur_I D cl A H0 (va_up h a (some (.inl (cA, n, .inl (upd f i.toNatClampNeg (vp_nar .byte x)))))) H1 locs1 → W p l e R s m args below meth c H1 locs1 cells slots Q (F0 m (pc + 1) ls rest)) : W p l e R s m args below meth c H locs cells slots Q (F0 m pc ls (.int x :: .int i :: .ref a :: rest)) := by
  refine W.bast hexec hb (hI.1 _ _ ha) ((hK.2 t0 _ ht).1 n (fun j => .int (f j))) (fun q => by cases q) (by show ¬ (i < 0 ∨ (arrV _ _ _).slots.size ≤ _); rw [arrV_size]; exact hin) rfl rfl hdg fun H1 e z oq => ?_
  refine kk H1 _ (hI.put ha z oq ?_)
  show H1[a]? = some (vp_cell _ _)
  rw [e, vp_cell_i, vp_cell_i, arrV_store]
  congr 2
  funext q
  by_cases hq : q = i.toNatClampNeg
  · subst hq
    simp [updV, upd, vp_nar]
    try rfl
  · simp [updV, upd, hq]
theorem ur_last (hexec : p.tables.exec = Jvm.exec) (hb : c.code = cc) (hK : va_K D cl tys s) (hI : ur_I D cl A H0 h H locs) (t0 : Nat) {cA : ClassId} {n : Nat} {f : Nat → Int64} (ha : h a = some (.inl (cA, n, .inr (.inl f)))) (ht : tys[t0]? = some (cA, .long)) {i : Int32} {x : Int64} (hin : vp_in i n) (hdg : decode cc pc = .ok (.lastore, 1))
    (kk : ∀ (H1 : Heap) (locs1 : List Loc), ur_I D cl A H0 (va_up h a (some (.inl (cA, n, .inr (.inl (vp_updL f i.toNatClampNeg x)))))) H1 locs1 → W p l e R s m args below meth c H1 locs1 cells slots Q (F0 m (pc + 1) ls rest)) : W p l e R s m args below meth c H locs cells slots Q (F0 m pc ls (.long x :: .int i :: .ref a :: rest)) := by
  refine W.last hexec hb (hI.1 _ _ ha) ((hK.2 t0 _ ht).1 n (fun j => .long (f j))) (fun q => by cases q) (by show ¬ (i < 0 ∨ (arrV _ _ _).slots.size ≤ _); rw [arrV_size]; exact hin) rfl rfl hdg fun H1 e z oq => ?_
  refine kk H1 _ (hI.put ha z oq ?_)
  show H1[a]? = some (vp_cell _ _)
  rw [e, vp_cell_l, vp_cell_l, arrV_store]
  congr 2
  funext q
  by_cases hq : q = i.toNatClampNeg
  · subst hq
    simp [updV, vp_updL]
  · simp [updV, vp_updL, hq]
/-- an object's address is laid into an array of references -/
theorem ur_astq (hexec : p.tables.exec = Jvm.exec) (hb : c.code = cc) (hK : va_K D cl tys s) (hI : ur_I D cl A H0 h H locs) (t0 ci : Nat) {E : String} {cA : ClassId} {r : vw_C} {n v : Nat} {vs : List Value} {f : Nat → Option Nat} (ha : h a = some (.inl (cA, n, .inr (.inr (.inr (.inr f)))))) (ht : tys[t0]? = some (cA, .object E)) (hca : ∀ comp c0 : ClassId, s.vm.findClass E = some comp → s.vm.findClass r.1 = some c0 → s.vm.assignable c0 comp = true) (hkE : ∀ comp : ClassId, s.vm.findClass E = some comp → ∃ kc : Class, s.vm.classes[comp]? = some kc) (hv : h v = some (.inr (ci, vs))) (hc : cl[ci]? = some r) {i : Int32} (hin : vp_in i n) (hdg : decode cc pc = .ok (.aastore, 1))
    (kk : ∀ (H1 : Heap) (locs1 : List Loc), ur_I D cl A H0 (va_up h a (some (.inl (cA, n, .inr (.inr (.inr (.inr (va_up f i.toNatClampNeg (some v))))))))) H1 locs1 → W p l e R s m args below meth c H1 locs1 cells slots Q (F0 m (pc + 1) ls rest)) : W p l e R s m args below meth c H locs cells slots Q (F0 m pc ls (.ref v :: .int i :: .ref a :: rest)) := by
  have hlt : i.toNatClampNeg < n := Nat.not_le.mp fun q => hin (Or.inr q)
  have g0 : ¬ i < 0 := fun q => hin (Or.inl q)
  obtain ⟨r', hr', cellV, g1, g2, g3, -⟩ := hI.1 _ _ hv
  have hcls := (hK.1 ci r hc).2
  obtain ⟨kA, comp, k1, k2, k3, -⟩ := (hK.2 t0 _ ht).2
  obtain ⟨kC, hkC, -⟩ := hcls.2
  obtain ⟨kE, hkE'⟩ := hkE comp k3
  refine W.aast hexec hb (hI.1 _ _ ha) (fun q h => by cases h) (fun h => by cases h) k1 k2 rfl hkE' ⟨g0, by show _ < (arrV _ _ _).slots.size; rw [arrV_size]; exact hlt⟩ g1 (fun q h => by rw [g3] at h; cases h) (by rw [g2]; exact hkC) (by rw [g2]; exact hca comp _ k3 hcls.1) rfl rfl hdg fun H1 e z oq => ?_
  refine kk H1 _ (hI.put ha z oq ?_)
  show H1[a]? = some (vp_cell _ _)
  rw [e, vp_cell_q, vp_cell_q, arrV_store]
  congr 2
  funext q
  by_cases hq : q = i.toNatClampNeg
  · subst hq
    simp [updV, va_up, va_rf]
  · simp [updV, va_up, hq]
/-- a row (an array of numbers) is laid into an array of arrays -/
theorem ur_astA (hexec : p.tables.exec = Jvm.exec) (hb : c.code = cc) (hI : ur_I D cl A H0 h H locs) {cA cR : ClassId} {t : FieldType} {n n' v : Nat} {f' : Nat → Int32} {f : Nat → Option Nat} (ha : h a = some (.inl (cA, n, .inr (.inr (.inr (.inr f)))))) (haa : ∃ kA : Class, s.vm.classes[cA]? = some kA ∧ kA.kind = .array cR (.array t)) (hkR : ∃ kR : Class, s.vm.classes[cR]? = some kR) (hv : h v = some (.inl (cR, n', .inl f'))) {i : Int32} (hin : vp_in i n) (hdg : decode cc pc = .ok (.aastore, 1))
    (kk : ∀ (H1 : Heap) (locs1 : List Loc), ur_I D cl A H0 (va_up h a (some (.inl (cA, n, .inr (.inr (.inr (.inr (va_up f i.toNatClampNeg (some v))))))))) H1 locs1 → W p l e R s m args below meth c H1 locs1 cells slots Q (F0 m (pc + 1) ls rest)) : W p l e R s m args below meth c H locs cells slots Q (F0 m pc ls (.ref v :: .int i :: .ref a :: rest)) := by
  have hlt : i.toNatClampNeg < n := Nat.not_le.mp fun q => hin (Or.inr q)
  have g0 : ¬ i < 0 := fun q => hin (Or.inl q)
  obtain ⟨kA, k1, k2⟩ := haa
  obtain ⟨kR, k3⟩ := hkR
  refine W.aast hexec hb (hI.1 _ _ ha) (fun q h => by cases h) (fun h => by cases h) k1 k2 rfl k3 ⟨g0, by show _ < (arrV _ _ _).slots.size; rw [arrV_size]; exact hlt⟩ (hI.1 _ _ hv) (fun q h => by cases h) k3 (va_asg _ _) rfl rfl hdg fun H1 e z oq => ?_
  refine kk H1 _ (hI.put ha z oq ?_)
  show H1[a]? = some (vp_cell _ _)
  rw [e, vp_cell_q, vp_cell_q, arrV_store]
  congr 2
  funext q
  by_cases hq : q = i.toNatClampNeg
  · subst hq
    simp [updV, va_up, va_rf]
  · simp [updV, va_up, hq]
/-- a new array of numbers -/
theorem ur_newa (hexec : p.tables.exec = Jvm.exec) (hb : c.code = cc) {atype : ArrayType} (harr : (Cond.arrayClass (newarray.typeOf atype)).before args s = true) {ty : FieldType} (hty : newarray.typeOf atype = ty) (t0 : Nat) {cA : ClassId} (hK : va_K D cl tys s) (ht : tys[t0]? = some (cA, ty)) (hpr : refKind ty = false) (hI : ur_I D cl A H0 h H locs)
    {n : Int32} {N' : Nat} {a0 : vp_A} (ha : ∀ cA : ClassId, vp_cell cA a0 = arrV cA N' (fun _ => defaultValue ty)) (hn : ¬ n < 0) (hN : n.toNatClampNeg = N') (hbytes : N' * componentBytes ty ≤ 536870912) (hcells : cells + 1 ≤ R.cells) (hslots : slots + N' ≤ R.slots) (hdg : decode cc pc = .ok (.newarray atype, 2))
    (kk : ∀ (q : Nat) (H1 : Heap), h q = none → ur_I D cl A H0 (va_up h q (some (.inl (cA, a0)))) H1 locs →
      W p l e R s m args below meth c H1 locs (cells + 1) (slots + N') Q (F0 m (pc + 2) ls (.ref q :: rest))) : W p l e R s m args below meth c H locs cells slots Q (F0 m pc ls (.int n :: rest)) := by
  subst hty
  refine va_newaK hexec hb harr rfl hdg rfl hn hN hbytes hcells hslots rfl fun H1 cB e1 z1 o1 hAr hNm => ?_
  have hcl := (hK.2 t0 _ ht).2
  have hB : s.vm.findClass ("[" ++ (newarray.typeOf atype).toString) = some cA := by cases atype <;> exact hcl
  have hcc : cB = cA := Option.some.inj (hNm.symm.trans hB)
  subst hcc
  refine kk H.size H1 (ur_none hI.1 (Nat.le_refl _)) (hI.new z1 o1 ?_)
  show H1[H.size]? = some (vp_cell _ _)
  rw [ha]
  exact e1
/-- a new object -/
theorem ur_new {c0 : Code} (hexec : p.tables.exec = Jvm.exec) (hb : c0.code = cc) {own C : String} {T : u_T} {N ci index : Nat} {Ts : List Cond} (hts : ∀ w ∈ Ts, w.before args s = true) (hin : ∀ w ∈ u_ws C T N, w ∈ Ts) (ty : Nat → FieldType) (hty : ∀ k, k < N → parseFieldDescriptor (T k).2.2.1 = some (ty k)) (hown : s.vm.findClass own = some m.cls) (hcl : (Cond.classLink own index C).before args s = true) (hinst : (Cond.instantiable C N).before args s = true) (hini : (Cond.initialized C).before args s = true)
    (hK : va_K D cl tys s) (hI : ur_I D cl A H0 h H locs) (hc : cl[ci]? = some (C, T, N)) {fs : List Value} (hfs : ∀ j, j < N → defaultValue (ty j) = vp_V fs j) (hcells : cells + 1 ≤ R.cells) (hslots : slots + N ≤ R.slots) (hdg : decode cc pc = .ok (.new index, 3))
    (kk : ∀ (q : Nat) (H1 : Heap), h q = none → ur_I D cl A H0 (va_up h q (some (.inr (ci, fs)))) H1 locs →
      W p l e R s m args below meth c0 H1 locs (cells + 1) (slots + N) Q (F0 m (pc + 3) ls (.ref q :: rest))) : W p l e R s m args below meth c0 H locs cells slots Q (F0 m pc ls rest) := by
  have hKn := hK.1 ci _ hc
  refine W.newcK hexec hb hown hcl hinst hini rfl hdg hcells hslots hKn.2.1 rfl fun H1 kC hkC e1 z1 o1 => ?_
  exact kk H.size H1 (ur_none hI.1 (Nat.le_refl _)) (hI.new z1 o1 ⟨_, hc, (u_born ty hts hin hKn hkC e1 hty).to hfs⟩)
/-- a new array of references to objects -/
theorem ur_newq (hexec : p.tables.exec = Jvm.exec) (hb : c.code = cc) {own C : String} {index : Nat} (hown : s.vm.findClass own = some m.cls) (hclink : (Cond.classLink own index C).before args s = true) (hover : va_AO C s) (t0 : Nat) {cA : ClassId} (hK : va_K D cl tys s) (ht : tys[t0]? = some (cA, .object C)) (hI : ur_I D cl A H0 h H locs)
    {n : Int32} {N' : Nat} (hn : ¬ n < 0) (hN : n.toNatClampNeg = N') (hbytes : N' * 4 ≤ 536870912) (hcells : cells + 1 ≤ R.cells) (hslots : slots + N' ≤ R.slots) (hdg : decode cc pc = .ok (.anewarray index, 3))
    (kk : ∀ (q : Nat) (H1 : Heap), h q = none → ur_I D cl A H0 (va_up h q (some (.inl (cA, N', .inr (.inr (.inr (.inr (fun _ => none)))))))) H1 locs →
      W p l e R s m args below meth c H1 locs (cells + 1) (slots + N') Q (F0 m (pc + 3) ls (.ref q :: rest))) : W p l e R s m args below meth c H locs cells slots Q (F0 m pc ls (.int n :: rest)) := by
  subst hN
  refine W.anew hexec hb hown hclink (va_AO.use hover) rfl hdg rfl hn hbytes hcells hslots fun cB kA comp f1 f2 f3 f4 => ?_
  obtain ⟨_, _, -, -, -, hB⟩ := (hK.2 t0 _ ht).2
  have hcc : cB = cA := Option.some.inj (f1.symm.trans hB)
  subst hcc
  generalize hH1 : H.push ({ cls := cB, slots := Array.replicate n.toNatClampNeg .null, vm := .none } : Cell) = H1
  have z1 : H1.size = H.size + 1 := by rw [← hH1, Array.size_push]
  have e1 : H1[H.size]? = some (arrV cB n.toNatClampNeg (fun _ => .null)) := by rw [← hH1, Array.getElem?_push_size, ← arrV_new]
  have o1 : ∀ q : Nat, q < H.size → H1[q]? = H[q]? := fun q hq => by rw [← hH1, Array.getElem?_push, if_neg (Nat.ne_of_lt hq)]
  refine kk H.size H1 (ur_none hI.1 (Nat.le_refl _)) (hI.new z1 o1 ?_)
  show H1[H.size]? = some (vp_cell _ _)
  rw [vp_cell_q]
  exact e1
/-- a new array of arrays of numbers, its rows null -/
theorem ur_newA (hexec : p.tables.exec = Jvm.exec) (hb : c.code = cc) {own : String} {t : FieldType} {index : Nat} (hown : s.vm.findClass own = some m.cls) (hclink : (Cond.classLink own index (FieldType.array t).toString).before args s = true) (hover : (Cond.arrayOver (.array t)).before args s = true) (t0 : Nat) {cA : ClassId} (hK : va_K D cl tys s) (ht : tys[t0]? = some (cA, .array t)) (hI : ur_I D cl A H0 h H locs)
    {n : Int32} {N' : Nat} (hn : ¬ n < 0) (hN : n.toNatClampNeg = N') (hbytes : N' * 4 ≤ 536870912) (hcells : cells + 1 ≤ R.cells) (hslots : slots + N' ≤ R.slots) (hdg : decode cc pc = .ok (.anewarray index, 3))
    (kk : ∀ (q : Nat) (H1 : Heap), h q = none → ur_I D cl A H0 (va_up h q (some (.inl (cA, N', .inr (.inr (.inr (.inr (fun _ => none)))))))) H1 locs →
      W p l e R s m args below meth c H1 locs (cells + 1) (slots + N') Q (F0 m (pc + 3) ls (.ref q :: rest))) : W p l e R s m args below meth c H locs cells slots Q (F0 m pc ls (.int n :: rest)) := by
  subst hN
  refine W.anewA hexec hb hown hclink hover rfl hdg rfl hn hbytes hcells hslots fun cB kA comp f1 f2 f3 f4 => ?_
  have hB : s.vm.findClass ("[" ++ (FieldType.array t).toString) = some cA := (hK.2 t0 _ ht).2
  have hcc : cB = cA := Option.some.inj (f1.symm.trans hB)
  subst hcc
  generalize hH1 : H.push ({ cls := cB, slots := Array.replicate n.toNatClampNeg .null, vm := .none } : Cell) = H1
  have z1 : H1.size = H.size + 1 := by rw [← hH1, Array.size_push]
  have e1 : H1[H.size]? = some (arrV cB n.toNatClampNeg (fun _ => .null)) := by rw [← hH1, Array.getElem?_push_size, ← arrV_new]
  have o1 : ∀ q : Nat, q < H.size → H1[q]? = H[q]? := fun q hq => by rw [← hH1, Array.getElem?_push, if_neg (Nat.ne_of_lt hq)]
  refine kk H.size H1 (ur_none hI.1 (Nat.le_refl _)) (hI.new z1 o1 ?_)
  show H1[H.size]? = some (vp_cell _ _)
  rw [vp_cell_q]
  exact e1
/-- a row of an array of arrays -/
theorem ur_aldA (hexec : p.tables.exec = Jvm.exec) (hb : c.code = cc) (hK : va_K D cl tys s) (hI : ur_I D cl A H0 h H locs) (t0 : Nat) {cA : ClassId} {ty : FieldType} {n : Nat} {f : Nat → Option Nat} (ha : h a = some (.inl (cA, n, .inr (.inr (.inr (.inr f)))))) (ht : tys[t0]? = some (cA, ty)) (hr : ty.isReference = true) {i : Int32} (hin : vp_in i n) (hdg : decode cc pc = .ok (.aaload, 1))
    (kk : W p l e R s m args below meth c H locs cells slots Q (F0 m (pc + 1) ls (va_rf (f i.toNatClampNeg) :: rest))) : W p l e R s m args below meth c H locs cells slots Q (F0 m pc ls (.int i :: .ref a :: rest)) := by
  have hlt : i.toNatClampNeg < n := Nat.not_le.mp fun q => hin (Or.inr q)
  exact W.aald (v := va_rf (f i.toNatClampNeg)) (ty := ty) hexec hb (hI.1 _ _ ha) ((hK.2 t0 _ ht).1 n (fun j => va_rf (f j))) hr (fun q => by cases q) (by show ¬ (i < 0 ∨ (arrV _ _ _).slots.size ≤ _); rw [arrV_size]; exact hin) (by show (arrV _ _ _).slots[_]? = _; rw [arrV_read _ _ hlt]) rfl rfl hdg kk
/-- a call: an int comes back -/
theorem ur_ci {post : Int32 → ur_M → Prop} (hr : va_Run p l e R s m args below meth c H locs cells slots mc ms (F0 m pc ls st0) rest (va_Qi post (ur_E D cl h1 H.size) (ur_A h1 H.size) av) (ur_A h1 H.size)) (hI : ur_I D cl A H0 h H locs) (hs : ∀ (a : Nat) (e : va_E), h1 a = some e → h a = some e)
    (kk : ∀ (r : Int32) (h1' : ur_M) (H1 : Heap) (locs1 : List Loc), post r h1' → (∀ (a : Nat) (e : va_E), h1' a = some e → (∃ e0, h1 a = some e0) ∨ h a = none) → ur_I D cl A H0 (ur_mix h h1 h1') H1 locs1 → W p l e R s m args below meth c H1 locs1 (cells + mc) (slots + ms) Q (F0 m (pc + 3) ls (.int r :: rest))) : W p l e R s m args below meth c H locs cells slots Q (F0 m pc ls st0) :=
  va_calli hr hI.2.2.1 (fun q _ hq => ur_sub hI hs q hq) (fun q hq => ur_sub hI hs q hq) (fun r u t H1 locs1 ht _ hw hB _ hk1 hS => kk r u H1 locs1 hw (fun a e q => Or.imp id (fun z => ur_none hI.1 z) (hB.2 a e q)) (ur_back hI hs ht hB hk1 hS))
theorem ur_cl {post : Int64 → ur_M → Prop} (hr : va_Run p l e R s m args below meth c H locs cells slots mc ms (F0 m pc ls st0) rest (va_Ql post (ur_E D cl h1 H.size) (ur_A h1 H.size) av) (ur_A h1 H.size)) (hI : ur_I D cl A H0 h H locs) (hs : ∀ (a : Nat) (e : va_E), h1 a = some e → h a = some e)
    (kk : ∀ (r : Int64) (h1' : ur_M) (H1 : Heap) (locs1 : List Loc), post r h1' → (∀ (a : Nat) (e : va_E), h1' a = some e → (∃ e0, h1 a = some e0) ∨ h a = none) → ur_I D cl A H0 (ur_mix h h1 h1') H1 locs1 → W p l e R s m args below meth c H1 locs1 (cells + mc) (slots + ms) Q (F0 m (pc + 3) ls (.long r :: rest))) : W p l e R s m args below meth c H locs cells slots Q (F0 m pc ls st0) :=
  va_calll hr hI.2.2.1 (fun q _ hq => ur_sub hI hs q hq) (fun q hq => ur_sub hI hs q hq) (fun r u t H1 locs1 ht _ hw hB _ hk1 hS => kk r u H1 locs1 hw (fun a e q => Or.imp id (fun z => ur_none hI.1 z) (hB.2 a e q)) (ur_back hI hs ht hB hk1 hS))
theorem ur_cv {post : ur_M → Prop} (hr : va_Run p l e R s m args below meth c H locs cells slots mc ms (F0 m pc ls st0) rest (va_Qv post (ur_E D cl h1 H.size) (ur_A h1 H.size) av) (ur_A h1 H.size)) (hI : ur_I D cl A H0 h H locs) (hs : ∀ (a : Nat) (e : va_E), h1 a = some e → h a = some e)
    (kk : ∀ (h1' : ur_M) (H1 : Heap) (locs1 : List Loc), post h1' → (∀ (a : Nat) (e : va_E), h1' a = some e → (∃ e0, h1 a = some e0) ∨ h a = none) → ur_I D cl A H0 (ur_mix h h1 h1') H1 locs1 → W p l e R s m args below meth c H1 locs1 (cells + mc) (slots + ms) Q (F0 m (pc + 3) ls rest)) : W p l e R s m args below meth c H locs cells slots Q (F0 m pc ls st0) :=
  va_callv hr hI.2.2.1 (fun q _ hq => ur_sub hI hs q hq) (fun q hq => ur_sub hI hs q hq) (fun u t H1 locs1 ht _ hw hB _ hk1 hS => kk u H1 locs1 hw (fun a e q => Or.imp id (fun z => ur_none hI.1 z) (hB.2 a e q)) (ur_back hI hs ht hB hk1 hS))
theorem ur_cq {post : Option Nat → ur_M → Prop} (hr : va_Run p l e R s m args below meth c H locs cells slots mc ms (F0 m pc ls st0) rest (va_Qq post (ur_E D cl h1 H.size) (ur_A h1 H.size) av) (ur_A h1 H.size)) (hI : ur_I D cl A H0 h H locs) (hs : ∀ (a : Nat) (e : va_E), h1 a = some e → h a = some e)
    (kk : ∀ (r : Option Nat) (h1' : ur_M) (H1 : Heap) (locs1 : List Loc), post r h1' → (∀ (a : Nat) (e : va_E), h1' a = some e → (∃ e0, h1 a = some e0) ∨ h a = none) → ur_I D cl A H0 (ur_mix h h1 h1') H1 locs1 → W p l e R s m args below meth c H1 locs1 (cells + mc) (slots + ms) Q (F0 m (pc + 3) ls (va_rf r :: rest))) : W p l e R s m args below meth c H locs cells slots Q (F0 m pc ls st0) :=
  va_callq hr hI.2.2.1 (fun q _ hq => ur_sub hI hs q hq) (fun q hq => ur_sub hI hs q hq) (fun r u t H1 locs1 ht _ hw hB _ hk1 hS => kk r u H1 locs1 hw (fun a e q => Or.imp id (fun z => ur_none hI.1 z) (hB.2 a e q)) (ur_back hI hs ht hB hk1 hS))
/-- the ends -/
theorem ur_iret {post : Int32 → ur_M → Prop} {v : Int32} (hexec : p.tables.exec = Jvm.exec) (hb : c.code = cc) (hr : meth.sig.returnType = some .int) (hlocks : meth.locks = false) (hI : ur_I D cl (ur_A h0 s.heap.size) s.heap h H locs) (hp : post v h) (hdg : decode cc pc = .ok (.ireturn, 1)) : W p l e R s m args below meth c H locs cells slots (MQ below (va_Qi post (ur_E D cl h0 s.heap.size) (ur_A h0 s.heap.size)) args s cells slots (ur_A h0 s.heap.size)) (F0 m pc ls [.int v]) :=
  W.iret hexec hb hr (fun t ht _ => ⟨⟨v, h, rfl, hp, (ur_ret hI ht).1⟩, (ur_ret hI ht).2⟩) hI.2.2.1.2.2 hdg hlocks
theorem ur_zret {post : Int32 → ur_M → Prop} {v : Int32} {ty : FieldType} (hexec : p.tables.exec = Jvm.exec) (hb : c.code = cc) (hr : meth.sig.returnType = some ty) (hn : narrow ty (.int v) = .int v) (hlocks : meth.locks = false) (hI : ur_I D cl (ur_A h0 s.heap.size) s.heap h H locs) (hp : post v h) (hdg : decode cc pc = .ok (.ireturn, 1)) : W p l e R s m args below meth c H locs cells slots (MQ below (va_Qi post (ur_E D cl h0 s.heap.size) (ur_A h0 s.heap.size)) args s cells slots (ur_A h0 s.heap.size)) (F0 m pc ls [.int v]) :=
  W.zret hexec hb hr hn (fun t ht _ => ⟨⟨v, h, rfl, hp, (ur_ret hI ht).1⟩, (ur_ret hI ht).2⟩) hI.2.2.1.2.2 hdg hlocks
theorem ur_lret {post : Int64 → ur_M → Prop} {v : Int64} (hexec : p.tables.exec = Jvm.exec) (hb : c.code = cc) (hr : meth.sig.returnType = some .long) (hlocks : meth.locks = false) (hI : ur_I D cl (ur_A h0 s.heap.size) s.heap h H locs) (hp : post v h) (hdg : decode cc pc = .ok (.lreturn, 1)) : W p l e R s m args below meth c H locs cells slots (MQ below (va_Ql post (ur_E D cl h0 s.heap.size) (ur_A h0 s.heap.size)) args s cells slots (ur_A h0 s.heap.size)) (F0 m pc ls [.long v]) :=
  W.lret hexec hb hr (fun t ht _ => ⟨⟨v, h, rfl, hp, (ur_ret hI ht).1⟩, (ur_ret hI ht).2⟩) hI.2.2.1.2.2 hdg hlocks
theorem ur_vret {post : ur_M → Prop} (hexec : p.tables.exec = Jvm.exec) (hb : c.code = cc) (hr : meth.sig.returnType = none) (hlocks : meth.locks = false) (hI : ur_I D cl (ur_A h0 s.heap.size) s.heap h H locs) (hp : post h) (hdg : decode cc pc = .ok (.return_, 1)) : W p l e R s m args below meth c H locs cells slots (MQ below (va_Qv post (ur_E D cl h0 s.heap.size) (ur_A h0 s.heap.size)) args s cells slots (ur_A h0 s.heap.size)) (F0 m pc ls []) :=
  W.vret hexec hb hr (fun t ht _ => ⟨⟨h, rfl, hp, (ur_ret hI ht).1⟩, (ur_ret hI ht).2⟩) hI.2.2.1.2.2 hdg hlocks
theorem ur_qret {post : Option Nat → ur_M → Prop} {v : Option Nat} {rt : FieldType} (hexec : p.tables.exec = Jvm.exec) (hb : c.code = cc) (hr : meth.sig.returnType = some rt) (hrt : (∃ n, rt = .object n) ∨ ∃ t, rt = .array t) (hlocks : meth.locks = false) (hI : ur_I D cl (ur_A h0 s.heap.size) s.heap h H locs) (hp : post v h) (hdg : decode cc pc = .ok (.areturn, 1)) : W p l e R s m args below meth c H locs cells slots (MQ below (va_Qq post (ur_E D cl h0 s.heap.size) (ur_A h0 s.heap.size)) args s cells slots (ur_A h0 s.heap.size)) (F0 m pc ls [va_rf v]) :=
  W.aret hexec hb hr hrt (va_rf_or v) (fun t ht _ => ⟨⟨v, h, rfl, hp, (ur_ret hI ht).1⟩, (ur_ret hI ht).2⟩) hI.2.2.1.2.2 hdg hlocks
end URW
/-- contracts over the heap as a function: an int, a long, a reference or nothing comes back -/
def ur_Mi (l : Launch) (y : MethodName) (ws : List Cond) (rm : Room) (D : va_G) (cl : List vw_C) (V : ur_V) (av : List Value) (h : ur_M) (post : Int32 → ur_M → Prop) (mc ms : Nat) : Prop := ∀ sz : Nat, Met l y ws rm (va_Pc av (ur_B D cl V h sz)) (va_Qi post (ur_E D cl h sz) (ur_A h sz)) mc ms (ur_A h sz)
def ur_Ml (l : Launch) (y : MethodName) (ws : List Cond) (rm : Room) (D : va_G) (cl : List vw_C) (V : ur_V) (av : List Value) (h : ur_M) (post : Int64 → ur_M → Prop) (mc ms : Nat) : Prop := ∀ sz : Nat, Met l y ws rm (va_Pc av (ur_B D cl V h sz)) (va_Ql post (ur_E D cl h sz) (ur_A h sz)) mc ms (ur_A h sz)
def ur_Mq (l : Launch) (y : MethodName) (ws : List Cond) (rm : Room) (D : va_G) (cl : List vw_C) (V : ur_V) (av : List Value) (h : ur_M) (post : Option Nat → ur_M → Prop) (mc ms : Nat) : Prop := ∀ sz : Nat, Met l y ws rm (va_Pc av (ur_B D cl V h sz)) (va_Qq post (ur_E D cl h sz) (ur_A h sz)) mc ms (ur_A h sz)
def ur_Mv (l : Launch) (y : MethodName) (ws : List Cond) (rm : Room) (D : va_G) (cl : List vw_C) (V : ur_V) (av : List Value) (h : ur_M) (post : ur_M → Prop) (mc ms : Nat) : Prop := ∀ sz : Nat, Met l y ws rm (va_Pc av (ur_B D cl V h sz)) (va_Qv post (ur_E D cl h sz) (ur_A h sz)) mc ms (ur_A h sz)
section URC
variable {p : Program} {l : Launch} {e : Env} {R : Room} {s : State} {m : MethodId} {args : Array Value} {below : List Frame} {meth : Method} {c : Code} {H : Heap} {locs : List Loc} {cells slots : Nat} {Q : State → Prop}
variable {cc : ByteArray} {pc : Nat} {ls : Array Slot} {rest : List Value} {D : va_G} {cl : List vw_C} {A : Nat → Prop} {a : Nat} {tys : List (ClassId × FieldType)} {H0 : Heap} {h : ur_M}
theorem ur_nn (z : Int32) (hz : ¬ z < 0) : z.toInt = (z.toNatClampNeg : Int) := by
  have hz0 : (0 : Int) ≤ z.toInt := by
    have := Int32.not_lt.mp hz
    simpa using Int32.le_iff_toInt_le.mp this
  show z.toInt = ((z.toInt.toNat : Nat) : Int)
  omega
/-- System.arraycopy between two int arrays that are known -/
theorem ur_copyi (hexec : p.tables.exec = Jvm.exec) (hb : c.code = cc) (hml : c.maxLocals = ls.size) {own : String} {index : Nat} (hown : s.vm.findClass own = some m.cls) (hlink : (Cond.methodLink own index arraycopyName).before args s = true) (hnat : (Cond.native arraycopyName).before args s = true) (hstat : (Cond.static arraycopyName).before args s = true) (hini : (Cond.initialized "java/lang/System").before args s = true)
    (hK : va_K D cl tys s) (hI : ur_I D cl A H0 h H locs) (t0 : Nat) {a0 : Nat} {c0 : ClassId} {n0 n1 : Nat} {f g : Nat → Int32} (ha0 : h a0 = some (.inl (c0, n0, .inl f))) (ha1 : h a = some (.inl (c0, n1, .inl g))) (ht0 : tys[t0]? = some (c0, .int))
    {sp dp n : Int32} (h1 : ¬ sp < 0) (h2 : ¬ dp < 0) (h3 : ¬ n < 0) (h4 : sp.toNatClampNeg + n.toNatClampNeg ≤ n0) (h5 : dp.toNatClampNeg + n.toNatClampNeg ≤ n1)
    (hframes : 1 ≤ R.frames) (hlocals : (rest.map fun v => v.category).sum + (nativeFrameWords "java/lang/System" "arraycopy" 5 + 11) ≤ R.locals) (hdg : decode cc pc = .ok (.invokestatic index, 3))
    (kk : ∀ (H1 : Heap) (locs1 : List Loc), ur_I D cl A H0 (va_up h a (some (.inl (c0, n1, .inl (va_cpy f g sp.toNatClampNeg dp.toNatClampNeg n.toNatClampNeg))))) H1 locs1 → W p l e R s m args below meth c H1 locs1 cells slots Q (F0 m (pc + 3) ls rest)) : W p l e R s m args below meth c H locs cells slots Q (F0 m pc ls (.int n :: .int dp :: .ref a :: .int sp :: .ref a0 :: rest)) := by
  intro T hT X
  have hc0 : H[a0]? = some (vp_cell c0 (n0, .inl f)) := hI.1 _ _ ha0
  have hc1 : H[a]? = some (vp_cell c0 (n1, .inl g)) := hI.1 _ _ ha1
  obtain ⟨-, k0, hk0, cm0, hkk0⟩ := (hK.2 t0 _ ht0).1 n0 (fun j => .int (f j))
  obtain ⟨-, k1, hk1, cm1, hkk1⟩ := (hK.2 t0 _ ht0).1 n1 (fun j => .int (g j))
  obtain ⟨vm', X', step⟩ := X.arraycopy hexec hown hlink hnat hstat hini (src := a0) (dst := a) (cs := vp_cell c0 (n0, .inl f)) (cd := vp_cell c0 (n1, .inl g)) (srcPos := sp) (destPos := dp) (n := n) (by rw [hT]; exact hc0) (by rw [hT]; exact hc1)
    (fun _ h => by cases h) (fun _ h => by cases h) (fun h => by cases h) (fun h => by cases h) hk0 hk1 hkk0 hkk1 (by simp [refKind]) h1 h2 h3
    (by rw [ur_nn sp h1, ur_nn n h3]; show ¬ _ > ((arrV c0 n0 (fun j => .int (f j))).slots.size : Int); rw [arrV_size]; omega)
    (by rw [ur_nn dp h2, ur_nn n h3]; show ¬ _ > ((arrV c0 n1 (fun j => .int (g j))).slots.size : Int); rw [arrV_size]; omega)
    (fun vm₁ _ i hi => by
      have e : (vp_cell c0 (n0, .inl f)).slots.getD (sp.toNatClampNeg + i) .null = .int (f (sp.toNatClampNeg + i)) := by
        show (arrV c0 n0 (fun j => .int (f j))).slots.getD _ _ = _
        rw [Array.getD_eq_getD_getElem?, arrV_read _ _ (by omega)]
        rfl
      refine ⟨?_, ?_⟩
      · rw [e]
        rfl
      · rw [e]
        exact trivial)
    (g := F0 m pc ls (.int n :: .int dp :: .ref a :: .int sp :: .ref a0 :: rest)) rfl (by rw [hml]) (rest := rest) rfl (by rw [hb]; exact hdg) hframes (by show 2 * 0 + _ + _ ≤ _; omega)
  have e1 : copied (vp_cell c0 (n0, .inl f)) (vp_cell c0 (n1, .inl g)) sp dp n = vp_cell c0 (n1, .inl (va_cpy f g sp.toNatClampNeg dp.toNatClampNeg n.toNatClampNeg)) := va_copied (fun z => .int z) c0 c0 f g h4
  rw [e1] at X' step
  generalize va_cpy f g sp.toNatClampNeg dp.toNatClampNeg n.toNatClampNeg = f2 at X' step kk
  have hl : a < H.size := (Array.getElem?_eq_some_iff.mp hc1).1
  have hheap : ((T.setVm vm').setCell a (vp_cell c0 (n1, .inl f2))).heap = H.setIfInBounds a (vp_cell c0 (n1, .inl f2)) := by rw [← hT]; rfl
  have oq : ∀ q : Nat, q ≠ a → (H.setIfInBounds a (vp_cell c0 (n1, .inl f2)))[q]? = H[q]? := fun q hq => by simp [Array.getElem?_setIfInBounds, Ne.symm hq]
  have hz : (H.setIfInBounds a (vp_cell c0 (n1, .inl f2))).size = H.size := by simp
  have I1 := hI.put (k := 0) ha1 hz oq (e := .inl (c0, n1, .inl f2)) (show (H.setIfInBounds a _)[a]? = some _ by simp [Array.getElem?_setIfInBounds, hl])
  obtain ⟨t, a1, b1⟩ := kk _ _ ⟨I1.1, I1.2.1, ⟨I1.2.2.1.1, I1.2.2.1.2.1, fun q hq => by
      rcases List.mem_append.mp hq with h | h
      · exact hI.2.2.1.2.2 q h
      · obtain ⟨z, -, hz⟩ := List.mem_map.mp h
        rw [← hz]
        exact hI.2.1 _ _ ha1⟩, hI.2.2.2⟩ _ hheap X'
  exact ⟨t, step t a1, b1⟩
end URC
theorem ur_ne {h : ur_M} {a b : Nat} {x y : va_E} (ha : h a = some x) (hb : h b = some y) (n : x ≠ y) : a ≠ b := fun q => n (Option.some.inj (by rw [← ha, q, hb]))
theorem ur_same {h : ur_M} {a : Nat} {e : va_E} (ha : h a = some e) : va_up h a (some e) = h := by
  funext b
  by_cases q : b = a
  · subst q
    rw [va_up_self, ha]
  · rw [va_up_ne _ _ q]
