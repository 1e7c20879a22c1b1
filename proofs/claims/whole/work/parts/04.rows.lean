/-! the whole heap goes to the callee; starts and ends of a contract; references that may be null -/
section URX
variable {p : Program} {l : Launch} {e : Env} {R : Room} {s : State} {m : MethodId} {args : Array Value} {below : List Frame} {meth : Method} {c : Code} {H : Heap} {locs : List Loc} {cells slots : Nat} {Q : State → Prop}
variable {cc : ByteArray} {pc : Nat} {ls : Array Slot} {rest st0 : List Value} {D : va_G} {cl : List vw_C} {A : Nat → Prop} {a : Nat} {H0 : Heap} {h h0 : ur_M} {mc ms : Nat} {av : Array Value}
theorem ur_xi {post : Int32 → ur_M → Prop} (hr : va_Run p l e R s m args below meth c H locs cells slots mc ms (F0 m pc ls st0) rest (va_Qi post (ur_E D cl h H.size) (ur_A h H.size) av) (ur_A h H.size)) (hI : ur_I D cl A H0 h H locs)
    (kk : ∀ (r : Int32) (h' : ur_M) (H1 : Heap) (locs1 : List Loc), post r h' → ur_I D cl A H0 h' H1 locs1 → W p l e R s m args below meth c H1 locs1 (cells + mc) (slots + ms) Q (F0 m (pc + 3) ls (.int r :: rest))) : W p l e R s m args below meth c H locs cells slots Q (F0 m pc ls st0) :=
  ur_ci hr hI (fun _ _ q => q) (fun r h' H1 locs1 hp _ hI1 => kk r h' H1 locs1 hp (by rw [ur_mix_all] at hI1; exact hI1))
theorem ur_xl {post : Int64 → ur_M → Prop} (hr : va_Run p l e R s m args below meth c H locs cells slots mc ms (F0 m pc ls st0) rest (va_Ql post (ur_E D cl h H.size) (ur_A h H.size) av) (ur_A h H.size)) (hI : ur_I D cl A H0 h H locs)
    (kk : ∀ (r : Int64) (h' : ur_M) (H1 : Heap) (locs1 : List Loc), post r h' → ur_I D cl A H0 h' H1 locs1 → W p l e R s m args below meth c H1 locs1 (cells + mc) (slots + ms) Q (F0 m (pc + 3) ls (.long r :: rest))) : W p l e R s m args below meth c H locs cells slots Q (F0 m pc ls st0) :=
  ur_cl hr hI (fun _ _ q => q) (fun r h' H1 locs1 hp _ hI1 => kk r h' H1 locs1 hp (by rw [ur_mix_all] at hI1; exact hI1))
theorem ur_xq {post : Option Nat → ur_M → Prop} (hr : va_Run p l e R s m args below meth c H locs cells slots mc ms (F0 m pc ls st0) rest (va_Qq post (ur_E D cl h H.size) (ur_A h H.size) av) (ur_A h H.size)) (hI : ur_I D cl A H0 h H locs)
    (kk : ∀ (r : Option Nat) (h' : ur_M) (H1 : Heap) (locs1 : List Loc), post r h' → ur_I D cl A H0 h' H1 locs1 → W p l e R s m args below meth c H1 locs1 (cells + mc) (slots + ms) Q (F0 m (pc + 3) ls (va_rf r :: rest))) : W p l e R s m args below meth c H locs cells slots Q (F0 m pc ls st0) :=
  ur_cq hr hI (fun _ _ q => q) (fun r h' H1 locs1 hp _ hI1 => kk r h' H1 locs1 hp (by rw [ur_mix_all] at hI1; exact hI1))
theorem ur_xv {post : ur_M → Prop} (hr : va_Run p l e R s m args below meth c H locs cells slots mc ms (F0 m pc ls st0) rest (va_Qv post (ur_E D cl h H.size) (ur_A h H.size) av) (ur_A h H.size)) (hI : ur_I D cl A H0 h H locs)
    (kk : ∀ (h' : ur_M) (H1 : Heap) (locs1 : List Loc), post h' → ur_I D cl A H0 h' H1 locs1 → W p l e R s m args below meth c H1 locs1 (cells + mc) (slots + ms) Q (F0 m (pc + 3) ls rest)) : W p l e R s m args below meth c H locs cells slots Q (F0 m pc ls st0) :=
  ur_cv hr hI (fun _ _ q => q) (fun h' H1 locs1 hp _ hI1 => kk h' H1 locs1 hp (by rw [ur_mix_all] at hI1; exact hI1))
/-- the ends, with the goal's own name Q -/
theorem ur_ri {post : Int32 → ur_M → Prop} {v : Int32} (hexec : p.tables.exec = Jvm.exec) (hb : c.code = cc) (hr : meth.sig.returnType = some .int) (hlocks : meth.locks = false) (hI : ur_I D cl (ur_A h0 s.heap.size) s.heap h H locs) (hQ : Q = MQ below (va_Qi post (ur_E D cl h0 s.heap.size) (ur_A h0 s.heap.size)) args s cells slots (ur_A h0 s.heap.size)) (hp : post v h) (hdg : decode cc pc = .ok (.ireturn, 1)) : W p l e R s m args below meth c H locs cells slots Q (F0 m pc ls [.int v]) := by
  rw [hQ]; exact ur_iret hexec hb hr hlocks hI hp hdg
theorem ur_rz {post : Int32 → ur_M → Prop} {v : Int32} {ty : FieldType} (hexec : p.tables.exec = Jvm.exec) (hb : c.code = cc) (hr : meth.sig.returnType = some ty) (hlocks : meth.locks = false) (hI : ur_I D cl (ur_A h0 s.heap.size) s.heap h H locs) (hQ : Q = MQ below (va_Qi post (ur_E D cl h0 s.heap.size) (ur_A h0 s.heap.size)) args s cells slots (ur_A h0 s.heap.size)) (hn : narrow ty (.int v) = .int v) (hp : post v h) (hdg : decode cc pc = .ok (.ireturn, 1)) : W p l e R s m args below meth c H locs cells slots Q (F0 m pc ls [.int v]) := by
  rw [hQ]; exact ur_zret hexec hb hr hn hlocks hI hp hdg
theorem ur_rl {post : Int64 → ur_M → Prop} {v : Int64} (hexec : p.tables.exec = Jvm.exec) (hb : c.code = cc) (hr : meth.sig.returnType = some .long) (hlocks : meth.locks = false) (hI : ur_I D cl (ur_A h0 s.heap.size) s.heap h H locs) (hQ : Q = MQ below (va_Ql post (ur_E D cl h0 s.heap.size) (ur_A h0 s.heap.size)) args s cells slots (ur_A h0 s.heap.size)) (hp : post v h) (hdg : decode cc pc = .ok (.lreturn, 1)) : W p l e R s m args below meth c H locs cells slots Q (F0 m pc ls [.long v]) := by
  rw [hQ]; exact ur_lret hexec hb hr hlocks hI hp hdg
theorem ur_rv {post : ur_M → Prop} (hexec : p.tables.exec = Jvm.exec) (hb : c.code = cc) (hr : meth.sig.returnType = none) (hlocks : meth.locks = false) (hI : ur_I D cl (ur_A h0 s.heap.size) s.heap h H locs) (hQ : Q = MQ below (va_Qv post (ur_E D cl h0 s.heap.size) (ur_A h0 s.heap.size)) args s cells slots (ur_A h0 s.heap.size)) (hp : post h) (hdg : decode cc pc = .ok (.return_, 1)) : W p l e R s m args below meth c H locs cells slots Q (F0 m pc ls []) := by
  rw [hQ]; exact ur_vret hexec hb hr hlocks hI hp hdg
theorem ur_rq {post : Option Nat → ur_M → Prop} {v : Option Nat} {rt : FieldType} (hexec : p.tables.exec = Jvm.exec) (hb : c.code = cc) (hr : meth.sig.returnType = some rt) (hlocks : meth.locks = false) (hI : ur_I D cl (ur_A h0 s.heap.size) s.heap h H locs) (hQ : Q = MQ below (va_Qq post (ur_E D cl h0 s.heap.size) (ur_A h0 s.heap.size)) args s cells slots (ur_A h0 s.heap.size)) (hrt : (∃ n, rt = .object n) ∨ ∃ t, rt = .array t) (hp : post v h) (hdg : decode cc pc = .ok (.areturn, 1)) : W p l e R s m args below meth c H locs cells slots Q (F0 m pc ls [va_rf v]) := by
  rw [hQ]; exact ur_qret hexec hb hr hrt hlocks hI hp hdg
/-- a reference that may be null: loads, stores, tests -/
theorem ur_aln (hexec : p.tables.exec = Jvm.exec) (hb : c.code = cc) {k : Fin 4} {i : Nat} {x : Option Nat} (hdg : decode cc pc = .ok (.aload_n k, 1)) (hi : (k : Nat) = i) (hl : ls[i]? = some (.val (va_rf x)))
    (kk : W p l e R s m args below meth c H locs cells slots Q (F0 m (pc + 1) ls (va_rf x :: rest))) : W p l e R s m args below meth c H locs cells slots Q (F0 m pc ls rest) := by
  cases x with
  | none => exact lv_aload_nN hexec hb hdg hi hl kk
  | some x => exact lv_aload_n hexec hb hdg hi hl kk
theorem ur_al (hexec : p.tables.exec = Jvm.exec) (hb : c.code = cc) {i : Nat} {x : Option Nat} (hdg : decode cc pc = .ok (.aload i, 2)) (hl : ls[i]? = some (.val (va_rf x)))
    (kk : W p l e R s m args below meth c H locs cells slots Q (F0 m (pc + 2) ls (va_rf x :: rest))) : W p l e R s m args below meth c H locs cells slots Q (F0 m pc ls rest) := by
  cases x with
  | none => exact lv_aloadN hexec hb hdg hl kk
  | some x => exact lv_aload hexec hb hdg hl kk
theorem ur_asn (hexec : p.tables.exec = Jvm.exec) (hb : c.code = cc) {k : Fin 4} {i nL : Nat} {x : Option Nat} {lv lv' : List (Nat × Value)} (hdg : decode cc pc = .ok (.astore_n k, 1)) (hi : (k : Nat) = i) (h : lv_has ls nL lv) (hn : i < nL) (hl : (i, va_rf x) :: lv.filter (fun q => !(q.1 == i) && !(q.1 + 1 == i && q.2.category == 2)) = lv')
    (kk : ∀ ls' : Array Slot, lv_has ls' nL lv' → W p l e R s m args below meth c H locs cells slots Q (F0 m (pc + 1) ls' rest)) : W p l e R s m args below meth c H locs cells slots Q (F0 m pc ls (va_rf x :: rest)) := by
  cases x with
  | none => exact lv_astore_nN hexec hb hdg hi h hn hl kk
  | some x => exact lv_astore_n hexec hb hdg hi h hn hl kk
theorem ur_as (hexec : p.tables.exec = Jvm.exec) (hb : c.code = cc) {i nL : Nat} {x : Option Nat} {lv lv' : List (Nat × Value)} (hdg : decode cc pc = .ok (.astore i, 2)) (h : lv_has ls nL lv) (hn : i < nL) (hl : (i, va_rf x) :: lv.filter (fun q => !(q.1 == i) && !(q.1 + 1 == i && q.2.category == 2)) = lv')
    (kk : ∀ ls' : Array Slot, lv_has ls' nL lv' → W p l e R s m args below meth c H locs cells slots Q (F0 m (pc + 2) ls' rest)) : W p l e R s m args below meth c H locs cells slots Q (F0 m pc ls (va_rf x :: rest)) := by
  cases x with
  | none => exact lv_astoreN hexec hb hdg h hn hl kk
  | some x => exact lv_astore hexec hb hdg h hn hl kk
theorem ur_ifn (hexec : p.tables.exec = Jvm.exec) (hb : c.code = cc) {off : Int} {tgt : Nat} {x : Option Nat} (hdg : decode cc pc = .ok (.ifnull off, 3)) (ht : (pc : Int) + off = (tgt : Int)) (kn : x = none → W p l e R s m args below meth c H locs cells slots Q (F0 m tgt ls rest)) (ks : ∀ a : Nat, x = some a → W p l e R s m args below meth c H locs cells slots Q (F0 m (pc + 3) ls rest)) : W p l e R s m args below meth c H locs cells slots Q (F0 m pc ls (va_rf x :: rest)) := by
  cases x with
  | none => exact lv_ifnullN hexec hb hdg ht (kn rfl)
  | some x => exact lv_ifnull hexec hb hdg (ks x rfl)
theorem ur_ifnn (hexec : p.tables.exec = Jvm.exec) (hb : c.code = cc) {off : Int} {tgt : Nat} {x : Option Nat} (hdg : decode cc pc = .ok (.ifnonnull off, 3)) (ht : (pc : Int) + off = (tgt : Int)) (ks : ∀ a : Nat, x = some a → W p l e R s m args below meth c H locs cells slots Q (F0 m tgt ls rest)) (kn : x = none → W p l e R s m args below meth c H locs cells slots Q (F0 m (pc + 3) ls rest)) : W p l e R s m args below meth c H locs cells slots Q (F0 m pc ls (va_rf x :: rest)) := by
  cases x with
  | none => exact lv_ifnonnullN hexec hb hdg (kn rfl)
  | some x => exact lv_ifnonnull hexec hb hdg ht (ks x rfl)
end URX
/-- the start of a contract -/
theorem ur_of {l : Launch} {y : MethodName} {ws ws' : List Cond} {rm : Room} {D : va_G} {cl : List vw_C} {V : ur_V} {av : List Value} {h : ur_M} {mc ms sz : Nat} {cc : ByteArray} {maxL : Nat} {ret : Option FieldType} {Qc : Array Value → State → Outcome → State → Prop} (hy : plainName y.cls = true) (hw : ws = Cond.code y cc maxL ret :: ws') (hav : (lg_sl av).length ≤ maxL)
    (body : ∀ (p : Program) (e : Env) (s : State) (m : MethodId) (args : Array Value) (below : List Frame) (meth : Method) (c : Code) (ls : Array Slot) (Q : State → Prop), s.heap.size = sz → p.tables.exec = Jvm.exec → c.code = cc → c.maxLocals = maxL → meth.sig.returnType = ret → meth.locks = false → meth.name = y.name → s.vm.findClass y.cls = some m.cls → (∀ w ∈ ws, w.before args s = true) → ur_O V (ur_A h s.heap.size) s s.heap → ur_K D cl V s → ur_I D cl (ur_A h s.heap.size) s.heap h s.heap [] → Q = MQ below Qc args s mc ms (ur_A h sz) → lv_has ls maxL (lv_args 0 av) → W p l e rm s m args below meth c s.heap [] 0 0 Q (F0 m 0 ls [])) : Met l y ws rm (va_Pc av (ur_B D cl V h sz)) Qc mc ms (ur_A h sz) := by
  refine Met.ofW hy hw ?_
  intro p e s m args below meth c s₁ B hml hv
  obtain ⟨ha, hsz, hP0, hO, hK⟩ := hv
  have hl := lv_entry av (n := maxL) hav
  have hts := atoms_spec (ws := ws) B.pre
  have hnm := (name_of_methodNamed B.named B.method).1
  have hown := findClass_of_methodNamed B.named
  have hlocks := B.notSynchronized
  have hx := B.exec
  have hb := B.bytes
  have hr := B.returns
  clear B
  subst ha
  rw [lg_entry_eq]
  refine body p e s m _ below meth c _ _ hsz hx hb hml hr hlocks hnm hown hts ?_ hK (ur_begin hP0) rfl hl
  rw [hsz]
  exact hO
theorem ur_sw {h : ur_M} {a b : Nat} {x y x' : Option va_E} (n : a ≠ b) : va_up (va_up (va_up h a x) b y) a x' = va_up (va_up h a x') b y := by
  funext q
  by_cases qa : q = a
  · subst qa
    rw [va_up_self, va_up_ne _ _ n, va_up_self]
  · rw [va_up_ne _ _ qa]
    by_cases qb : q = b
    · subst qb
      rw [va_up_self, va_up_self]
    · rw [va_up_ne _ _ qb, va_up_ne _ _ qb, va_up_ne _ _ qa, va_up_ne _ _ qa]
theorem ur_com {h : ur_M} {a b : Nat} {x y : Option va_E} (n : a ≠ b) : va_up (va_up h a x) b y = va_up (va_up h b y) a x := by
  funext q
  by_cases qa : q = a
  · subst qa
    rw [va_up_self, va_up_ne _ _ n, va_up_self]
  · rw [va_up_ne _ _ qa]
    by_cases qb : q = b
    · subst qb
      rw [va_up_self, va_up_self]
    · rw [va_up_ne _ _ qb, va_up_ne _ _ qb, va_up_ne _ _ qa]
theorem ur_fresh {h : ur_M} {a q : Nat} {e : va_E} (ha : h a = some e) (hq : h q = none) : a ≠ q := fun z => by
  rw [z, hq] at ha
  cases ha
