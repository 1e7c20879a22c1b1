theorem dM_holds_0 : decode cM_holds 0 = .ok (.iload_n 1, 1) := by decide +kernel
theorem dM_holds_1 : decode cM_holds 1 = .ok (.ifCond .lt 31, 3) := by decide +kernel
theorem dM_holds_4 : decode cM_holds 4 = .ok (.iload_n 2, 1) := by decide +kernel
theorem dM_holds_5 : decode cM_holds 5 = .ok (.ifCond .lt 27, 3) := by decide +kernel
theorem dM_holds_8 : decode cM_holds 8 = .ok (.iload_n 2, 1) := by decide +kernel
theorem dM_holds_9 : decode cM_holds 9 = .ok (.aload_n 0, 1) := by decide +kernel
theorem dM_holds_10 : decode cM_holds 10 = .ok (.getfield 9, 3) := by decide +kernel
theorem dM_holds_13 : decode cM_holds 13 = .ok (.arraylength, 1) := by decide +kernel
theorem dM_holds_14 : decode cM_holds 14 = .ok (.if_icmp .gt 18, 3) := by decide +kernel
theorem dM_holds_17 : decode cM_holds 17 = .ok (.iload_n 1, 1) := by decide +kernel
theorem dM_holds_18 : decode cM_holds 18 = .ok (.aload_n 0, 1) := by decide +kernel
theorem dM_holds_19 : decode cM_holds 19 = .ok (.getfield 9, 3) := by decide +kernel
theorem dM_holds_22 : decode cM_holds 22 = .ok (.arraylength, 1) := by decide +kernel
theorem dM_holds_23 : decode cM_holds 23 = .ok (.iload_n 2, 1) := by decide +kernel
theorem dM_holds_24 : decode cM_holds 24 = .ok (.isub, 1) := by decide +kernel
theorem dM_holds_25 : decode cM_holds 25 = .ok (.if_icmp .gt 7, 3) := by decide +kernel
theorem dM_holds_28 : decode cM_holds 28 = .ok (.iconst 1, 1) := by decide +kernel
theorem dM_holds_29 : decode cM_holds 29 = .ok (.goto 4, 3) := by decide +kernel
theorem dM_holds_32 : decode cM_holds 32 = .ok (.iconst 0, 1) := by decide +kernel
theorem dM_holds_33 : decode cM_holds 33 = .ok (.ireturn, 1) := by decide +kernel
abbrev rmkM_h : Room := { frames := 0, cells := 0, slots := 0, locals := 0 }
set_option maxHeartbeats 4000000 in
set_option maxRecDepth 100000 in
/-- holds(a, n) -/
theorem kM_h (l : Launch) (D : va_G) (E : ur_Ev) (h : ur_M) (q : Nat) (q1 : Nat) (g : Nat → Int32) (a : Int32) (n : Int32) (f0 : h q = some (.inr (1, [.ref q1]))) (f1 : h q1 = some (.inl (E.1 0, 4000, .inl g)))  : ur_Mi l yM_holds wsM_holds rmkM_h D vwCl (ur_v E) [.ref q, .int a, .int n] h (fun r h2 => r = um_b (um_holds a n) ∧ h2 = h) 0 0 := by
  intro sz
  refine ur_of (cc := cM_holds) (maxL := 3) (ret := (some .boolean)) (by decide) rfl (Nat.le_of_ble_eq_true rfl) ?_
  intro p e s m args below meth c ls Q hsz hx hb hml hr hlocks hnm hown hts hO hK hI hQ hl
  subst hsz
  have hV := hK.1
  have hts : ∀ w ∈ ur_G, w.before args s = true := fun w hw => hts w (List.mem_cons_of_mem _ hw)
  have hZ : ur_Z E (ur_A h s.heap.size) s s.heap := hO.1
  have hown : s.vm.findClass "UnitRoom$Memory" = some m.cls := hown
  have hl : lv_has ls 3 [(0, .ref q), (1, .int a), (2, .int n)] := hl
  refine lv_iload_n hx hb dM_holds_0 rfl (lv_at hl 1 rfl) ?_
  refine lv_if_lt (tgt := 32) hx hb dM_holds_1 (by decide) (fun c1 => ?_) (fun c1 => ?_)
  · refine lv_iconst (v := 0) hx hb dM_holds_32 (by decide) ?_
    exact ur_rz (v := 0) hx hb hr hlocks hI hQ rfl ⟨(by first | (simp only [um_holds, c1, ↓reduceIte]; done) | (simp only [um_holds, c1, ↓reduceIte]; rfl) | rfl), rfl⟩ dM_holds_33
  · refine lv_iload_n hx hb dM_holds_4 rfl (lv_at hl 2 rfl) ?_
    refine lv_if_lt (tgt := 32) hx hb dM_holds_5 (by decide) (fun c2 => ?_) (fun c2 => ?_)
    · refine lv_iconst (v := 0) hx hb dM_holds_32 (by decide) ?_
      exact ur_rz (v := 0) hx hb hr hlocks hI hQ rfl ⟨(by first | (simp only [um_holds, c1, c2, ↓reduceIte]; done) | (simp only [um_holds, c1, c2, ↓reduceIte]; rfl) | rfl), rfl⟩ dM_holds_33
    · refine lv_iload_n hx hb dM_holds_8 rfl (lv_at hl 2 rfl) ?_
      refine lv_aload_n hx hb dM_holds_9 rfl (lv_at hl 0 rfl) ?_
      refine va_get (D := D) (ci := 1) (v := .ref q1) (C := "UnitRoom$Memory") (T := TM) (N := 1) hx hb hts inM hown hV (ur_one hI.1 f0) 0 rfl rfl 0 (by decide) (hts _ mw32) (fun _ h9 => h9) rfl dM_holds_10 ?_
      refine va_alen (v := 4000) hx hb hV (ur_one hI.1 f1) 0 0 rfl rfl rfl dM_holds_13 ?_
      refine lv_icmp_gt (tgt := 32) hx hb dM_holds_14 (by decide) (fun c3 => ?_) (fun c3 => ?_)
      · refine lv_iconst (v := 0) hx hb dM_holds_32 (by decide) ?_
        exact ur_rz (v := 0) hx hb hr hlocks hI hQ rfl ⟨(by first | (simp only [um_holds, c1, c2, c3, ↓reduceIte]; done) | (simp only [um_holds, c1, c2, c3, ↓reduceIte]; rfl) | rfl), rfl⟩ dM_holds_33
      · refine lv_iload_n hx hb dM_holds_17 rfl (lv_at hl 1 rfl) ?_
        refine lv_aload_n hx hb dM_holds_18 rfl (lv_at hl 0 rfl) ?_
        refine va_get (D := D) (ci := 1) (v := .ref q1) (C := "UnitRoom$Memory") (T := TM) (N := 1) hx hb hts inM hown hV (ur_one hI.1 f0) 0 rfl rfl 0 (by decide) (hts _ mw32) (fun _ h9 => h9) rfl dM_holds_19 ?_
        refine va_alen (v := 4000) hx hb hV (ur_one hI.1 f1) 0 0 rfl rfl rfl dM_holds_22 ?_
        refine lv_iload_n hx hb dM_holds_23 rfl (lv_at hl 2 rfl) ?_
        refine lv_isub hx hb dM_holds_24 ?_
        refine lv_icmp_gt (tgt := 32) hx hb dM_holds_25 (by decide) (fun c4 => ?_) (fun c4 => ?_)
        · refine lv_iconst (v := 0) hx hb dM_holds_32 (by decide) ?_
          exact ur_rz (v := 0) hx hb hr hlocks hI hQ rfl ⟨(by first | (simp only [um_holds, c1, c2, c3, c4, ↓reduceIte]; done) | (simp only [um_holds, c1, c2, c3, c4, ↓reduceIte]; rfl) | rfl), rfl⟩ dM_holds_33
        · refine lv_iconst (v := 1) hx hb dM_holds_28 (by decide) ?_
          refine lv_goto (tgt := 33) hx hb dM_holds_29 (by decide) ?_
          exact ur_rz (v := 1) hx hb hr hlocks hI hQ rfl ⟨(by first | (simp only [um_holds, c1, c2, c3, c4, ↓reduceIte]; done) | (simp only [um_holds, c1, c2, c3, c4, ↓reduceIte]; rfl) | rfl), rfl⟩ dM_holds_33
theorem dM_at_0 : decode cM_at 0 = .ok (.aload_n 0, 1) := by decide +kernel
theorem dM_at_1 : decode cM_at 1 = .ok (.iload_n 1, 1) := by decide +kernel
theorem dM_at_2 : decode cM_at 2 = .ok (.iconst 1, 1) := by decide +kernel
theorem dM_at_3 : decode cM_at 3 = .ok (.invokevirtual 15, 3) := by decide +kernel
theorem dM_at_6 : decode cM_at 6 = .ok (.ifCond .eq 12, 3) := by decide +kernel
theorem dM_at_9 : decode cM_at 9 = .ok (.aload_n 0, 1) := by decide +kernel
theorem dM_at_10 : decode cM_at 10 = .ok (.getfield 9, 3) := by decide +kernel
theorem dM_at_13 : decode cM_at 13 = .ok (.iload_n 1, 1) := by decide +kernel
theorem dM_at_14 : decode cM_at 14 = .ok (.iaload, 1) := by decide +kernel
theorem dM_at_15 : decode cM_at 15 = .ok (.goto 5, 3) := by decide +kernel
theorem dM_at_18 : decode cM_at 18 = .ok (.ldc 19, 2) := by decide +kernel
theorem dM_at_20 : decode cM_at 20 = .ok (.ireturn, 1) := by decide +kernel
abbrev rmkM_at : Room := { frames := 1, cells := 0, slots := 0, locals := 22 }
set_option maxHeartbeats 4000000 in
set_option maxRecDepth 100000 in
/-- at(a) -/
theorem kM_at (l : Launch) (D : va_G) (E : ur_Ev) (h : ur_M) (q : Nat) (q1 : Nat) (g : Nat → Int32) (a : Int32) (f0 : h q = some (.inr (1, [.ref q1]))) (f1 : h q1 = some (.inl (E.1 0, 4000, .inl g)))  : ur_Mi l yM_at wsM_at rmkM_at D vwCl (ur_v E) [.ref q, .int a] h (fun r h2 => r = um_at g a ∧ h2 = h) 0 0 := by
  intro sz
  refine ur_of (cc := cM_at) (maxL := 2) (ret := (some .int)) (by decide) rfl (Nat.le_of_ble_eq_true rfl) ?_
  intro p e s m args below meth c ls Q hsz hx hb hml hr hlocks hnm hown hts hO hK hI hQ hl
  subst hsz
  have hV := hK.1
  have hts : ∀ w ∈ ur_G, w.before args s = true := fun w hw => hts w (List.mem_cons_of_mem _ hw)
  have hZ : ur_Z E (ur_A h s.heap.size) s s.heap := hO.1
  have hown : s.vm.findClass "UnitRoom$Memory" = some m.cls := hown
  have hl : lv_has ls 2 [(0, .ref q), (1, .int a)] := hl
  refine lv_aload_n hx hb dM_at_0 rfl (lv_at hl 0 rfl) ?_
  refine lv_iload_n hx hb dM_at_1 rfl (lv_at hl 1 rfl) ?_
  refine lv_iconst (v := 1) hx hb dM_at_2 (by decide) ?_
  refine ur_xi (va_runV (As := [.int a, .int 1]) (rest := []) ⟨hx, hb, hml, hown, hts⟩ (kM_h l D E h q q1 g a 1 f0 f1 s.heap.size) (cwV 2 hts (ur_gV mw224 mw214 mw215 mw2 mw216) rfl rfl rfl (by decide +kernel) ⟨(Nat.le_of_ble_eq_true rfl), (Nat.le_of_ble_eq_true rfl)⟩) ⟨ur_blind, va_recv hV (ur_one hI.1 f0) (ci := 1) (q0 := 0) rfl rfl, ur_pre hI hO hK (fun _ _ q => q)⟩ rfl rfl hl.1 rfl (lv_room (Nat.le_of_ble_eq_true rfl)) dM_at_3 ⟨Nat.le_of_ble_eq_true rfl, Nat.le_of_ble_eq_true rfl⟩) hI (fun r1 h1 H locs p1 hI => ?_)
  obtain ⟨er1, eh1⟩ := p1
  replace eh1 := eh1.symm; subst eh1
  refine lv_if_eq (tgt := 18) hx hb dM_at_6 (by decide) (fun c2 => ?_) (fun c2 => ?_)
  · have k3 : (um_holds a 1) = false := um_b0 er1 c2
    refine lv_ldc (v := 2147483647) hx hb hown (hts _ mw238) dM_at_18 ?_
    exact ur_ri (v := 2147483647) hx hb hr hlocks hI hQ ⟨(by first | (simp only [um_at, k3, ↓reduceIte]; done) | (simp only [um_at, k3, ↓reduceIte]; rfl) | rfl), rfl⟩ dM_at_20
  · have k4 : (um_holds a 1) = true := um_b1 er1 c2
    refine lv_aload_n hx hb dM_at_9 rfl (lv_at hl 0 rfl) ?_
    refine va_get (D := D) (ci := 1) (v := .ref q1) (C := "UnitRoom$Memory") (T := TM) (N := 1) hx hb hts inM hown hV (ur_one hI.1 f0) 0 rfl rfl 0 (by decide) (hts _ mw32) (fun _ h9 => h9) rfl dM_at_10 ?_
    refine lv_iload_n hx hb dM_at_13 rfl (lv_at hl 1 rfl) ?_
    refine va_iald hx hb hV (ur_one hI.1 f1) 0 0 rfl rfl (um_holds_in k4) dM_at_14 ?_
    refine lv_goto (tgt := 20) hx hb dM_at_15 (by decide) ?_
    exact ur_ri (v := (g a.toNatClampNeg)) hx hb hr hlocks hI hQ ⟨(by first | (simp only [um_at, k4, ↓reduceIte]; done) | (simp only [um_at, k4, ↓reduceIte]; rfl) | rfl), rfl⟩ dM_at_20
theorem dM_put_0 : decode cM_put 0 = .ok (.aload_n 0, 1) := by decide +kernel
theorem dM_put_1 : decode cM_put 1 = .ok (.iload_n 1, 1) := by decide +kernel
theorem dM_put_2 : decode cM_put 2 = .ok (.iconst 1, 1) := by decide +kernel
theorem dM_put_3 : decode cM_put 3 = .ok (.invokevirtual 15, 3) := by decide +kernel
theorem dM_put_6 : decode cM_put 6 = .ok (.ifCond .eq 10, 3) := by decide +kernel
theorem dM_put_9 : decode cM_put 9 = .ok (.aload_n 0, 1) := by decide +kernel
theorem dM_put_10 : decode cM_put 10 = .ok (.getfield 9, 3) := by decide +kernel
theorem dM_put_13 : decode cM_put 13 = .ok (.iload_n 1, 1) := by decide +kernel
theorem dM_put_14 : decode cM_put 14 = .ok (.iload_n 2, 1) := by decide +kernel
theorem dM_put_15 : decode cM_put 15 = .ok (.iastore, 1) := by decide +kernel
theorem dM_put_16 : decode cM_put 16 = .ok (.return_, 1) := by decide +kernel
abbrev rmkM_put : Room := { frames := 1, cells := 0, slots := 0, locals := 22 }
set_option maxHeartbeats 4000000 in
set_option maxRecDepth 100000 in
/-- put(a, v) -/
theorem kM_put (l : Launch) (D : va_G) (E : ur_Ev) (h : ur_M) (q : Nat) (q1 : Nat) (g : Nat → Int32) (a : Int32) (v : Int32) (f0 : h q = some (.inr (1, [.ref q1]))) (f1 : h q1 = some (.inl (E.1 0, 4000, .inl g)))  : ur_Mv l yM_put wsM_put rmkM_put D vwCl (ur_v E) [.ref q, .int a, .int v] h (fun h2 => h2 = va_up h q1 (some (.inl (E.1 0, 4000, .inl (um_put g a v))))) 0 0 := by
  intro sz
  refine ur_of (cc := cM_put) (maxL := 3) (ret := none) (by decide) rfl (Nat.le_of_ble_eq_true rfl) ?_
  intro p e s m args below meth c ls Q hsz hx hb hml hr hlocks hnm hown hts hO hK hI hQ hl
  subst hsz
  have hV := hK.1
  have hts : ∀ w ∈ ur_G, w.before args s = true := fun w hw => hts w (List.mem_cons_of_mem _ hw)
  have hZ : ur_Z E (ur_A h s.heap.size) s s.heap := hO.1
  have hown : s.vm.findClass "UnitRoom$Memory" = some m.cls := hown
  have hl : lv_has ls 3 [(0, .ref q), (1, .int a), (2, .int v)] := hl
  refine lv_aload_n hx hb dM_put_0 rfl (lv_at hl 0 rfl) ?_
  refine lv_iload_n hx hb dM_put_1 rfl (lv_at hl 1 rfl) ?_
  refine lv_iconst (v := 1) hx hb dM_put_2 (by decide) ?_
  refine ur_xi (va_runV (As := [.int a, .int 1]) (rest := []) ⟨hx, hb, hml, hown, hts⟩ (kM_h l D E h q q1 g a 1 f0 f1 s.heap.size) (cwV 2 hts (ur_gV mw224 mw214 mw215 mw2 mw216) rfl rfl rfl (by decide +kernel) ⟨(Nat.le_of_ble_eq_true rfl), (Nat.le_of_ble_eq_true rfl)⟩) ⟨ur_blind, va_recv hV (ur_one hI.1 f0) (ci := 1) (q0 := 0) rfl rfl, ur_pre hI hO hK (fun _ _ q => q)⟩ rfl rfl hl.1 rfl (lv_room (Nat.le_of_ble_eq_true rfl)) dM_put_3 ⟨Nat.le_of_ble_eq_true rfl, Nat.le_of_ble_eq_true rfl⟩) hI (fun r1 h1 H locs p1 hI => ?_)
  obtain ⟨er1, eh1⟩ := p1
  replace eh1 := eh1.symm; subst eh1
  refine lv_if_eq (tgt := 16) hx hb dM_put_6 (by decide) (fun c2 => ?_) (fun c2 => ?_)
  · have k3 : (um_holds a 1) = false := um_b0 er1 c2
    exact ur_rv hx hb hr hlocks hI hQ (by rw [um_put_f k3]; exact (ur_same f1).symm) dM_put_16
  · have k4 : (um_holds a 1) = true := um_b1 er1 c2
    refine lv_aload_n hx hb dM_put_9 rfl (lv_at hl 0 rfl) ?_
    refine va_get (D := D) (ci := 1) (v := .ref q1) (C := "UnitRoom$Memory") (T := TM) (N := 1) hx hb hts inM hown hV (ur_one hI.1 f0) 0 rfl rfl 0 (by decide) (hts _ mw32) (fun _ h9 => h9) rfl dM_put_10 ?_
    refine lv_iload_n hx hb dM_put_13 rfl (lv_at hl 1 rfl) ?_
    refine lv_iload_n hx hb dM_put_14 rfl (lv_at hl 2 rfl) ?_
    refine ur_iast hx hb hV hI 0 f1 rfl (um_holds_in k4) dM_put_15 (fun H locs hI => ?_)
    obtain ⟨h5, eh5⟩ : ∃ z : ur_M, z = va_up h q1 (some (.inl (E.1 0, 4000, .inl (upd g a.toNatClampNeg v)))) := ⟨_, rfl⟩
    rw [← eh5] at hI
    have q6 : h5 q = some (.inr (1, [.ref q1])) := by rw [eh5]; exact ((va_up_ne _ _ (ur_ne f0 f1 (by intro z; simp at z))).trans f0)
    have q7 : h5 q1 = some (.inl (E.1 0, 4000, .inl (upd g a.toNatClampNeg v))) := by rw [eh5]; exact (va_up_self _ _ _)
    exact ur_rv hx hb hr hlocks hI hQ (by rw [um_put_t k4, eh5]) dM_put_16
theorem dM_copyInto_0 : decode cM_copyInto 0 = .ok (.aload_n 0, 1) := by decide +kernel
theorem dM_copyInto_1 : decode cM_copyInto 1 = .ok (.iload_n 2, 1) := by decide +kernel
theorem dM_copyInto_2 : decode cM_copyInto 2 = .ok (.aload_n 1, 1) := by decide +kernel
theorem dM_copyInto_3 : decode cM_copyInto 3 = .ok (.arraylength, 1) := by decide +kernel
theorem dM_copyInto_4 : decode cM_copyInto 4 = .ok (.invokevirtual 15, 3) := by decide +kernel
theorem dM_copyInto_7 : decode cM_copyInto 7 = .ok (.ifCond .eq 15, 3) := by decide +kernel
theorem dM_copyInto_10 : decode cM_copyInto 10 = .ok (.aload_n 0, 1) := by decide +kernel
theorem dM_copyInto_11 : decode cM_copyInto 11 = .ok (.getfield 9, 3) := by decide +kernel
theorem dM_copyInto_14 : decode cM_copyInto 14 = .ok (.iload_n 2, 1) := by decide +kernel
theorem dM_copyInto_15 : decode cM_copyInto 15 = .ok (.aload_n 1, 1) := by decide +kernel
theorem dM_copyInto_16 : decode cM_copyInto 16 = .ok (.iconst 0, 1) := by decide +kernel
theorem dM_copyInto_17 : decode cM_copyInto 17 = .ok (.aload_n 1, 1) := by decide +kernel
theorem dM_copyInto_18 : decode cM_copyInto 18 = .ok (.arraylength, 1) := by decide +kernel
theorem dM_copyInto_19 : decode cM_copyInto 19 = .ok (.invokestatic 20, 3) := by decide +kernel
theorem dM_copyInto_22 : decode cM_copyInto 22 = .ok (.return_, 1) := by decide +kernel
abbrev rmkM_ci : Room := { frames := 1, cells := 0, slots := 0, locals := 26 }
set_option maxHeartbeats 4000000 in
set_option maxRecDepth 100000 in
/-- copyInto(row, a) -/
theorem kM_ci (l : Launch) (D : va_G) (E : ur_Ev) (h : ur_M) (q : Nat) (q1 : Nat) (w : Nat) (g : Nat → Int32) (f : Nat → Int32) (n : Nat) (a : Int32) (f0 : h q = some (.inr (1, [.ref q1]))) (f1 : h q1 = some (.inl (E.1 0, 4000, .inl g))) (f2 : h w = some (.inl (E.1 0, n, .inl f))) (hn : n ≤ 4000) (hne : q1 ≠ w) : ur_Mv l yM_copyInto wsM_copyInto rmkM_ci D vwCl (ur_v E) [.ref q, .ref w, .int a] h (fun h2 => h2 = va_up h w (some (.inl (E.1 0, n, .inl (um_cin g f a n))))) 0 0 := by
  intro sz
  refine ur_of (cc := cM_copyInto) (maxL := 3) (ret := none) (by decide) rfl (Nat.le_of_ble_eq_true rfl) ?_
  intro p e s m args below meth c ls Q hsz hx hb hml hr hlocks hnm hown hts hO hK hI hQ hl
  subst hsz
  have hV := hK.1
  have hts : ∀ w ∈ ur_G, w.before args s = true := fun w hw => hts w (List.mem_cons_of_mem _ hw)
  have hZ : ur_Z E (ur_A h s.heap.size) s s.heap := hO.1
  have hown : s.vm.findClass "UnitRoom$Memory" = some m.cls := hown
  have hl : lv_has ls 3 [(0, .ref q), (1, .ref w), (2, .int a)] := hl
  refine lv_aload_n hx hb dM_copyInto_0 rfl (lv_at hl 0 rfl) ?_
  refine lv_iload_n hx hb dM_copyInto_1 rfl (lv_at hl 2 rfl) ?_
  refine lv_aload_n hx hb dM_copyInto_2 rfl (lv_at hl 1 rfl) ?_
  refine va_alen (v := (nI n)) hx hb hV (ur_one hI.1 f2) 0 0 rfl rfl rfl dM_copyInto_3 ?_
  refine ur_xi (va_runV (As := [.int a, .int (nI n)]) (rest := []) ⟨hx, hb, hml, hown, hts⟩ (kM_h l D E h q q1 g a (nI n) f0 f1 s.heap.size) (cwV 2 hts (ur_gV mw224 mw214 mw215 mw2 mw216) rfl rfl rfl (by decide +kernel) ⟨(Nat.le_of_ble_eq_true rfl), (Nat.le_of_ble_eq_true rfl)⟩) ⟨ur_blind, va_recv hV (ur_one hI.1 f0) (ci := 1) (q0 := 0) rfl rfl, ur_pre hI hO hK (fun _ _ q => q)⟩ rfl rfl hl.1 rfl (lv_room (Nat.le_of_ble_eq_true rfl)) dM_copyInto_4 ⟨Nat.le_of_ble_eq_true rfl, Nat.le_of_ble_eq_true rfl⟩) hI (fun r1 h1 H locs p1 hI => ?_)
  obtain ⟨er1, eh1⟩ := p1
  replace eh1 := eh1.symm; subst eh1
  refine lv_if_eq (tgt := 22) hx hb dM_copyInto_7 (by decide) (fun c2 => ?_) (fun c2 => ?_)
  · have k3 : (um_holds a (nI n)) = false := um_b0 er1 c2
    exact ur_rv hx hb hr hlocks hI hQ (by rw [um_cin_f k3]; exact (ur_same f2).symm) dM_copyInto_22
  · have k4 : (um_holds a (nI n)) = true := um_b1 er1 c2
    refine lv_aload_n hx hb dM_copyInto_10 rfl (lv_at hl 0 rfl) ?_
    refine va_get (D := D) (ci := 1) (v := .ref q1) (C := "UnitRoom$Memory") (T := TM) (N := 1) hx hb hts inM hown hV (ur_one hI.1 f0) 0 rfl rfl 0 (by decide) (hts _ mw32) (fun _ h9 => h9) rfl dM_copyInto_11 ?_
    refine lv_iload_n hx hb dM_copyInto_14 rfl (lv_at hl 2 rfl) ?_
    refine lv_aload_n hx hb dM_copyInto_15 rfl (lv_at hl 1 rfl) ?_
    refine lv_iconst (v := 0) hx hb dM_copyInto_16 (by decide) ?_
    refine lv_aload_n hx hb dM_copyInto_17 rfl (lv_at hl 1 rfl) ?_
    refine va_alen (v := (nI n)) hx hb hV (ur_one hI.1 f2) 0 0 rfl rfl rfl dM_copyInto_18 ?_
    refine ur_copyi hx hb (hml.trans hl.1.symm) hown (hts _ mw297) (hts _ mw299) (hts _ mw298) (hts _ mw12) hV hI 0 f1 f2 rfl (sp := a) (dp := 0) (n := (nI n)) (um_holds_of k4).1 (by decide) (nI_pos (by omega)) (by obtain ⟨j9, e9, h9⟩ := um_holds_nat hn k4; rw [e9, nI_clamp (by omega), nI_clamp (by omega)]; omega) (by rw [nI_clamp (by omega)]; exact Nat.le_of_eq (Nat.zero_add n)) (Nat.le_of_ble_eq_true rfl) (Nat.le_of_ble_eq_true rfl) dM_copyInto_19 (fun H locs hI => ?_)
    obtain ⟨h5, eh5⟩ : ∃ z : ur_M, z = va_up h w (some (.inl (E.1 0, n, .inl (va_cpy g f a.toNatClampNeg (Int32.toNatClampNeg 0) (Int32.toNatClampNeg (nI n)))))) := ⟨_, rfl⟩
    rw [← eh5] at hI
    have q6 : h5 q = some (.inr (1, [.ref q1])) := by rw [eh5]; exact ((va_up_ne _ _ (ur_ne f0 f2 (by intro z; simp at z))).trans f0)
    have q7 : h5 q1 = some (.inl (E.1 0, 4000, .inl g)) := by rw [eh5]; exact ((va_up_ne _ _ hne).trans f1)
    have q8 : h5 w = some (.inl (E.1 0, n, .inl (va_cpy g f a.toNatClampNeg (Int32.toNatClampNeg 0) (Int32.toNatClampNeg (nI n))))) := by rw [eh5]; exact (va_up_self _ _ _)
    exact ur_rv hx hb hr hlocks hI hQ (by rw [um_cin_t k4, eh5, nI_clamp (show n < 2 ^ 31 by omega)]; rfl) dM_copyInto_22
theorem dM_takeFrom_0 : decode cM_takeFrom 0 = .ok (.aload_n 0, 1) := by decide +kernel
theorem dM_takeFrom_1 : decode cM_takeFrom 1 = .ok (.iload_n 2, 1) := by decide +kernel
theorem dM_takeFrom_2 : decode cM_takeFrom 2 = .ok (.aload_n 1, 1) := by decide +kernel
theorem dM_takeFrom_3 : decode cM_takeFrom 3 = .ok (.arraylength, 1) := by decide +kernel
theorem dM_takeFrom_4 : decode cM_takeFrom 4 = .ok (.invokevirtual 15, 3) := by decide +kernel
theorem dM_takeFrom_7 : decode cM_takeFrom 7 = .ok (.ifCond .eq 15, 3) := by decide +kernel
theorem dM_takeFrom_10 : decode cM_takeFrom 10 = .ok (.aload_n 1, 1) := by decide +kernel
theorem dM_takeFrom_11 : decode cM_takeFrom 11 = .ok (.iconst 0, 1) := by decide +kernel
theorem dM_takeFrom_12 : decode cM_takeFrom 12 = .ok (.aload_n 0, 1) := by decide +kernel
theorem dM_takeFrom_13 : decode cM_takeFrom 13 = .ok (.getfield 9, 3) := by decide +kernel
theorem dM_takeFrom_16 : decode cM_takeFrom 16 = .ok (.iload_n 2, 1) := by decide +kernel
theorem dM_takeFrom_17 : decode cM_takeFrom 17 = .ok (.aload_n 1, 1) := by decide +kernel
theorem dM_takeFrom_18 : decode cM_takeFrom 18 = .ok (.arraylength, 1) := by decide +kernel
theorem dM_takeFrom_19 : decode cM_takeFrom 19 = .ok (.invokestatic 20, 3) := by decide +kernel
theorem dM_takeFrom_22 : decode cM_takeFrom 22 = .ok (.return_, 1) := by decide +kernel
abbrev rmkM_co : Room := { frames := 1, cells := 0, slots := 0, locals := 26 }
set_option maxHeartbeats 4000000 in
set_option maxRecDepth 100000 in
/-- takeFrom(row, a) -/
theorem kM_co (l : Launch) (D : va_G) (E : ur_Ev) (h : ur_M) (q : Nat) (q1 : Nat) (w : Nat) (g : Nat → Int32) (f : Nat → Int32) (n : Nat) (a : Int32) (f0 : h q = some (.inr (1, [.ref q1]))) (f1 : h q1 = some (.inl (E.1 0, 4000, .inl g))) (f2 : h w = some (.inl (E.1 0, n, .inl f))) (hn : n ≤ 4000) (hne : q1 ≠ w) : ur_Mv l yM_takeFrom wsM_takeFrom rmkM_co D vwCl (ur_v E) [.ref q, .ref w, .int a] h (fun h2 => h2 = va_up h q1 (some (.inl (E.1 0, 4000, .inl (um_cout g f a n))))) 0 0 := by
  intro sz
  refine ur_of (cc := cM_takeFrom) (maxL := 3) (ret := none) (by decide) rfl (Nat.le_of_ble_eq_true rfl) ?_
  intro p e s m args below meth c ls Q hsz hx hb hml hr hlocks hnm hown hts hO hK hI hQ hl
  subst hsz
  have hV := hK.1
  have hts : ∀ w ∈ ur_G, w.before args s = true := fun w hw => hts w (List.mem_cons_of_mem _ hw)
  have hZ : ur_Z E (ur_A h s.heap.size) s s.heap := hO.1
  have hown : s.vm.findClass "UnitRoom$Memory" = some m.cls := hown
  have hl : lv_has ls 3 [(0, .ref q), (1, .ref w), (2, .int a)] := hl
  refine lv_aload_n hx hb dM_takeFrom_0 rfl (lv_at hl 0 rfl) ?_
  refine lv_iload_n hx hb dM_takeFrom_1 rfl (lv_at hl 2 rfl) ?_
  refine lv_aload_n hx hb dM_takeFrom_2 rfl (lv_at hl 1 rfl) ?_
  refine va_alen (v := (nI n)) hx hb hV (ur_one hI.1 f2) 0 0 rfl rfl rfl dM_takeFrom_3 ?_
  refine ur_xi (va_runV (As := [.int a, .int (nI n)]) (rest := []) ⟨hx, hb, hml, hown, hts⟩ (kM_h l D E h q q1 g a (nI n) f0 f1 s.heap.size) (cwV 2 hts (ur_gV mw224 mw214 mw215 mw2 mw216) rfl rfl rfl (by decide +kernel) ⟨(Nat.le_of_ble_eq_true rfl), (Nat.le_of_ble_eq_true rfl)⟩) ⟨ur_blind, va_recv hV (ur_one hI.1 f0) (ci := 1) (q0 := 0) rfl rfl, ur_pre hI hO hK (fun _ _ q => q)⟩ rfl rfl hl.1 rfl (lv_room (Nat.le_of_ble_eq_true rfl)) dM_takeFrom_4 ⟨Nat.le_of_ble_eq_true rfl, Nat.le_of_ble_eq_true rfl⟩) hI (fun r1 h1 H locs p1 hI => ?_)
  obtain ⟨er1, eh1⟩ := p1
  replace eh1 := eh1.symm; subst eh1
  refine lv_if_eq (tgt := 22) hx hb dM_takeFrom_7 (by decide) (fun c2 => ?_) (fun c2 => ?_)
  · have k3 : (um_holds a (nI n)) = false := um_b0 er1 c2
    exact ur_rv hx hb hr hlocks hI hQ (by rw [um_cout_f k3]; exact (ur_same f1).symm) dM_takeFrom_22
  · have k4 : (um_holds a (nI n)) = true := um_b1 er1 c2
    refine lv_aload_n hx hb dM_takeFrom_10 rfl (lv_at hl 1 rfl) ?_
    refine lv_iconst (v := 0) hx hb dM_takeFrom_11 (by decide) ?_
    refine lv_aload_n hx hb dM_takeFrom_12 rfl (lv_at hl 0 rfl) ?_
    refine va_get (D := D) (ci := 1) (v := .ref q1) (C := "UnitRoom$Memory") (T := TM) (N := 1) hx hb hts inM hown hV (ur_one hI.1 f0) 0 rfl rfl 0 (by decide) (hts _ mw32) (fun _ h9 => h9) rfl dM_takeFrom_13 ?_
    refine lv_iload_n hx hb dM_takeFrom_16 rfl (lv_at hl 2 rfl) ?_
    refine lv_aload_n hx hb dM_takeFrom_17 rfl (lv_at hl 1 rfl) ?_
    refine va_alen (v := (nI n)) hx hb hV (ur_one hI.1 f2) 0 0 rfl rfl rfl dM_takeFrom_18 ?_
    refine ur_copyi hx hb (hml.trans hl.1.symm) hown (hts _ mw297) (hts _ mw299) (hts _ mw298) (hts _ mw12) hV hI 0 f2 f1 rfl (sp := 0) (dp := a) (n := (nI n)) (by decide) (um_holds_of k4).1 (nI_pos (by omega)) (by rw [nI_clamp (by omega)]; exact Nat.le_of_eq (Nat.zero_add n)) (by obtain ⟨j9, e9, h9⟩ := um_holds_nat hn k4; rw [e9, nI_clamp (by omega), nI_clamp (by omega)]; omega) (Nat.le_of_ble_eq_true rfl) (Nat.le_of_ble_eq_true rfl) dM_takeFrom_19 (fun H locs hI => ?_)
    obtain ⟨h5, eh5⟩ : ∃ z : ur_M, z = va_up h q1 (some (.inl (E.1 0, 4000, .inl (va_cpy f g (Int32.toNatClampNeg 0) a.toNatClampNeg (Int32.toNatClampNeg (nI n)))))) := ⟨_, rfl⟩
    rw [← eh5] at hI
    have q6 : h5 q = some (.inr (1, [.ref q1])) := by rw [eh5]; exact ((va_up_ne _ _ (ur_ne f0 f1 (by intro z; simp at z))).trans f0)
    have q7 : h5 q1 = some (.inl (E.1 0, 4000, .inl (va_cpy f g (Int32.toNatClampNeg 0) a.toNatClampNeg (Int32.toNatClampNeg (nI n))))) := by rw [eh5]; exact (va_up_self _ _ _)
    have q8 : h5 w = some (.inl (E.1 0, n, .inl f)) := by rw [eh5]; exact ((va_up_ne _ _ (Ne.symm hne)).trans f2)
    exact ur_rv hx hb hr hlocks hI hQ (by rw [um_cout_t k4, eh5, nI_clamp (show n < 2 ^ 31 by omega)]; rfl) dM_takeFrom_22
theorem dM_byteAt_0 : decode cM_byteAt 0 = .ok (.aload_n 0, 1) := by decide +kernel
theorem dM_byteAt_1 : decode cM_byteAt 1 = .ok (.iload_n 1, 1) := by decide +kernel
theorem dM_byteAt_2 : decode cM_byteAt 2 = .ok (.iload_n 2, 1) := by decide +kernel
theorem dM_byteAt_3 : decode cM_byteAt 3 = .ok (.iconst 5, 1) := by decide +kernel
theorem dM_byteAt_4 : decode cM_byteAt 4 = .ok (.idiv, 1) := by decide +kernel
theorem dM_byteAt_5 : decode cM_byteAt 5 = .ok (.iadd, 1) := by decide +kernel
theorem dM_byteAt_6 : decode cM_byteAt 6 = .ok (.invokevirtual 26, 3) := by decide +kernel
theorem dM_byteAt_9 : decode cM_byteAt 9 = .ok (.istore_n 3, 1) := by decide +kernel
theorem dM_byteAt_10 : decode cM_byteAt 10 = .ok (.iload_n 3, 1) := by decide +kernel
theorem dM_byteAt_11 : decode cM_byteAt 11 = .ok (.ldc 30, 2) := by decide +kernel
theorem dM_byteAt_13 : decode cM_byteAt 13 = .ok (.if_icmp .ne 7, 3) := by decide +kernel
theorem dM_byteAt_16 : decode cM_byteAt 16 = .ok (.iconst 0, 1) := by decide +kernel
theorem dM_byteAt_17 : decode cM_byteAt 17 = .ok (.goto 7, 3) := by decide +kernel
theorem dM_byteAt_20 : decode cM_byteAt 20 = .ok (.iload_n 3, 1) := by decide +kernel
theorem dM_byteAt_21 : decode cM_byteAt 21 = .ok (.invokestatic 31, 3) := by decide +kernel
theorem dM_byteAt_24 : decode cM_byteAt 24 = .ok (.istore 4, 2) := by decide +kernel
theorem dM_byteAt_26 : decode cM_byteAt 26 = .ok (.iconst 4, 1) := by decide +kernel
theorem dM_byteAt_27 : decode cM_byteAt 27 = .ok (.iload_n 2, 1) := by decide +kernel
theorem dM_byteAt_28 : decode cM_byteAt 28 = .ok (.iconst 5, 1) := by decide +kernel
theorem dM_byteAt_29 : decode cM_byteAt 29 = .ok (.irem, 1) := by decide +kernel
theorem dM_byteAt_30 : decode cM_byteAt 30 = .ok (.isub, 1) := by decide +kernel
theorem dM_byteAt_31 : decode cM_byteAt 31 = .ok (.istore 5, 2) := by decide +kernel
theorem dM_byteAt_33 : decode cM_byteAt 33 = .ok (.iload 4, 2) := by decide +kernel
theorem dM_byteAt_35 : decode cM_byteAt 35 = .ok (.iload 5, 2) := by decide +kernel
theorem dM_byteAt_37 : decode cM_byteAt 37 = .ok (.bipush 6, 2) := by decide +kernel
theorem dM_byteAt_39 : decode cM_byteAt 39 = .ok (.imul, 1) := by decide +kernel
theorem dM_byteAt_40 : decode cM_byteAt 40 = .ok (.ishr, 1) := by decide +kernel
theorem dM_byteAt_41 : decode cM_byteAt 41 = .ok (.bipush 63, 2) := by decide +kernel
theorem dM_byteAt_43 : decode cM_byteAt 43 = .ok (.iand, 1) := by decide +kernel
theorem dM_byteAt_44 : decode cM_byteAt 44 = .ok (.ireturn, 1) := by decide +kernel
abbrev rmkM_by : Room := { frames := 2, cells := 0, slots := 0, locals := 43 }
set_option maxHeartbeats 4000000 in
set_option maxRecDepth 100000 in
/-- byteAt(a, k) -/
theorem kM_by (l : Launch) (D : va_G) (E : ur_Ev) (h : ur_M) (q : Nat) (q1 : Nat) (g : Nat → Int32) (a : Int32) (k : Int32) (f0 : h q = some (.inr (1, [.ref q1]))) (f1 : h q1 = some (.inl (E.1 0, 4000, .inl g)))  : ur_Mi l yM_byteAt wsM_byteAt rmkM_by D vwCl (ur_v E) [.ref q, .int a, .int k] h (fun r h2 => r = um_byte g a k ∧ h2 = h) 0 0 := by
  intro sz
  refine ur_of (cc := cM_byteAt) (maxL := 6) (ret := (some .int)) (by decide) rfl (Nat.le_of_ble_eq_true rfl) ?_
  intro p e s m args below meth c ls Q hsz hx hb hml hr hlocks hnm hown hts hO hK hI hQ hl
  subst hsz
  have hV := hK.1
  have hts : ∀ w ∈ ur_G, w.before args s = true := fun w hw => hts w (List.mem_cons_of_mem _ hw)
  have hZ : ur_Z E (ur_A h s.heap.size) s s.heap := hO.1
  have hown : s.vm.findClass "UnitRoom$Memory" = some m.cls := hown
  have hl : lv_has ls 6 [(0, .ref q), (1, .int a), (2, .int k)] := hl
  refine lv_aload_n hx hb dM_byteAt_0 rfl (lv_at hl 0 rfl) ?_
  refine lv_iload_n hx hb dM_byteAt_1 rfl (lv_at hl 1 rfl) ?_
  refine lv_iload_n hx hb dM_byteAt_2 rfl (lv_at hl 2 rfl) ?_
  refine lv_iconst (v := 5) hx hb dM_byteAt_3 (by decide) ?_
  refine lv_idiv hx hb dM_byteAt_4 (by decide) ?_
  refine lv_iadd hx hb dM_byteAt_5 ?_
  refine ur_xi (va_runV (As := [.int (a + (k / 5))]) (rest := []) ⟨hx, hb, hml, hown, hts⟩ (kM_at l D E h q q1 g (a + (k / 5)) f0 f1 s.heap.size) (cwV 1 hts (ur_gV mw387 mw235 mw236 mw2 mw237) rfl rfl rfl (by decide +kernel) ⟨(Nat.le_of_ble_eq_true rfl), (Nat.le_of_ble_eq_true rfl)⟩) ⟨ur_blind, va_recv hV (ur_one hI.1 f0) (ci := 1) (q0 := 0) rfl rfl, ur_pre hI hO hK (fun _ _ q => q)⟩ rfl rfl hl.1 rfl (lv_room (Nat.le_of_ble_eq_true rfl)) dM_byteAt_6 ⟨Nat.le_of_ble_eq_true rfl, Nat.le_of_ble_eq_true rfl⟩) hI (fun r1 h1 H locs p1 hI => ?_)
  obtain ⟨er1, eh1⟩ := p1
  replace eh1 := eh1.symm; subst eh1
  replace er1 := er1.symm; subst er1
  refine lv_istore_n (lv' := [(3, .int (um_at g (a + (k / 5)))), (0, .ref q), (1, .int a), (2, .int k)]) hx hb dM_byteAt_9 rfl hl (by decide) rfl (fun ls hl => ?_)
  refine lv_iload_n hx hb dM_byteAt_10 rfl (lv_at hl 0 rfl) ?_
  refine lv_ldc (v := (-2147483648)) hx hb hown (hts _ mw388) dM_byteAt_11 ?_
  refine lv_icmp_ne (tgt := 20) hx hb dM_byteAt_13 (by decide) (fun c2 => ?_) (fun c2 => ?_)
  · refine lv_iload_n hx hb dM_byteAt_20 rfl (lv_at hl 0 rfl) ?_
    refine va_mabs hx hb (hml.trans hl.1.symm) hown (hts _ mw389) (hts _ mw390) (hts _ mw6) (hts _ mw391) (Nat.le_of_ble_eq_true rfl) (Nat.le_of_ble_eq_true rfl) (Nat.le_of_ble_eq_true rfl) (Nat.le_of_ble_eq_true rfl) dM_byteAt_21 ?_
    refine lv_istore (lv' := [(4, .int (if 0 ≤ (um_at g (a + (k / 5))) then (um_at g (a + (k / 5))) else 0 - (um_at g (a + (k / 5))))), (3, .int (um_at g (a + (k / 5)))), (0, .ref q), (1, .int a), (2, .int k)]) hx hb dM_byteAt_24 hl (by decide) rfl (fun ls hl => ?_)
    refine lv_iconst (v := 4) hx hb dM_byteAt_26 (by decide) ?_
    refine lv_iload_n hx hb dM_byteAt_27 rfl (lv_at hl 4 rfl) ?_
    refine lv_iconst (v := 5) hx hb dM_byteAt_28 (by decide) ?_
    refine lv_irem hx hb dM_byteAt_29 (by decide) ?_
    refine lv_isub hx hb dM_byteAt_30 ?_
    refine lv_istore (lv' := [(5, .int (4 - (k - k / 5 * 5))), (4, .int (if 0 ≤ (um_at g (a + (k / 5))) then (um_at g (a + (k / 5))) else 0 - (um_at g (a + (k / 5))))), (3, .int (um_at g (a + (k / 5)))), (0, .ref q), (1, .int a), (2, .int k)]) hx hb dM_byteAt_31 hl (by decide) rfl (fun ls hl => ?_)
    refine lv_iload hx hb dM_byteAt_33 (lv_at hl 1 rfl) ?_
    refine lv_iload hx hb dM_byteAt_35 (lv_at hl 0 rfl) ?_
    refine lv_bipush (v := 6) hx hb dM_byteAt_37 (by decide) ?_
    refine lv_imul hx hb dM_byteAt_39 ?_
    refine lv_ishr hx hb dM_byteAt_40 ?_
    refine lv_bipush (v := 63) hx hb dM_byteAt_41 (by decide) ?_
    refine lv_iand hx hb dM_byteAt_43 ?_
    exact ur_ri (v := (((if 0 ≤ (um_at g (a + (k / 5))) then (um_at g (a + (k / 5))) else 0 - (um_at g (a + (k / 5)))) >>> (((4 - (k - k / 5 * 5)) * 6) &&& 31)) &&& 63)) hx hb hr hlocks hI hQ ⟨(by first | (simp only [um_byte, um_size, c2, ↓reduceIte]; done) | (simp only [um_byte, um_size, c2, ↓reduceIte]; rfl) | rfl), rfl⟩ dM_byteAt_44
  · refine lv_iconst (v := 0) hx hb dM_byteAt_16 (by decide) ?_
    refine lv_goto (tgt := 24) hx hb dM_byteAt_17 (by decide) ?_
    refine lv_istore (lv' := [(4, .int 0), (3, .int (um_at g (a + (k / 5)))), (0, .ref q), (1, .int a), (2, .int k)]) hx hb dM_byteAt_24 hl (by decide) rfl (fun ls hl => ?_)
    refine lv_iconst (v := 4) hx hb dM_byteAt_26 (by decide) ?_
    refine lv_iload_n hx hb dM_byteAt_27 rfl (lv_at hl 4 rfl) ?_
    refine lv_iconst (v := 5) hx hb dM_byteAt_28 (by decide) ?_
    refine lv_irem hx hb dM_byteAt_29 (by decide) ?_
    refine lv_isub hx hb dM_byteAt_30 ?_
    refine lv_istore (lv' := [(5, .int (4 - (k - k / 5 * 5))), (4, .int 0), (3, .int (um_at g (a + (k / 5)))), (0, .ref q), (1, .int a), (2, .int k)]) hx hb dM_byteAt_31 hl (by decide) rfl (fun ls hl => ?_)
    refine lv_iload hx hb dM_byteAt_33 (lv_at hl 1 rfl) ?_
    refine lv_iload hx hb dM_byteAt_35 (lv_at hl 0 rfl) ?_
    refine lv_bipush (v := 6) hx hb dM_byteAt_37 (by decide) ?_
    refine lv_imul hx hb dM_byteAt_39 ?_
    refine lv_ishr hx hb dM_byteAt_40 ?_
    refine lv_bipush (v := 63) hx hb dM_byteAt_41 (by decide) ?_
    refine lv_iand hx hb dM_byteAt_43 ?_
    exact ur_ri (v := ((0 >>> (((4 - (k - k / 5 * 5)) * 6) &&& 31)) &&& 63)) hx hb hr hlocks hI hQ ⟨(by first | (simp only [um_byte, um_size, c2, ↓reduceIte]; done) | (simp only [um_byte, um_size, c2, ↓reduceIte]; rfl) | rfl), rfl⟩ dM_byteAt_44
