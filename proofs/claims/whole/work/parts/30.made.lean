theorem ur_zup {h : ur_M} {q w : Nat} {x : va_E} (z : va_up h q (some x) w = none) : h w = none ∧ w ≠ q := by
  by_cases e : w = q
  · subst e
    rw [va_up_self] at z
    cases z
  · rw [va_up_ne _ _ e] at z
    exact ⟨z, e⟩
theorem dM_init_0 : decode cM_init 0 = .ok (.aload_n 0, 1) := by decide +kernel
theorem dM_init_1 : decode cM_init 1 = .ok (.invokespecial 3, 3) := by decide +kernel
theorem dM_init_4 : decode cM_init 4 = .ok (.aload_n 0, 1) := by decide +kernel
theorem dM_init_5 : decode cM_init 5 = .ok (.sipush 4000, 3) := by decide +kernel
theorem dM_init_8 : decode cM_init 8 = .ok (.newarray .int, 2) := by decide +kernel
theorem dM_init_10 : decode cM_init 10 = .ok (.putfield 9, 3) := by decide +kernel
theorem dM_init_13 : decode cM_init 13 = .ok (.return_, 1) := by decide +kernel
abbrev rmkM_init : Room := { frames := 1, cells := 1, slots := 4000, locals := 20 }
set_option maxHeartbeats 4000000 in
set_option maxRecDepth 100000 in
theorem kM_init (l : Launch) (D : va_G) (E : ur_Ev) (h : ur_M) (q : Nat) (f0 : h q = some (.inr (1, [.null])))  : ur_Mv l yM_init wsM_init rmkM_init D vwCl (ur_v E) [.ref q] h (fun h2 => ∃ w, h w = none ∧ h2 = va_up (va_up h w (some (.inl (E.1 0, 4000, .inl (fun _ => 0))))) q (some (.inr (1, [.ref w])))) 1 4000 := by
  intro sz
  refine ur_of (cc := cM_init) (maxL := 1) (ret := none) (by decide) rfl (Nat.le_of_ble_eq_true rfl) ?_
  intro p e s m args below meth c ls Q hsz hx hb hml hr hlocks hnm hown hts hO hK hI hQ hl
  subst hsz
  have hV := hK.1
  have hts : ∀ w ∈ ur_G, w.before args s = true := fun w hw => hts w (List.mem_cons_of_mem _ hw)
  have hZ : ur_Z E (ur_A h s.heap.size) s s.heap := hO.1
  have hown : s.vm.findClass "UnitRoom$Memory" = some m.cls := hown
  have hin : meth.name = "<init>" := hnm
  have hl : lv_has ls 1 [(0, .ref q)] := hl
  refine lv_aload_n hx hb dM_init_0 rfl (lv_at hl 0 rfl) ?_
  refine W.objInit hx hb hown (hts _ mw31) (hts _ mw24) (hts _ mw25) rfl (hl.1.trans hml.symm) rfl dM_init_1 (Nat.le_of_ble_eq_true rfl) (Nat.le_of_ble_eq_true rfl) ?_
  refine lv_aload_n hx hb dM_init_4 rfl (lv_at hl 0 rfl) ?_
  refine lv_sipush (v := 4000) hx hb dM_init_5 (by decide) ?_
  refine ur_newa (atype := .int) (a0 := (4000, (.inl (fun _ => 0)))) hx hb (hts _ mw36) rfl 0 hV rfl rfl hI (n := 4000) (N' := 4000) (fun _ => by rfl) (by decide) rfl (by decide) (Nat.le_of_ble_eq_true rfl) (Nat.le_of_ble_eq_true rfl) dM_init_8 (fun w1 H zw1 hI => ?_)
  obtain ⟨h2, eh2⟩ : ∃ z : ur_M, z = va_up h w1 (some (.inl (E.1 0, 4000, .inl (fun _ => 0)))) := ⟨_, rfl⟩
  replace hI : ur_I D vwCl (ur_A h s.heap.size) s.heap h2 H [] := by rw [eh2]; exact hI
  have n4 : q ≠ w1 := ur_fresh f0 zw1
  have fq3 : h2 q = some (.inr (1, [.null])) := by rw [eh2]; exact (va_up_ne _ _ n4).trans f0
  have fq5 : h2 w1 = some (.inl (E.1 0, 4000, .inl (fun _ => 0))) := by rw [eh2]; exact va_up_self _ _ _
  refine ur_putF (D := D) (ci := 1) (v := .ref w1) (ty := (.array .int)) (C := "UnitRoom$Memory") (T := TM) (N := 1) hx hb hts inM tyM tyM_ok nmM hown hV hI fq3 rfl 0 (by decide) (hts _ mw32) (fun _ h9 => h9) rfl hin rfl (by decide +kernel) rfl rfl (Nat.le_of_ble_eq_true rfl) dM_init_10 (fun H locs hI => ?_)
  obtain ⟨h6, eh6⟩ : ∃ z : ur_M, z = va_up h2 q (some (.inr (1, [.ref w1]))) := ⟨_, rfl⟩
  replace hI : ur_I D vwCl (ur_A h s.heap.size) s.heap h6 H locs := by rw [eh6]; exact hI
  have fq7 : h6 q = some (.inr (1, [.ref w1])) := by rw [eh6]; exact (va_up_self _ _ _)
  have fq8 : h6 w1 = some (.inl (E.1 0, 4000, .inl (fun _ => 0))) := by rw [eh6]; exact ((va_up_ne _ _ (Ne.symm n4)).trans fq5)
  exact ur_rv hx hb hr hlocks hI hQ ⟨_, zw1, (by rw [eh6, eh2])⟩ dM_init_13
theorem dN_init_0 : decode cN_init 0 = .ok (.aload_n 0, 1) := by decide +kernel
theorem dN_init_1 : decode cN_init 1 = .ok (.invokespecial 1, 3) := by decide +kernel
theorem dN_init_4 : decode cN_init 4 = .ok (.aload_n 0, 1) := by decide +kernel
theorem dN_init_5 : decode cN_init 5 = .ok (.sipush 400, 3) := by decide +kernel
theorem dN_init_8 : decode cN_init 8 = .ok (.newarray .byte, 2) := by decide +kernel
theorem dN_init_10 : decode cN_init 10 = .ok (.putfield 7, 3) := by decide +kernel
theorem dN_init_13 : decode cN_init 13 = .ok (.aload_n 0, 1) := by decide +kernel
theorem dN_init_14 : decode cN_init 14 = .ok (.iconst 0, 1) := by decide +kernel
theorem dN_init_15 : decode cN_init 15 = .ok (.putfield 13, 3) := by decide +kernel
theorem dN_init_18 : decode cN_init 18 = .ok (.return_, 1) := by decide +kernel
abbrev rmkN_init : Room := { frames := 1, cells := 1, slots := 400, locals := 20 }
set_option maxHeartbeats 4000000 in
set_option maxRecDepth 100000 in
theorem kN_init (l : Launch) (D : va_G) (E : ur_Ev) (h : ur_M) (q : Nat) (f0 : h q = some (.inr (2, [.null, .int 0])))  : ur_Mv l yN_init wsN_init rmkN_init D vwCl (ur_v E) [.ref q] h (fun h2 => ∃ w, h w = none ∧ h2 = va_up (va_up h w (some (.inl (E.1 1, 400, .inl (fun _ => 0))))) q (some (.inr (2, [.ref w, .int 0])))) 1 400 := by
  intro sz
  refine ur_of (cc := cN_init) (maxL := 1) (ret := none) (by decide) rfl (Nat.le_of_ble_eq_true rfl) ?_
  intro p e s m args below meth c ls Q hsz hx hb hml hr hlocks hnm hown hts hO hK hI hQ hl
  subst hsz
  have hV := hK.1
  have hts : ∀ w ∈ ur_G, w.before args s = true := fun w hw => hts w (List.mem_cons_of_mem _ hw)
  have hZ : ur_Z E (ur_A h s.heap.size) s s.heap := hO.1
  have hown : s.vm.findClass "UnitRoom$InputTape" = some m.cls := hown
  have hin : meth.name = "<init>" := hnm
  have hl : lv_has ls 1 [(0, .ref q)] := hl
  refine lv_aload_n hx hb dN_init_0 rfl (lv_at hl 0 rfl) ?_
  refine W.objInit hx hb hown (hts _ mw42) (hts _ mw24) (hts _ mw25) rfl (hl.1.trans hml.symm) rfl dN_init_1 (Nat.le_of_ble_eq_true rfl) (Nat.le_of_ble_eq_true rfl) ?_
  refine lv_aload_n hx hb dN_init_4 rfl (lv_at hl 0 rfl) ?_
  refine lv_sipush (v := 400) hx hb dN_init_5 (by decide) ?_
  refine ur_newa (atype := .byte) (a0 := (400, (.inl (fun _ => 0)))) hx hb (hts _ mw50) rfl 1 hV rfl rfl hI (n := 400) (N' := 400) (fun _ => by rfl) (by decide) rfl (by decide) (Nat.le_of_ble_eq_true rfl) (Nat.le_of_ble_eq_true rfl) dN_init_8 (fun w1 H zw1 hI => ?_)
  obtain ⟨h2, eh2⟩ : ∃ z : ur_M, z = va_up h w1 (some (.inl (E.1 1, 400, .inl (fun _ => 0)))) := ⟨_, rfl⟩
  replace hI : ur_I D vwCl (ur_A h s.heap.size) s.heap h2 H [] := by rw [eh2]; exact hI
  have n4 : q ≠ w1 := ur_fresh f0 zw1
  have fq3 : h2 q = some (.inr (2, [.null, .int 0])) := by rw [eh2]; exact (va_up_ne _ _ n4).trans f0
  have fq5 : h2 w1 = some (.inl (E.1 1, 400, .inl (fun _ => 0))) := by rw [eh2]; exact va_up_self _ _ _
  refine ur_putF (D := D) (ci := 2) (v := .ref w1) (ty := (.array .byte)) (C := "UnitRoom$InputTape") (T := TN) (N := 2) hx hb hts inN tyN tyN_ok nmN hown hV hI fq3 rfl 0 (by decide) (hts _ mw43) (fun _ h9 => h9) rfl hin rfl (by decide +kernel) rfl rfl (Nat.le_of_ble_eq_true rfl) dN_init_10 (fun H locs hI => ?_)
  obtain ⟨h6, eh6⟩ : ∃ z : ur_M, z = va_up h2 q (some (.inr (2, [.ref w1, .int 0]))) := ⟨_, rfl⟩
  replace hI : ur_I D vwCl (ur_A h s.heap.size) s.heap h6 H locs := by rw [eh6]; exact hI
  have fq7 : h6 q = some (.inr (2, [.ref w1, .int 0])) := by rw [eh6]; exact (va_up_self _ _ _)
  have fq8 : h6 w1 = some (.inl (E.1 1, 400, .inl (fun _ => 0))) := by rw [eh6]; exact ((va_up_ne _ _ (Ne.symm n4)).trans fq5)
  refine lv_aload_n hx hb dN_init_13 rfl (lv_at hl 0 rfl) ?_
  refine lv_iconst (v := 0) hx hb dN_init_14 (by decide) ?_
  refine ur_put (D := D) (ci := 2) (v := .int 0) (ty := .int) (C := "UnitRoom$InputTape") (T := TN) (N := 2) hx hb hts inN tyN tyN_ok nmN hown hV hI fq7 rfl 1 (by decide) (hts _ mw44) (fun _ h9 => h9) rfl (by decide +kernel) rfl rfl (Nat.le_of_ble_eq_true rfl) dN_init_15 (fun H locs hI => ?_)
  obtain ⟨h9, eh9⟩ : ∃ z : ur_M, z = va_up h6 q (some (.inr (2, [.ref w1, .int 0]))) := ⟨_, rfl⟩
  replace hI : ur_I D vwCl (ur_A h s.heap.size) s.heap h9 H locs := by rw [eh9]; exact hI
  have fq10 : h9 q = some (.inr (2, [.ref w1, .int 0])) := by rw [eh9]; exact (va_up_self _ _ _)
  have fq11 : h9 w1 = some (.inl (E.1 1, 400, .inl (fun _ => 0))) := by rw [eh9]; exact ((va_up_ne _ _ (Ne.symm n4)).trans fq8)
  exact ur_rv hx hb hr hlocks hI hQ ⟨_, zw1, (by rw [eh9, eh6, eh2, bx_uu])⟩ dN_init_18
theorem dD_init_0 : decode cD_init 0 = .ok (.aload_n 0, 1) := by decide +kernel
theorem dD_init_1 : decode cD_init 1 = .ok (.invokespecial 1, 3) := by decide +kernel
theorem dD_init_4 : decode cD_init 4 = .ok (.aload_n 0, 1) := by decide +kernel
theorem dD_init_5 : decode cD_init 5 = .ok (.lconst 0, 1) := by decide +kernel
theorem dD_init_6 : decode cD_init 6 = .ok (.putfield 7, 3) := by decide +kernel
theorem dD_init_9 : decode cD_init 9 = .ok (.aload_n 0, 1) := by decide +kernel
theorem dD_init_10 : decode cD_init 10 = .ok (.iconst 0, 1) := by decide +kernel
theorem dD_init_11 : decode cD_init 11 = .ok (.putfield 13, 3) := by decide +kernel
theorem dD_init_14 : decode cD_init 14 = .ok (.aload_n 0, 1) := by decide +kernel
theorem dD_init_15 : decode cD_init 15 = .ok (.iconst 0, 1) := by decide +kernel
theorem dD_init_16 : decode cD_init 16 = .ok (.putfield 17, 3) := by decide +kernel
theorem dD_init_19 : decode cD_init 19 = .ok (.aload_n 0, 1) := by decide +kernel
theorem dD_init_20 : decode cD_init 20 = .ok (.iconst 0, 1) := by decide +kernel
theorem dD_init_21 : decode cD_init 21 = .ok (.putfield 21, 3) := by decide +kernel
theorem dD_init_24 : decode cD_init 24 = .ok (.aload_n 0, 1) := by decide +kernel
theorem dD_init_25 : decode cD_init 25 = .ok (.iload_n 1, 1) := by decide +kernel
theorem dD_init_26 : decode cD_init 26 = .ok (.putfield 24, 3) := by decide +kernel
theorem dD_init_29 : decode cD_init 29 = .ok (.aload_n 0, 1) := by decide +kernel
theorem dD_init_30 : decode cD_init 30 = .ok (.iload_n 2, 1) := by decide +kernel
theorem dD_init_31 : decode cD_init 31 = .ok (.putfield 27, 3) := by decide +kernel
theorem dD_init_34 : decode cD_init 34 = .ok (.aload_n 0, 1) := by decide +kernel
theorem dD_init_35 : decode cD_init 35 = .ok (.iconst 0, 1) := by decide +kernel
theorem dD_init_36 : decode cD_init 36 = .ok (.iload_n 1, 1) := by decide +kernel
theorem dD_init_37 : decode cD_init 37 = .ok (.invokestatic 30, 3) := by decide +kernel
theorem dD_init_40 : decode cD_init 40 = .ok (.newarray .int, 2) := by decide +kernel
theorem dD_init_42 : decode cD_init 42 = .ok (.putfield 36, 3) := by decide +kernel
theorem dD_init_45 : decode cD_init 45 = .ok (.return_, 1) := by decide +kernel
abbrev rmkD_init_T : Room := { frames := 1, cells := 1, slots := 100, locals := 21 }
set_option maxHeartbeats 4000000 in
set_option maxRecDepth 100000 in
theorem kD_init_T (l : Launch) (D : va_G) (E : ur_Ev) (h : ur_M) (q : Nat) (nw : Nat) (du : Int32) (f0 : h q = some (.inr (3, [.int 0, .null, .int 0, .long 0, .int 0, .int 0, .int 0, .int 0, .null]))) (hw0 : 0 < nw) (hw1 : nw ≤ 100) : ur_Mv l yD_init wsD_init rmkD_init_T D vwCl (ur_v E) [.ref q, .int (nI nw), .int du] h (fun h2 => ∃ w, h w = none ∧ h2 = va_up (va_up h w (some (.inl (E.1 0, nw, .inl (fun _ => 0))))) q (some (.inr (3, [.int (nI nw), .ref w, .int du, .long 0, .int 0, .int 0, .int 0, .int 0, .null])))) 1 100 := by
  intro sz
  refine ur_of (cc := cD_init) (maxL := 3) (ret := none) (by decide) rfl (Nat.le_of_ble_eq_true rfl) ?_
  intro p e s m args below meth c ls Q hsz hx hb hml hr hlocks hnm hown hts hO hK hI hQ hl
  subst hsz
  have hV := hK.1
  have hts : ∀ w ∈ ur_G, w.before args s = true := fun w hw => hts w (List.mem_cons_of_mem _ hw)
  have hZ : ur_Z E (ur_A h s.heap.size) s s.heap := hO.1
  have hown : s.vm.findClass "UnitRoom$Device" = some m.cls := hown
  have hin : meth.name = "<init>" := hnm
  have hl : lv_has ls 3 [(0, .ref q), (1, .int (nI nw)), (2, .int du)] := hl
  refine lv_aload_n hx hb dD_init_0 rfl (lv_at hl 0 rfl) ?_
  refine W.objInit hx hb hown (hts _ mw59) (hts _ mw24) (hts _ mw25) rfl (hl.1.trans hml.symm) rfl dD_init_1 (Nat.le_of_ble_eq_true rfl) (Nat.le_of_ble_eq_true rfl) ?_
  refine lv_aload_n hx hb dD_init_4 rfl (lv_at hl 0 rfl) ?_
  refine lv_lconst (v := 0) hx hb dD_init_5 (by decide) ?_
  refine ur_put (D := D) (ci := 3) (v := .long 0) (ty := .long) (C := "UnitRoom$Tape") (T := TT) (N := 9) hx hb hts inT tyT tyT_ok nmT hown hV hI f0 rfl 3 (by decide) (hts _ mw76) (fun _ h9 => h9) rfl (by decide +kernel) rfl rfl (Nat.le_of_ble_eq_true rfl) dD_init_6 (fun H locs hI => ?_)
  obtain ⟨h1, eh1⟩ : ∃ z : ur_M, z = va_up h q (some (.inr (3, [.int 0, .null, .int 0, .long 0, .int 0, .int 0, .int 0, .int 0, .null]))) := ⟨_, rfl⟩
  replace hI : ur_I D vwCl (ur_A h s.heap.size) s.heap h1 H locs := by rw [eh1]; exact hI
  have fq2 : h1 q = some (.inr (3, [.int 0, .null, .int 0, .long 0, .int 0, .int 0, .int 0, .int 0, .null])) := by rw [eh1]; exact (va_up_self _ _ _)
  refine lv_aload_n hx hb dD_init_9 rfl (lv_at hl 0 rfl) ?_
  refine lv_iconst (v := 0) hx hb dD_init_10 (by decide) ?_
  refine ur_put (D := D) (ci := 3) (v := .int 0) (ty := .boolean) (C := "UnitRoom$Tape") (T := TT) (N := 9) hx hb hts inT tyT tyT_ok nmT hown hV hI fq2 rfl 4 (by decide) (hts _ mw78) (fun _ h9 => h9) rfl (by decide +kernel) rfl rfl (Nat.le_of_ble_eq_true rfl) dD_init_11 (fun H locs hI => ?_)
  obtain ⟨h3, eh3⟩ : ∃ z : ur_M, z = va_up h1 q (some (.inr (3, [.int 0, .null, .int 0, .long 0, .int 0, .int 0, .int 0, .int 0, .null]))) := ⟨_, rfl⟩
  replace hI : ur_I D vwCl (ur_A h s.heap.size) s.heap h3 H locs := by rw [eh3]; exact hI
  have fq4 : h3 q = some (.inr (3, [.int 0, .null, .int 0, .long 0, .int 0, .int 0, .int 0, .int 0, .null])) := by rw [eh3]; exact (va_up_self _ _ _)
  refine lv_aload_n hx hb dD_init_14 rfl (lv_at hl 0 rfl) ?_
  refine lv_iconst (v := 0) hx hb dD_init_15 (by decide) ?_
  refine ur_put (D := D) (ci := 3) (v := .int 0) (ty := .int) (C := "UnitRoom$Tape") (T := TT) (N := 9) hx hb hts inT tyT tyT_ok nmT hown hV hI fq4 rfl 5 (by decide) (hts _ mw80) (fun _ h9 => h9) rfl (by decide +kernel) rfl rfl (Nat.le_of_ble_eq_true rfl) dD_init_16 (fun H locs hI => ?_)
  obtain ⟨h5, eh5⟩ : ∃ z : ur_M, z = va_up h3 q (some (.inr (3, [.int 0, .null, .int 0, .long 0, .int 0, .int 0, .int 0, .int 0, .null]))) := ⟨_, rfl⟩
  replace hI : ur_I D vwCl (ur_A h s.heap.size) s.heap h5 H locs := by rw [eh5]; exact hI
  have fq6 : h5 q = some (.inr (3, [.int 0, .null, .int 0, .long 0, .int 0, .int 0, .int 0, .int 0, .null])) := by rw [eh5]; exact (va_up_self _ _ _)
  refine lv_aload_n hx hb dD_init_19 rfl (lv_at hl 0 rfl) ?_
  refine lv_iconst (v := 0) hx hb dD_init_20 (by decide) ?_
  refine ur_put (D := D) (ci := 3) (v := .int 0) (ty := .int) (C := "UnitRoom$Tape") (T := TT) (N := 9) hx hb hts inT tyT tyT_ok nmT hown hV hI fq6 rfl 6 (by decide) (hts _ mw81) (fun _ h9 => h9) rfl (by decide +kernel) rfl rfl (Nat.le_of_ble_eq_true rfl) dD_init_21 (fun H locs hI => ?_)
  obtain ⟨h7, eh7⟩ : ∃ z : ur_M, z = va_up h5 q (some (.inr (3, [.int 0, .null, .int 0, .long 0, .int 0, .int 0, .int 0, .int 0, .null]))) := ⟨_, rfl⟩
  replace hI : ur_I D vwCl (ur_A h s.heap.size) s.heap h7 H locs := by rw [eh7]; exact hI
  have fq8 : h7 q = some (.inr (3, [.int 0, .null, .int 0, .long 0, .int 0, .int 0, .int 0, .int 0, .null])) := by rw [eh7]; exact (va_up_self _ _ _)
  refine lv_aload_n hx hb dD_init_24 rfl (lv_at hl 0 rfl) ?_
  refine lv_iload_n hx hb dD_init_25 rfl (lv_at hl 1 rfl) ?_
  refine ur_putF (D := D) (ci := 3) (v := .int (nI nw)) (ty := .int) (C := "UnitRoom$Tape") (T := TT) (N := 9) hx hb hts inT tyT tyT_ok nmT hown hV hI fq8 rfl 0 (by decide) (hts _ mw66) (fun _ h9 => h9) rfl hin rfl (by decide +kernel) rfl rfl (Nat.le_of_ble_eq_true rfl) dD_init_26 (fun H locs hI => ?_)
  obtain ⟨h9, eh9⟩ : ∃ z : ur_M, z = va_up h7 q (some (.inr (3, [.int (nI nw), .null, .int 0, .long 0, .int 0, .int 0, .int 0, .int 0, .null]))) := ⟨_, rfl⟩
  replace hI : ur_I D vwCl (ur_A h s.heap.size) s.heap h9 H locs := by rw [eh9]; exact hI
  have fq10 : h9 q = some (.inr (3, [.int (nI nw), .null, .int 0, .long 0, .int 0, .int 0, .int 0, .int 0, .null])) := by rw [eh9]; exact (va_up_self _ _ _)
  refine lv_aload_n hx hb dD_init_29 rfl (lv_at hl 0 rfl) ?_
  refine lv_iload_n hx hb dD_init_30 rfl (lv_at hl 2 rfl) ?_
  refine ur_putF (D := D) (ci := 3) (v := .int du) (ty := .int) (C := "UnitRoom$Tape") (T := TT) (N := 9) hx hb hts inT tyT tyT_ok nmT hown hV hI fq10 rfl 2 (by decide) (hts _ mw75) (fun _ h9 => h9) rfl hin rfl (by decide +kernel) rfl rfl (Nat.le_of_ble_eq_true rfl) dD_init_31 (fun H locs hI => ?_)
  obtain ⟨h11, eh11⟩ : ∃ z : ur_M, z = va_up h9 q (some (.inr (3, [.int (nI nw), .null, .int du, .long 0, .int 0, .int 0, .int 0, .int 0, .null]))) := ⟨_, rfl⟩
  replace hI : ur_I D vwCl (ur_A h s.heap.size) s.heap h11 H locs := by rw [eh11]; exact hI
  have fq12 : h11 q = some (.inr (3, [.int (nI nw), .null, .int du, .long 0, .int 0, .int 0, .int 0, .int 0, .null])) := by rw [eh11]; exact (va_up_self _ _ _)
  refine lv_aload_n hx hb dD_init_34 rfl (lv_at hl 0 rfl) ?_
  refine lv_iconst (v := 0) hx hb dD_init_35 (by decide) ?_
  refine lv_iload_n hx hb dD_init_36 rfl (lv_at hl 1 rfl) ?_
  refine va_mmax hx hb (hml.trans hl.1.symm) hown (hts _ mw60) (hts _ mw61) (hts _ mw6) (hts _ mw62) (Nat.le_of_ble_eq_true rfl) (Nat.le_of_ble_eq_true rfl) (Nat.le_of_ble_eq_true rfl) (Nat.le_of_ble_eq_true rfl) dD_init_37 ?_
  rw [if_pos (show (0 : Int32) < nI nw from nI_lt (a := 0) hw0 (by omega))]
  refine ur_newa (atype := .int) (a0 := (nw, (.inl (fun _ => 0)))) hx hb (hts _ mw36) rfl 0 hV rfl rfl hI (n := (nI nw)) (N' := nw) (fun _ => by rfl) (nI_pos (by omega)) (nI_clamp (by omega)) (by show nw * 4 ≤ _; omega) (Nat.le_of_ble_eq_true rfl) (by show 0 + nw ≤ 100; omega) dD_init_40 (fun w13 H zw13 hI => ?_)
  obtain ⟨h14, eh14⟩ : ∃ z : ur_M, z = va_up h11 w13 (some (.inl (E.1 0, nw, .inl (fun _ => 0)))) := ⟨_, rfl⟩
  replace hI : ur_I D vwCl (ur_A h s.heap.size) s.heap h14 H locs := by rw [eh14]; exact hI
  have n16 : q ≠ w13 := ur_fresh fq12 zw13
  have fq15 : h14 q = some (.inr (3, [.int (nI nw), .null, .int du, .long 0, .int 0, .int 0, .int 0, .int 0, .null])) := by rw [eh14]; exact (va_up_ne _ _ n16).trans fq12
  have fq17 : h14 w13 = some (.inl (E.1 0, nw, .inl (fun _ => 0))) := by rw [eh14]; exact va_up_self _ _ _
  refine W.widen (k := 1) (n := 100) (by omega) (by omega) ?_
  refine ur_putF (D := D) (ci := 3) (v := .ref w13) (ty := (.array .int)) (C := "UnitRoom$Tape") (T := TT) (N := 9) hx hb hts inT tyT tyT_ok nmT hown hV hI fq15 rfl 1 (by decide) (hts _ mw70) (fun _ h9 => h9) rfl hin rfl (by decide +kernel) rfl rfl (Nat.le_of_ble_eq_true rfl) dD_init_42 (fun H locs hI => ?_)
  obtain ⟨h18, eh18⟩ : ∃ z : ur_M, z = va_up h14 q (some (.inr (3, [.int (nI nw), .ref w13, .int du, .long 0, .int 0, .int 0, .int 0, .int 0, .null]))) := ⟨_, rfl⟩
  replace hI : ur_I D vwCl (ur_A h s.heap.size) s.heap h18 H locs := by rw [eh18]; exact hI
  have fq19 : h18 q = some (.inr (3, [.int (nI nw), .ref w13, .int du, .long 0, .int 0, .int 0, .int 0, .int 0, .null])) := by rw [eh18]; exact (va_up_self _ _ _)
  have fq20 : h18 w13 = some (.inl (E.1 0, nw, .inl (fun _ => 0))) := by rw [eh18]; exact ((va_up_ne _ _ (Ne.symm n16)).trans fq17)
  have hz9 := zw13
  rw [eh11, eh9, eh7, eh5, eh3, eh1, bx_uu, bx_uu, bx_uu, bx_uu, bx_uu] at hz9
  obtain ⟨hz9, hn9⟩ := ur_zup hz9
  exact ur_rv hx hb hr hlocks hI hQ ⟨_, hz9, (by rw [eh18, eh14, eh11, eh9, eh7, eh5, eh3, eh1, bx_uu, bx_uu, bx_uu, bx_uu, bx_uu, ur_sw (Ne.symm hn9), ur_com (Ne.symm hn9)])⟩ dD_init_45
abbrev rmkD_init_K : Room := { frames := 1, cells := 1, slots := 100, locals := 21 }
set_option maxHeartbeats 4000000 in
set_option maxRecDepth 100000 in
theorem kD_init_K (l : Launch) (D : va_G) (E : ur_Ev) (h : ur_M) (q : Nat) (nw : Nat) (du : Int32) (f0 : h q = some (.inr (4, [.int 0, .null, .int 0, .long 0, .int 0, .int 0, .int 0, .null]))) (hw0 : 0 < nw) (hw1 : nw ≤ 100) : ur_Mv l yD_init wsD_init rmkD_init_K D vwCl (ur_v E) [.ref q, .int (nI nw), .int du] h (fun h2 => ∃ w, h w = none ∧ h2 = va_up (va_up h w (some (.inl (E.1 0, nw, .inl (fun _ => 0))))) q (some (.inr (4, [.int (nI nw), .ref w, .int du, .long 0, .int 0, .int 0, .int 0, .null])))) 1 100 := by
  intro sz
  refine ur_of (cc := cD_init) (maxL := 3) (ret := none) (by decide) rfl (Nat.le_of_ble_eq_true rfl) ?_
  intro p e s m args below meth c ls Q hsz hx hb hml hr hlocks hnm hown hts hO hK hI hQ hl
  subst hsz
  have hV := hK.1
  have hts : ∀ w ∈ ur_G, w.before args s = true := fun w hw => hts w (List.mem_cons_of_mem _ hw)
  have hZ : ur_Z E (ur_A h s.heap.size) s s.heap := hO.1
  have hown : s.vm.findClass "UnitRoom$Device" = some m.cls := hown
  have hin : meth.name = "<init>" := hnm
  have hl : lv_has ls 3 [(0, .ref q), (1, .int (nI nw)), (2, .int du)] := hl
  refine lv_aload_n hx hb dD_init_0 rfl (lv_at hl 0 rfl) ?_
  refine W.objInit hx hb hown (hts _ mw59) (hts _ mw24) (hts _ mw25) rfl (hl.1.trans hml.symm) rfl dD_init_1 (Nat.le_of_ble_eq_true rfl) (Nat.le_of_ble_eq_true rfl) ?_
  refine lv_aload_n hx hb dD_init_4 rfl (lv_at hl 0 rfl) ?_
  refine lv_lconst (v := 0) hx hb dD_init_5 (by decide) ?_
  refine ur_put (D := D) (ci := 4) (v := .long 0) (ty := .long) (C := "UnitRoom$Disk") (T := TK) (N := 8) hx hb hts inK tyK tyK_ok nmK hown hV hI f0 rfl 3 (by decide) (hts _ mw76) (fun _ h9 => h9) rfl (by decide +kernel) rfl rfl (Nat.le_of_ble_eq_true rfl) dD_init_6 (fun H locs hI => ?_)
  obtain ⟨h1, eh1⟩ : ∃ z : ur_M, z = va_up h q (some (.inr (4, [.int 0, .null, .int 0, .long 0, .int 0, .int 0, .int 0, .null]))) := ⟨_, rfl⟩
  replace hI : ur_I D vwCl (ur_A h s.heap.size) s.heap h1 H locs := by rw [eh1]; exact hI
  have fq2 : h1 q = some (.inr (4, [.int 0, .null, .int 0, .long 0, .int 0, .int 0, .int 0, .null])) := by rw [eh1]; exact (va_up_self _ _ _)
  refine lv_aload_n hx hb dD_init_9 rfl (lv_at hl 0 rfl) ?_
  refine lv_iconst (v := 0) hx hb dD_init_10 (by decide) ?_
  refine ur_put (D := D) (ci := 4) (v := .int 0) (ty := .boolean) (C := "UnitRoom$Disk") (T := TK) (N := 8) hx hb hts inK tyK tyK_ok nmK hown hV hI fq2 rfl 4 (by decide) (hts _ mw78) (fun _ h9 => h9) rfl (by decide +kernel) rfl rfl (Nat.le_of_ble_eq_true rfl) dD_init_11 (fun H locs hI => ?_)
  obtain ⟨h3, eh3⟩ : ∃ z : ur_M, z = va_up h1 q (some (.inr (4, [.int 0, .null, .int 0, .long 0, .int 0, .int 0, .int 0, .null]))) := ⟨_, rfl⟩
  replace hI : ur_I D vwCl (ur_A h s.heap.size) s.heap h3 H locs := by rw [eh3]; exact hI
  have fq4 : h3 q = some (.inr (4, [.int 0, .null, .int 0, .long 0, .int 0, .int 0, .int 0, .null])) := by rw [eh3]; exact (va_up_self _ _ _)
  refine lv_aload_n hx hb dD_init_14 rfl (lv_at hl 0 rfl) ?_
  refine lv_iconst (v := 0) hx hb dD_init_15 (by decide) ?_
  refine ur_put (D := D) (ci := 4) (v := .int 0) (ty := .int) (C := "UnitRoom$Disk") (T := TK) (N := 8) hx hb hts inK tyK tyK_ok nmK hown hV hI fq4 rfl 5 (by decide) (hts _ mw80) (fun _ h9 => h9) rfl (by decide +kernel) rfl rfl (Nat.le_of_ble_eq_true rfl) dD_init_16 (fun H locs hI => ?_)
  obtain ⟨h5, eh5⟩ : ∃ z : ur_M, z = va_up h3 q (some (.inr (4, [.int 0, .null, .int 0, .long 0, .int 0, .int 0, .int 0, .null]))) := ⟨_, rfl⟩
  replace hI : ur_I D vwCl (ur_A h s.heap.size) s.heap h5 H locs := by rw [eh5]; exact hI
  have fq6 : h5 q = some (.inr (4, [.int 0, .null, .int 0, .long 0, .int 0, .int 0, .int 0, .null])) := by rw [eh5]; exact (va_up_self _ _ _)
  refine lv_aload_n hx hb dD_init_19 rfl (lv_at hl 0 rfl) ?_
  refine lv_iconst (v := 0) hx hb dD_init_20 (by decide) ?_
  refine ur_put (D := D) (ci := 4) (v := .int 0) (ty := .int) (C := "UnitRoom$Disk") (T := TK) (N := 8) hx hb hts inK tyK tyK_ok nmK hown hV hI fq6 rfl 6 (by decide) (hts _ mw81) (fun _ h9 => h9) rfl (by decide +kernel) rfl rfl (Nat.le_of_ble_eq_true rfl) dD_init_21 (fun H locs hI => ?_)
  obtain ⟨h7, eh7⟩ : ∃ z : ur_M, z = va_up h5 q (some (.inr (4, [.int 0, .null, .int 0, .long 0, .int 0, .int 0, .int 0, .null]))) := ⟨_, rfl⟩
  replace hI : ur_I D vwCl (ur_A h s.heap.size) s.heap h7 H locs := by rw [eh7]; exact hI
  have fq8 : h7 q = some (.inr (4, [.int 0, .null, .int 0, .long 0, .int 0, .int 0, .int 0, .null])) := by rw [eh7]; exact (va_up_self _ _ _)
  refine lv_aload_n hx hb dD_init_24 rfl (lv_at hl 0 rfl) ?_
  refine lv_iload_n hx hb dD_init_25 rfl (lv_at hl 1 rfl) ?_
  refine ur_putF (D := D) (ci := 4) (v := .int (nI nw)) (ty := .int) (C := "UnitRoom$Disk") (T := TK) (N := 8) hx hb hts inK tyK tyK_ok nmK hown hV hI fq8 rfl 0 (by decide) (hts _ mw66) (fun _ h9 => h9) rfl hin rfl (by decide +kernel) rfl rfl (Nat.le_of_ble_eq_true rfl) dD_init_26 (fun H locs hI => ?_)
  obtain ⟨h9, eh9⟩ : ∃ z : ur_M, z = va_up h7 q (some (.inr (4, [.int (nI nw), .null, .int 0, .long 0, .int 0, .int 0, .int 0, .null]))) := ⟨_, rfl⟩
  replace hI : ur_I D vwCl (ur_A h s.heap.size) s.heap h9 H locs := by rw [eh9]; exact hI
  have fq10 : h9 q = some (.inr (4, [.int (nI nw), .null, .int 0, .long 0, .int 0, .int 0, .int 0, .null])) := by rw [eh9]; exact (va_up_self _ _ _)
  refine lv_aload_n hx hb dD_init_29 rfl (lv_at hl 0 rfl) ?_
  refine lv_iload_n hx hb dD_init_30 rfl (lv_at hl 2 rfl) ?_
  refine ur_putF (D := D) (ci := 4) (v := .int du) (ty := .int) (C := "UnitRoom$Disk") (T := TK) (N := 8) hx hb hts inK tyK tyK_ok nmK hown hV hI fq10 rfl 2 (by decide) (hts _ mw75) (fun _ h9 => h9) rfl hin rfl (by decide +kernel) rfl rfl (Nat.le_of_ble_eq_true rfl) dD_init_31 (fun H locs hI => ?_)
  obtain ⟨h11, eh11⟩ : ∃ z : ur_M, z = va_up h9 q (some (.inr (4, [.int (nI nw), .null, .int du, .long 0, .int 0, .int 0, .int 0, .null]))) := ⟨_, rfl⟩
  replace hI : ur_I D vwCl (ur_A h s.heap.size) s.heap h11 H locs := by rw [eh11]; exact hI
  have fq12 : h11 q = some (.inr (4, [.int (nI nw), .null, .int du, .long 0, .int 0, .int 0, .int 0, .null])) := by rw [eh11]; exact (va_up_self _ _ _)
  refine lv_aload_n hx hb dD_init_34 rfl (lv_at hl 0 rfl) ?_
  refine lv_iconst (v := 0) hx hb dD_init_35 (by decide) ?_
  refine lv_iload_n hx hb dD_init_36 rfl (lv_at hl 1 rfl) ?_
  refine va_mmax hx hb (hml.trans hl.1.symm) hown (hts _ mw60) (hts _ mw61) (hts _ mw6) (hts _ mw62) (Nat.le_of_ble_eq_true rfl) (Nat.le_of_ble_eq_true rfl) (Nat.le_of_ble_eq_true rfl) (Nat.le_of_ble_eq_true rfl) dD_init_37 ?_
  rw [if_pos (show (0 : Int32) < nI nw from nI_lt (a := 0) hw0 (by omega))]
  refine ur_newa (atype := .int) (a0 := (nw, (.inl (fun _ => 0)))) hx hb (hts _ mw36) rfl 0 hV rfl rfl hI (n := (nI nw)) (N' := nw) (fun _ => by rfl) (nI_pos (by omega)) (nI_clamp (by omega)) (by show nw * 4 ≤ _; omega) (Nat.le_of_ble_eq_true rfl) (by show 0 + nw ≤ 100; omega) dD_init_40 (fun w13 H zw13 hI => ?_)
  obtain ⟨h14, eh14⟩ : ∃ z : ur_M, z = va_up h11 w13 (some (.inl (E.1 0, nw, .inl (fun _ => 0)))) := ⟨_, rfl⟩
  replace hI : ur_I D vwCl (ur_A h s.heap.size) s.heap h14 H locs := by rw [eh14]; exact hI
  have n16 : q ≠ w13 := ur_fresh fq12 zw13
  have fq15 : h14 q = some (.inr (4, [.int (nI nw), .null, .int du, .long 0, .int 0, .int 0, .int 0, .null])) := by rw [eh14]; exact (va_up_ne _ _ n16).trans fq12
  have fq17 : h14 w13 = some (.inl (E.1 0, nw, .inl (fun _ => 0))) := by rw [eh14]; exact va_up_self _ _ _
  refine W.widen (k := 1) (n := 100) (by omega) (by omega) ?_
  refine ur_putF (D := D) (ci := 4) (v := .ref w13) (ty := (.array .int)) (C := "UnitRoom$Disk") (T := TK) (N := 8) hx hb hts inK tyK tyK_ok nmK hown hV hI fq15 rfl 1 (by decide) (hts _ mw70) (fun _ h9 => h9) rfl hin rfl (by decide +kernel) rfl rfl (Nat.le_of_ble_eq_true rfl) dD_init_42 (fun H locs hI => ?_)
  obtain ⟨h18, eh18⟩ : ∃ z : ur_M, z = va_up h14 q (some (.inr (4, [.int (nI nw), .ref w13, .int du, .long 0, .int 0, .int 0, .int 0, .null]))) := ⟨_, rfl⟩
  replace hI : ur_I D vwCl (ur_A h s.heap.size) s.heap h18 H locs := by rw [eh18]; exact hI
  have fq19 : h18 q = some (.inr (4, [.int (nI nw), .ref w13, .int du, .long 0, .int 0, .int 0, .int 0, .null])) := by rw [eh18]; exact (va_up_self _ _ _)
  have fq20 : h18 w13 = some (.inl (E.1 0, nw, .inl (fun _ => 0))) := by rw [eh18]; exact ((va_up_ne _ _ (Ne.symm n16)).trans fq17)
  have hz9 := zw13
  rw [eh11, eh9, eh7, eh5, eh3, eh1, bx_uu, bx_uu, bx_uu, bx_uu, bx_uu] at hz9
  obtain ⟨hz9, hn9⟩ := ur_zup hz9
  exact ur_rv hx hb hr hlocks hI hQ ⟨_, hz9, (by rw [eh18, eh14, eh11, eh9, eh7, eh5, eh3, eh1, bx_uu, bx_uu, bx_uu, bx_uu, bx_uu, ur_sw (Ne.symm hn9), ur_com (Ne.symm hn9)])⟩ dD_init_45
abbrev rmkD_init_R : Room := { frames := 1, cells := 1, slots := 100, locals := 21 }
set_option maxHeartbeats 4000000 in
set_option maxRecDepth 100000 in
theorem kD_init_R (l : Launch) (D : va_G) (E : ur_Ev) (h : ur_M) (q : Nat) (nw : Nat) (du : Int32) (f0 : h q = some (.inr (5, [.int 0, .null, .int 0, .long 0, .int 0, .int 0, .int 0, .null, .int 0, .int 0]))) (hw0 : 0 < nw) (hw1 : nw ≤ 100) : ur_Mv l yD_init wsD_init rmkD_init_R D vwCl (ur_v E) [.ref q, .int (nI nw), .int du] h (fun h2 => ∃ w, h w = none ∧ h2 = va_up (va_up h w (some (.inl (E.1 0, nw, .inl (fun _ => 0))))) q (some (.inr (5, [.int (nI nw), .ref w, .int du, .long 0, .int 0, .int 0, .int 0, .null, .int 0, .int 0])))) 1 100 := by
  intro sz
  refine ur_of (cc := cD_init) (maxL := 3) (ret := none) (by decide) rfl (Nat.le_of_ble_eq_true rfl) ?_
  intro p e s m args below meth c ls Q hsz hx hb hml hr hlocks hnm hown hts hO hK hI hQ hl
  subst hsz
  have hV := hK.1
  have hts : ∀ w ∈ ur_G, w.before args s = true := fun w hw => hts w (List.mem_cons_of_mem _ hw)
  have hZ : ur_Z E (ur_A h s.heap.size) s s.heap := hO.1
  have hown : s.vm.findClass "UnitRoom$Device" = some m.cls := hown
  have hin : meth.name = "<init>" := hnm
  have hl : lv_has ls 3 [(0, .ref q), (1, .int (nI nw)), (2, .int du)] := hl
  refine lv_aload_n hx hb dD_init_0 rfl (lv_at hl 0 rfl) ?_
  refine W.objInit hx hb hown (hts _ mw59) (hts _ mw24) (hts _ mw25) rfl (hl.1.trans hml.symm) rfl dD_init_1 (Nat.le_of_ble_eq_true rfl) (Nat.le_of_ble_eq_true rfl) ?_
  refine lv_aload_n hx hb dD_init_4 rfl (lv_at hl 0 rfl) ?_
  refine lv_lconst (v := 0) hx hb dD_init_5 (by decide) ?_
  refine ur_put (D := D) (ci := 5) (v := .long 0) (ty := .long) (C := "UnitRoom$Reader") (T := TR) (N := 10) hx hb hts inR tyR tyR_ok nmR hown hV hI f0 rfl 3 (by decide) (hts _ mw76) (fun _ h9 => h9) rfl (by decide +kernel) rfl rfl (Nat.le_of_ble_eq_true rfl) dD_init_6 (fun H locs hI => ?_)
  obtain ⟨h1, eh1⟩ : ∃ z : ur_M, z = va_up h q (some (.inr (5, [.int 0, .null, .int 0, .long 0, .int 0, .int 0, .int 0, .null, .int 0, .int 0]))) := ⟨_, rfl⟩
  replace hI : ur_I D vwCl (ur_A h s.heap.size) s.heap h1 H locs := by rw [eh1]; exact hI
  have fq2 : h1 q = some (.inr (5, [.int 0, .null, .int 0, .long 0, .int 0, .int 0, .int 0, .null, .int 0, .int 0])) := by rw [eh1]; exact (va_up_self _ _ _)
  refine lv_aload_n hx hb dD_init_9 rfl (lv_at hl 0 rfl) ?_
  refine lv_iconst (v := 0) hx hb dD_init_10 (by decide) ?_
  refine ur_put (D := D) (ci := 5) (v := .int 0) (ty := .boolean) (C := "UnitRoom$Reader") (T := TR) (N := 10) hx hb hts inR tyR tyR_ok nmR hown hV hI fq2 rfl 4 (by decide) (hts _ mw78) (fun _ h9 => h9) rfl (by decide +kernel) rfl rfl (Nat.le_of_ble_eq_true rfl) dD_init_11 (fun H locs hI => ?_)
  obtain ⟨h3, eh3⟩ : ∃ z : ur_M, z = va_up h1 q (some (.inr (5, [.int 0, .null, .int 0, .long 0, .int 0, .int 0, .int 0, .null, .int 0, .int 0]))) := ⟨_, rfl⟩
  replace hI : ur_I D vwCl (ur_A h s.heap.size) s.heap h3 H locs := by rw [eh3]; exact hI
  have fq4 : h3 q = some (.inr (5, [.int 0, .null, .int 0, .long 0, .int 0, .int 0, .int 0, .null, .int 0, .int 0])) := by rw [eh3]; exact (va_up_self _ _ _)
  refine lv_aload_n hx hb dD_init_14 rfl (lv_at hl 0 rfl) ?_
  refine lv_iconst (v := 0) hx hb dD_init_15 (by decide) ?_
  refine ur_put (D := D) (ci := 5) (v := .int 0) (ty := .int) (C := "UnitRoom$Reader") (T := TR) (N := 10) hx hb hts inR tyR tyR_ok nmR hown hV hI fq4 rfl 5 (by decide) (hts _ mw80) (fun _ h9 => h9) rfl (by decide +kernel) rfl rfl (Nat.le_of_ble_eq_true rfl) dD_init_16 (fun H locs hI => ?_)
  obtain ⟨h5, eh5⟩ : ∃ z : ur_M, z = va_up h3 q (some (.inr (5, [.int 0, .null, .int 0, .long 0, .int 0, .int 0, .int 0, .null, .int 0, .int 0]))) := ⟨_, rfl⟩
  replace hI : ur_I D vwCl (ur_A h s.heap.size) s.heap h5 H locs := by rw [eh5]; exact hI
  have fq6 : h5 q = some (.inr (5, [.int 0, .null, .int 0, .long 0, .int 0, .int 0, .int 0, .null, .int 0, .int 0])) := by rw [eh5]; exact (va_up_self _ _ _)
  refine lv_aload_n hx hb dD_init_19 rfl (lv_at hl 0 rfl) ?_
  refine lv_iconst (v := 0) hx hb dD_init_20 (by decide) ?_
  refine ur_put (D := D) (ci := 5) (v := .int 0) (ty := .int) (C := "UnitRoom$Reader") (T := TR) (N := 10) hx hb hts inR tyR tyR_ok nmR hown hV hI fq6 rfl 6 (by decide) (hts _ mw81) (fun _ h9 => h9) rfl (by decide +kernel) rfl rfl (Nat.le_of_ble_eq_true rfl) dD_init_21 (fun H locs hI => ?_)
  obtain ⟨h7, eh7⟩ : ∃ z : ur_M, z = va_up h5 q (some (.inr (5, [.int 0, .null, .int 0, .long 0, .int 0, .int 0, .int 0, .null, .int 0, .int 0]))) := ⟨_, rfl⟩
  replace hI : ur_I D vwCl (ur_A h s.heap.size) s.heap h7 H locs := by rw [eh7]; exact hI
  have fq8 : h7 q = some (.inr (5, [.int 0, .null, .int 0, .long 0, .int 0, .int 0, .int 0, .null, .int 0, .int 0])) := by rw [eh7]; exact (va_up_self _ _ _)
  refine lv_aload_n hx hb dD_init_24 rfl (lv_at hl 0 rfl) ?_
  refine lv_iload_n hx hb dD_init_25 rfl (lv_at hl 1 rfl) ?_
  refine ur_putF (D := D) (ci := 5) (v := .int (nI nw)) (ty := .int) (C := "UnitRoom$Reader") (T := TR) (N := 10) hx hb hts inR tyR tyR_ok nmR hown hV hI fq8 rfl 0 (by decide) (hts _ mw66) (fun _ h9 => h9) rfl hin rfl (by decide +kernel) rfl rfl (Nat.le_of_ble_eq_true rfl) dD_init_26 (fun H locs hI => ?_)
  obtain ⟨h9, eh9⟩ : ∃ z : ur_M, z = va_up h7 q (some (.inr (5, [.int (nI nw), .null, .int 0, .long 0, .int 0, .int 0, .int 0, .null, .int 0, .int 0]))) := ⟨_, rfl⟩
  replace hI : ur_I D vwCl (ur_A h s.heap.size) s.heap h9 H locs := by rw [eh9]; exact hI
  have fq10 : h9 q = some (.inr (5, [.int (nI nw), .null, .int 0, .long 0, .int 0, .int 0, .int 0, .null, .int 0, .int 0])) := by rw [eh9]; exact (va_up_self _ _ _)
  refine lv_aload_n hx hb dD_init_29 rfl (lv_at hl 0 rfl) ?_
  refine lv_iload_n hx hb dD_init_30 rfl (lv_at hl 2 rfl) ?_
  refine ur_putF (D := D) (ci := 5) (v := .int du) (ty := .int) (C := "UnitRoom$Reader") (T := TR) (N := 10) hx hb hts inR tyR tyR_ok nmR hown hV hI fq10 rfl 2 (by decide) (hts _ mw75) (fun _ h9 => h9) rfl hin rfl (by decide +kernel) rfl rfl (Nat.le_of_ble_eq_true rfl) dD_init_31 (fun H locs hI => ?_)
  obtain ⟨h11, eh11⟩ : ∃ z : ur_M, z = va_up h9 q (some (.inr (5, [.int (nI nw), .null, .int du, .long 0, .int 0, .int 0, .int 0, .null, .int 0, .int 0]))) := ⟨_, rfl⟩
  replace hI : ur_I D vwCl (ur_A h s.heap.size) s.heap h11 H locs := by rw [eh11]; exact hI
  have fq12 : h11 q = some (.inr (5, [.int (nI nw), .null, .int du, .long 0, .int 0, .int 0, .int 0, .null, .int 0, .int 0])) := by rw [eh11]; exact (va_up_self _ _ _)
  refine lv_aload_n hx hb dD_init_34 rfl (lv_at hl 0 rfl) ?_
  refine lv_iconst (v := 0) hx hb dD_init_35 (by decide) ?_
  refine lv_iload_n hx hb dD_init_36 rfl (lv_at hl 1 rfl) ?_
  refine va_mmax hx hb (hml.trans hl.1.symm) hown (hts _ mw60) (hts _ mw61) (hts _ mw6) (hts _ mw62) (Nat.le_of_ble_eq_true rfl) (Nat.le_of_ble_eq_true rfl) (Nat.le_of_ble_eq_true rfl) (Nat.le_of_ble_eq_true rfl) dD_init_37 ?_
  rw [if_pos (show (0 : Int32) < nI nw from nI_lt (a := 0) hw0 (by omega))]
  refine ur_newa (atype := .int) (a0 := (nw, (.inl (fun _ => 0)))) hx hb (hts _ mw36) rfl 0 hV rfl rfl hI (n := (nI nw)) (N' := nw) (fun _ => by rfl) (nI_pos (by omega)) (nI_clamp (by omega)) (by show nw * 4 ≤ _; omega) (Nat.le_of_ble_eq_true rfl) (by show 0 + nw ≤ 100; omega) dD_init_40 (fun w13 H zw13 hI => ?_)
  obtain ⟨h14, eh14⟩ : ∃ z : ur_M, z = va_up h11 w13 (some (.inl (E.1 0, nw, .inl (fun _ => 0)))) := ⟨_, rfl⟩
  replace hI : ur_I D vwCl (ur_A h s.heap.size) s.heap h14 H locs := by rw [eh14]; exact hI
  have n16 : q ≠ w13 := ur_fresh fq12 zw13
  have fq15 : h14 q = some (.inr (5, [.int (nI nw), .null, .int du, .long 0, .int 0, .int 0, .int 0, .null, .int 0, .int 0])) := by rw [eh14]; exact (va_up_ne _ _ n16).trans fq12
  have fq17 : h14 w13 = some (.inl (E.1 0, nw, .inl (fun _ => 0))) := by rw [eh14]; exact va_up_self _ _ _
  refine W.widen (k := 1) (n := 100) (by omega) (by omega) ?_
  refine ur_putF (D := D) (ci := 5) (v := .ref w13) (ty := (.array .int)) (C := "UnitRoom$Reader") (T := TR) (N := 10) hx hb hts inR tyR tyR_ok nmR hown hV hI fq15 rfl 1 (by decide) (hts _ mw70) (fun _ h9 => h9) rfl hin rfl (by decide +kernel) rfl rfl (Nat.le_of_ble_eq_true rfl) dD_init_42 (fun H locs hI => ?_)
  obtain ⟨h18, eh18⟩ : ∃ z : ur_M, z = va_up h14 q (some (.inr (5, [.int (nI nw), .ref w13, .int du, .long 0, .int 0, .int 0, .int 0, .null, .int 0, .int 0]))) := ⟨_, rfl⟩
  replace hI : ur_I D vwCl (ur_A h s.heap.size) s.heap h18 H locs := by rw [eh18]; exact hI
  have fq19 : h18 q = some (.inr (5, [.int (nI nw), .ref w13, .int du, .long 0, .int 0, .int 0, .int 0, .null, .int 0, .int 0])) := by rw [eh18]; exact (va_up_self _ _ _)
  have fq20 : h18 w13 = some (.inl (E.1 0, nw, .inl (fun _ => 0))) := by rw [eh18]; exact ((va_up_ne _ _ (Ne.symm n16)).trans fq17)
  have hz9 := zw13
  rw [eh11, eh9, eh7, eh5, eh3, eh1, bx_uu, bx_uu, bx_uu, bx_uu, bx_uu] at hz9
  obtain ⟨hz9, hn9⟩ := ur_zup hz9
  exact ur_rv hx hb hr hlocks hI hQ ⟨_, hz9, (by rw [eh18, eh14, eh11, eh9, eh7, eh5, eh3, eh1, bx_uu, bx_uu, bx_uu, bx_uu, bx_uu, ur_sw (Ne.symm hn9), ur_com (Ne.symm hn9)])⟩ dD_init_45
abbrev rmkD_init_W : Room := { frames := 1, cells := 1, slots := 100, locals := 21 }
set_option maxHeartbeats 4000000 in
set_option maxRecDepth 100000 in
theorem kD_init_W (l : Launch) (D : va_G) (E : ur_Ev) (h : ur_M) (q : Nat) (nw : Nat) (du : Int32) (f0 : h q = some (.inr (6, [.int 0, .null, .int 0, .long 0, .int 0, .int 0, .int 0, .null, .int 0, .int 0]))) (hw0 : 0 < nw) (hw1 : nw ≤ 100) : ur_Mv l yD_init wsD_init rmkD_init_W D vwCl (ur_v E) [.ref q, .int (nI nw), .int du] h (fun h2 => ∃ w, h w = none ∧ h2 = va_up (va_up h w (some (.inl (E.1 0, nw, .inl (fun _ => 0))))) q (some (.inr (6, [.int (nI nw), .ref w, .int du, .long 0, .int 0, .int 0, .int 0, .null, .int 0, .int 0])))) 1 100 := by
  intro sz
  refine ur_of (cc := cD_init) (maxL := 3) (ret := none) (by decide) rfl (Nat.le_of_ble_eq_true rfl) ?_
  intro p e s m args below meth c ls Q hsz hx hb hml hr hlocks hnm hown hts hO hK hI hQ hl
  subst hsz
  have hV := hK.1
  have hts : ∀ w ∈ ur_G, w.before args s = true := fun w hw => hts w (List.mem_cons_of_mem _ hw)
  have hZ : ur_Z E (ur_A h s.heap.size) s s.heap := hO.1
  have hown : s.vm.findClass "UnitRoom$Device" = some m.cls := hown
  have hin : meth.name = "<init>" := hnm
  have hl : lv_has ls 3 [(0, .ref q), (1, .int (nI nw)), (2, .int du)] := hl
  refine lv_aload_n hx hb dD_init_0 rfl (lv_at hl 0 rfl) ?_
  refine W.objInit hx hb hown (hts _ mw59) (hts _ mw24) (hts _ mw25) rfl (hl.1.trans hml.symm) rfl dD_init_1 (Nat.le_of_ble_eq_true rfl) (Nat.le_of_ble_eq_true rfl) ?_
  refine lv_aload_n hx hb dD_init_4 rfl (lv_at hl 0 rfl) ?_
  refine lv_lconst (v := 0) hx hb dD_init_5 (by decide) ?_
  refine ur_put (D := D) (ci := 6) (v := .long 0) (ty := .long) (C := "UnitRoom$Writer") (T := TW) (N := 10) hx hb hts inW tyW tyW_ok nmW hown hV hI f0 rfl 3 (by decide) (hts _ mw76) (fun _ h9 => h9) rfl (by decide +kernel) rfl rfl (Nat.le_of_ble_eq_true rfl) dD_init_6 (fun H locs hI => ?_)
  obtain ⟨h1, eh1⟩ : ∃ z : ur_M, z = va_up h q (some (.inr (6, [.int 0, .null, .int 0, .long 0, .int 0, .int 0, .int 0, .null, .int 0, .int 0]))) := ⟨_, rfl⟩
  replace hI : ur_I D vwCl (ur_A h s.heap.size) s.heap h1 H locs := by rw [eh1]; exact hI
  have fq2 : h1 q = some (.inr (6, [.int 0, .null, .int 0, .long 0, .int 0, .int 0, .int 0, .null, .int 0, .int 0])) := by rw [eh1]; exact (va_up_self _ _ _)
  refine lv_aload_n hx hb dD_init_9 rfl (lv_at hl 0 rfl) ?_
  refine lv_iconst (v := 0) hx hb dD_init_10 (by decide) ?_
  refine ur_put (D := D) (ci := 6) (v := .int 0) (ty := .boolean) (C := "UnitRoom$Writer") (T := TW) (N := 10) hx hb hts inW tyW tyW_ok nmW hown hV hI fq2 rfl 4 (by decide) (hts _ mw78) (fun _ h9 => h9) rfl (by decide +kernel) rfl rfl (Nat.le_of_ble_eq_true rfl) dD_init_11 (fun H locs hI => ?_)
  obtain ⟨h3, eh3⟩ : ∃ z : ur_M, z = va_up h1 q (some (.inr (6, [.int 0, .null, .int 0, .long 0, .int 0, .int 0, .int 0, .null, .int 0, .int 0]))) := ⟨_, rfl⟩
  replace hI : ur_I D vwCl (ur_A h s.heap.size) s.heap h3 H locs := by rw [eh3]; exact hI
  have fq4 : h3 q = some (.inr (6, [.int 0, .null, .int 0, .long 0, .int 0, .int 0, .int 0, .null, .int 0, .int 0])) := by rw [eh3]; exact (va_up_self _ _ _)
  refine lv_aload_n hx hb dD_init_14 rfl (lv_at hl 0 rfl) ?_
  refine lv_iconst (v := 0) hx hb dD_init_15 (by decide) ?_
  refine ur_put (D := D) (ci := 6) (v := .int 0) (ty := .int) (C := "UnitRoom$Writer") (T := TW) (N := 10) hx hb hts inW tyW tyW_ok nmW hown hV hI fq4 rfl 5 (by decide) (hts _ mw80) (fun _ h9 => h9) rfl (by decide +kernel) rfl rfl (Nat.le_of_ble_eq_true rfl) dD_init_16 (fun H locs hI => ?_)
  obtain ⟨h5, eh5⟩ : ∃ z : ur_M, z = va_up h3 q (some (.inr (6, [.int 0, .null, .int 0, .long 0, .int 0, .int 0, .int 0, .null, .int 0, .int 0]))) := ⟨_, rfl⟩
  replace hI : ur_I D vwCl (ur_A h s.heap.size) s.heap h5 H locs := by rw [eh5]; exact hI
  have fq6 : h5 q = some (.inr (6, [.int 0, .null, .int 0, .long 0, .int 0, .int 0, .int 0, .null, .int 0, .int 0])) := by rw [eh5]; exact (va_up_self _ _ _)
  refine lv_aload_n hx hb dD_init_19 rfl (lv_at hl 0 rfl) ?_
  refine lv_iconst (v := 0) hx hb dD_init_20 (by decide) ?_
  refine ur_put (D := D) (ci := 6) (v := .int 0) (ty := .int) (C := "UnitRoom$Writer") (T := TW) (N := 10) hx hb hts inW tyW tyW_ok nmW hown hV hI fq6 rfl 6 (by decide) (hts _ mw81) (fun _ h9 => h9) rfl (by decide +kernel) rfl rfl (Nat.le_of_ble_eq_true rfl) dD_init_21 (fun H locs hI => ?_)
  obtain ⟨h7, eh7⟩ : ∃ z : ur_M, z = va_up h5 q (some (.inr (6, [.int 0, .null, .int 0, .long 0, .int 0, .int 0, .int 0, .null, .int 0, .int 0]))) := ⟨_, rfl⟩
  replace hI : ur_I D vwCl (ur_A h s.heap.size) s.heap h7 H locs := by rw [eh7]; exact hI
  have fq8 : h7 q = some (.inr (6, [.int 0, .null, .int 0, .long 0, .int 0, .int 0, .int 0, .null, .int 0, .int 0])) := by rw [eh7]; exact (va_up_self _ _ _)
  refine lv_aload_n hx hb dD_init_24 rfl (lv_at hl 0 rfl) ?_
  refine lv_iload_n hx hb dD_init_25 rfl (lv_at hl 1 rfl) ?_
  refine ur_putF (D := D) (ci := 6) (v := .int (nI nw)) (ty := .int) (C := "UnitRoom$Writer") (T := TW) (N := 10) hx hb hts inW tyW tyW_ok nmW hown hV hI fq8 rfl 0 (by decide) (hts _ mw66) (fun _ h9 => h9) rfl hin rfl (by decide +kernel) rfl rfl (Nat.le_of_ble_eq_true rfl) dD_init_26 (fun H locs hI => ?_)
  obtain ⟨h9, eh9⟩ : ∃ z : ur_M, z = va_up h7 q (some (.inr (6, [.int (nI nw), .null, .int 0, .long 0, .int 0, .int 0, .int 0, .null, .int 0, .int 0]))) := ⟨_, rfl⟩
  replace hI : ur_I D vwCl (ur_A h s.heap.size) s.heap h9 H locs := by rw [eh9]; exact hI
  have fq10 : h9 q = some (.inr (6, [.int (nI nw), .null, .int 0, .long 0, .int 0, .int 0, .int 0, .null, .int 0, .int 0])) := by rw [eh9]; exact (va_up_self _ _ _)
  refine lv_aload_n hx hb dD_init_29 rfl (lv_at hl 0 rfl) ?_
  refine lv_iload_n hx hb dD_init_30 rfl (lv_at hl 2 rfl) ?_
  refine ur_putF (D := D) (ci := 6) (v := .int du) (ty := .int) (C := "UnitRoom$Writer") (T := TW) (N := 10) hx hb hts inW tyW tyW_ok nmW hown hV hI fq10 rfl 2 (by decide) (hts _ mw75) (fun _ h9 => h9) rfl hin rfl (by decide +kernel) rfl rfl (Nat.le_of_ble_eq_true rfl) dD_init_31 (fun H locs hI => ?_)
  obtain ⟨h11, eh11⟩ : ∃ z : ur_M, z = va_up h9 q (some (.inr (6, [.int (nI nw), .null, .int du, .long 0, .int 0, .int 0, .int 0, .null, .int 0, .int 0]))) := ⟨_, rfl⟩
  replace hI : ur_I D vwCl (ur_A h s.heap.size) s.heap h11 H locs := by rw [eh11]; exact hI
  have fq12 : h11 q = some (.inr (6, [.int (nI nw), .null, .int du, .long 0, .int 0, .int 0, .int 0, .null, .int 0, .int 0])) := by rw [eh11]; exact (va_up_self _ _ _)
  refine lv_aload_n hx hb dD_init_34 rfl (lv_at hl 0 rfl) ?_
  refine lv_iconst (v := 0) hx hb dD_init_35 (by decide) ?_
  refine lv_iload_n hx hb dD_init_36 rfl (lv_at hl 1 rfl) ?_
  refine va_mmax hx hb (hml.trans hl.1.symm) hown (hts _ mw60) (hts _ mw61) (hts _ mw6) (hts _ mw62) (Nat.le_of_ble_eq_true rfl) (Nat.le_of_ble_eq_true rfl) (Nat.le_of_ble_eq_true rfl) (Nat.le_of_ble_eq_true rfl) dD_init_37 ?_
  rw [if_pos (show (0 : Int32) < nI nw from nI_lt (a := 0) hw0 (by omega))]
  refine ur_newa (atype := .int) (a0 := (nw, (.inl (fun _ => 0)))) hx hb (hts _ mw36) rfl 0 hV rfl rfl hI (n := (nI nw)) (N' := nw) (fun _ => by rfl) (nI_pos (by omega)) (nI_clamp (by omega)) (by show nw * 4 ≤ _; omega) (Nat.le_of_ble_eq_true rfl) (by show 0 + nw ≤ 100; omega) dD_init_40 (fun w13 H zw13 hI => ?_)
  obtain ⟨h14, eh14⟩ : ∃ z : ur_M, z = va_up h11 w13 (some (.inl (E.1 0, nw, .inl (fun _ => 0)))) := ⟨_, rfl⟩
  replace hI : ur_I D vwCl (ur_A h s.heap.size) s.heap h14 H locs := by rw [eh14]; exact hI
  have n16 : q ≠ w13 := ur_fresh fq12 zw13
  have fq15 : h14 q = some (.inr (6, [.int (nI nw), .null, .int du, .long 0, .int 0, .int 0, .int 0, .null, .int 0, .int 0])) := by rw [eh14]; exact (va_up_ne _ _ n16).trans fq12
  have fq17 : h14 w13 = some (.inl (E.1 0, nw, .inl (fun _ => 0))) := by rw [eh14]; exact va_up_self _ _ _
  refine W.widen (k := 1) (n := 100) (by omega) (by omega) ?_
  refine ur_putF (D := D) (ci := 6) (v := .ref w13) (ty := (.array .int)) (C := "UnitRoom$Writer") (T := TW) (N := 10) hx hb hts inW tyW tyW_ok nmW hown hV hI fq15 rfl 1 (by decide) (hts _ mw70) (fun _ h9 => h9) rfl hin rfl (by decide +kernel) rfl rfl (Nat.le_of_ble_eq_true rfl) dD_init_42 (fun H locs hI => ?_)
  obtain ⟨h18, eh18⟩ : ∃ z : ur_M, z = va_up h14 q (some (.inr (6, [.int (nI nw), .ref w13, .int du, .long 0, .int 0, .int 0, .int 0, .null, .int 0, .int 0]))) := ⟨_, rfl⟩
  replace hI : ur_I D vwCl (ur_A h s.heap.size) s.heap h18 H locs := by rw [eh18]; exact hI
  have fq19 : h18 q = some (.inr (6, [.int (nI nw), .ref w13, .int du, .long 0, .int 0, .int 0, .int 0, .null, .int 0, .int 0])) := by rw [eh18]; exact (va_up_self _ _ _)
  have fq20 : h18 w13 = some (.inl (E.1 0, nw, .inl (fun _ => 0))) := by rw [eh18]; exact ((va_up_ne _ _ (Ne.symm n16)).trans fq17)
  have hz9 := zw13
  rw [eh11, eh9, eh7, eh5, eh3, eh1, bx_uu, bx_uu, bx_uu, bx_uu, bx_uu] at hz9
  obtain ⟨hz9, hn9⟩ := ur_zup hz9
  exact ur_rv hx hb hr hlocks hI hQ ⟨_, hz9, (by rw [eh18, eh14, eh11, eh9, eh7, eh5, eh3, eh1, bx_uu, bx_uu, bx_uu, bx_uu, bx_uu, ur_sw (Ne.symm hn9), ur_com (Ne.symm hn9)])⟩ dD_init_45
theorem dB_init_0 : decode cB_init 0 = .ok (.aload_n 0, 1) := by decide +kernel
theorem dB_init_1 : decode cB_init 1 = .ok (.bipush 100, 2) := by decide +kernel
theorem dB_init_3 : decode cB_init 3 = .ok (.iload_n 1, 1) := by decide +kernel
theorem dB_init_4 : decode cB_init 4 = .ok (.invokespecial 5, 3) := by decide +kernel
theorem dB_init_7 : decode cB_init 7 = .ok (.aload_n 0, 1) := by decide +kernel
theorem dB_init_8 : decode cB_init 8 = .ok (.bipush 64, 2) := by decide +kernel
theorem dB_init_10 : decode cB_init 10 = .ok (.anewarray 11, 3) := by decide +kernel
theorem dB_init_13 : decode cB_init 13 = .ok (.putfield 13, 3) := by decide +kernel
theorem dB_init_16 : decode cB_init 16 = .ok (.return_, 1) := by decide +kernel
abbrev rmkB_init_T : Room := { frames := 2, cells := 2, slots := 164, locals := 43 }
set_option maxHeartbeats 4000000 in
set_option maxRecDepth 100000 in
theorem kB_init_T (l : Launch) (D : va_G) (E : ur_Ev) (h : ur_M) (q : Nat) (du : Int32) (f0 : h q = some (.inr (3, [.int 0, .null, .int 0, .long 0, .int 0, .int 0, .int 0, .int 0, .null])))  : ur_Mv l yB_init wsB_init rmkB_init_T D vwCl (ur_v E) [.ref q, .int du] h (fun h2 => ∃ w w2, h w = none ∧ h w2 = none ∧ w2 ≠ w ∧ h2 = va_up (va_up (va_up h w (some (.inl (E.1 0, 100, .inl (fun _ => 0))))) w2 (some (.inl (E.1 3, 64, .inr (.inr (.inr (.inr (fun _ => none)))))))) q (some (.inr (3, [.int 100, .ref w, .int du, .long 0, .int 0, .int 0, .int 0, .int 0, .ref w2])))) 2 164 := by
  intro sz
  refine ur_of (cc := cB_init) (maxL := 2) (ret := none) (by decide) rfl (Nat.le_of_ble_eq_true rfl) ?_
  intro p e s m args below meth c ls Q hsz hx hb hml hr hlocks hnm hown hts hO hK hI hQ hl
  subst hsz
  have hV := hK.1
  have hts : ∀ w ∈ ur_G, w.before args s = true := fun w hw => hts w (List.mem_cons_of_mem _ hw)
  have hZ : ur_Z E (ur_A h s.heap.size) s s.heap := hO.1
  have hown : s.vm.findClass "UnitRoom$BlockDevice" = some m.cls := hown
  have hin : meth.name = "<init>" := hnm
  have hl : lv_has ls 2 [(0, .ref q), (1, .int du)] := hl
  refine lv_aload_n hx hb dB_init_0 rfl (lv_at hl 0 rfl) ?_
  refine lv_bipush (v := 100) hx hb dB_init_1 (by decide) ?_
  refine lv_iload_n hx hb dB_init_3 rfl (lv_at hl 1 rfl) ?_
  refine ur_xv (va_runI (As := [.int 100, .int du]) (rest := []) ⟨hx, hb, hml, hown, hts⟩ (kD_init_T l D E h q 100 du f0 (by first | assumption | omega | decide) (by first | assumption | omega | decide) s.heap.size) (cwI 2 hts (ur_gI mw58) rfl rfl rfl (hts _ mw4) (hts _ mw113) (hts _ mw57) rfl (by decide +kernel) ⟨(Nat.le_of_ble_eq_true rfl), (Nat.le_of_ble_eq_true rfl)⟩) ⟨ur_blind, ur_pre hI hO hK (fun _ _ q => q)⟩ rfl rfl hl.1 rfl (lv_room (Nat.le_of_ble_eq_true rfl)) dB_init_4 ⟨Nat.le_of_ble_eq_true rfl, Nat.le_of_ble_eq_true rfl⟩) hI (fun h1 H locs p1 hI => ?_)
  obtain ⟨w2, zw2, eh1⟩ := p1
  have ne2 : q ≠ w2 := ur_fresh f0 zw2
  have fq2 : h1 q = some (.inr (3, [.int (nI 100), .ref w2, .int du, .long 0, .int 0, .int 0, .int 0, .int 0, .null])) := by rw [eh1]; exact va_up_self _ _ _
  have fa2 : h1 w2 = some (.inl (E.1 0, 100, .inl (fun _ => 0))) := by rw [eh1]; exact (va_up_ne _ _ (Ne.symm ne2)).trans (va_up_self _ _ _)
  refine lv_aload_n hx hb dB_init_7 rfl (lv_at hl 0 rfl) ?_
  refine lv_bipush (v := 64) hx hb dB_init_8 (by decide) ?_
  refine ur_newA (t := .int) hx hb hown (hts _ mw114) (hK.2.1.2.2.2.2.1 (.array .int) (by decide)) 3 hV rfl hI (n := 64) (N' := 64) (by decide) rfl (by decide) (Nat.le_of_ble_eq_true rfl) (Nat.le_of_ble_eq_true rfl) dB_init_10 (fun w3 H zw3 hI => ?_)
  obtain ⟨h4, eh4⟩ : ∃ z : ur_M, z = va_up h1 w3 (some (.inl (E.1 3, 64, .inr (.inr (.inr (.inr (fun _ => none))))))) := ⟨_, rfl⟩
  replace hI : ur_I D vwCl (ur_A h s.heap.size) s.heap h4 H locs := by rw [eh4]; exact hI
  have n6 : q ≠ w3 := ur_fresh fq2 zw3
  have fq5 : h4 q = some (.inr (3, [.int (nI 100), .ref w2, .int du, .long 0, .int 0, .int 0, .int 0, .int 0, .null])) := by rw [eh4]; exact (va_up_ne _ _ n6).trans fq2
  have n8 : w2 ≠ w3 := ur_fresh fa2 zw3
  have fq7 : h4 w2 = some (.inl (E.1 0, 100, .inl (fun _ => 0))) := by rw [eh4]; exact (va_up_ne _ _ n8).trans fa2
  have fq9 : h4 w3 = some (.inl (E.1 3, 64, .inr (.inr (.inr (.inr (fun _ => none)))))) := by rw [eh4]; exact va_up_self _ _ _
  refine ur_putF (D := D) (ci := 3) (v := .ref w3) (ty := (.array (.array .int))) (C := "UnitRoom$Tape") (T := TT) (N := 9) hx hb hts inT tyT tyT_ok nmT hown hV hI fq5 rfl 8 (by decide) (hts _ mw117) (fun _ h9 => h9) rfl hin rfl (by decide +kernel) rfl rfl (Nat.le_of_ble_eq_true rfl) dB_init_13 (fun H locs hI => ?_)
  obtain ⟨h10, eh10⟩ : ∃ z : ur_M, z = va_up h4 q (some (.inr (3, [.int (nI 100), .ref w2, .int du, .long 0, .int 0, .int 0, .int 0, .int 0, .ref w3]))) := ⟨_, rfl⟩
  replace hI : ur_I D vwCl (ur_A h s.heap.size) s.heap h10 H locs := by rw [eh10]; exact hI
  have fq11 : h10 q = some (.inr (3, [.int (nI 100), .ref w2, .int du, .long 0, .int 0, .int 0, .int 0, .int 0, .ref w3])) := by rw [eh10]; exact (va_up_self _ _ _)
  have fq12 : h10 w2 = some (.inl (E.1 0, 100, .inl (fun _ => 0))) := by rw [eh10]; exact ((va_up_ne _ _ (Ne.symm ne2)).trans fq7)
  have fq13 : h10 w3 = some (.inl (E.1 3, 64, .inr (.inr (.inr (.inr (fun _ => none)))))) := by rw [eh10]; exact ((va_up_ne _ _ (Ne.symm n6)).trans fq9)
  have hz9 := zw3
  rw [eh1] at hz9
  obtain ⟨hz9, hn9⟩ := ur_zup hz9
  obtain ⟨hz9, hn8⟩ := ur_zup hz9
  exact ur_rv hx hb hr hlocks hI hQ ⟨_, _, zw2, hz9, hn8, (by rw [eh10, eh4, eh1, ur_sw (Ne.symm hn9), ur_com (Ne.symm hn9)]; try rfl)⟩ dB_init_16
abbrev rmkB_init_K : Room := { frames := 2, cells := 2, slots := 164, locals := 43 }
set_option maxHeartbeats 4000000 in
set_option maxRecDepth 100000 in
theorem kB_init_K (l : Launch) (D : va_G) (E : ur_Ev) (h : ur_M) (q : Nat) (du : Int32) (f0 : h q = some (.inr (4, [.int 0, .null, .int 0, .long 0, .int 0, .int 0, .int 0, .null])))  : ur_Mv l yB_init wsB_init rmkB_init_K D vwCl (ur_v E) [.ref q, .int du] h (fun h2 => ∃ w w2, h w = none ∧ h w2 = none ∧ w2 ≠ w ∧ h2 = va_up (va_up (va_up h w (some (.inl (E.1 0, 100, .inl (fun _ => 0))))) w2 (some (.inl (E.1 3, 64, .inr (.inr (.inr (.inr (fun _ => none)))))))) q (some (.inr (4, [.int 100, .ref w, .int du, .long 0, .int 0, .int 0, .int 0, .ref w2])))) 2 164 := by
  intro sz
  refine ur_of (cc := cB_init) (maxL := 2) (ret := none) (by decide) rfl (Nat.le_of_ble_eq_true rfl) ?_
  intro p e s m args below meth c ls Q hsz hx hb hml hr hlocks hnm hown hts hO hK hI hQ hl
  subst hsz
  have hV := hK.1
  have hts : ∀ w ∈ ur_G, w.before args s = true := fun w hw => hts w (List.mem_cons_of_mem _ hw)
  have hZ : ur_Z E (ur_A h s.heap.size) s s.heap := hO.1
  have hown : s.vm.findClass "UnitRoom$BlockDevice" = some m.cls := hown
  have hin : meth.name = "<init>" := hnm
  have hl : lv_has ls 2 [(0, .ref q), (1, .int du)] := hl
  refine lv_aload_n hx hb dB_init_0 rfl (lv_at hl 0 rfl) ?_
  refine lv_bipush (v := 100) hx hb dB_init_1 (by decide) ?_
  refine lv_iload_n hx hb dB_init_3 rfl (lv_at hl 1 rfl) ?_
  refine ur_xv (va_runI (As := [.int 100, .int du]) (rest := []) ⟨hx, hb, hml, hown, hts⟩ (kD_init_K l D E h q 100 du f0 (by first | assumption | omega | decide) (by first | assumption | omega | decide) s.heap.size) (cwI 2 hts (ur_gI mw58) rfl rfl rfl (hts _ mw4) (hts _ mw113) (hts _ mw57) rfl (by decide +kernel) ⟨(Nat.le_of_ble_eq_true rfl), (Nat.le_of_ble_eq_true rfl)⟩) ⟨ur_blind, ur_pre hI hO hK (fun _ _ q => q)⟩ rfl rfl hl.1 rfl (lv_room (Nat.le_of_ble_eq_true rfl)) dB_init_4 ⟨Nat.le_of_ble_eq_true rfl, Nat.le_of_ble_eq_true rfl⟩) hI (fun h1 H locs p1 hI => ?_)
  obtain ⟨w2, zw2, eh1⟩ := p1
  have ne2 : q ≠ w2 := ur_fresh f0 zw2
  have fq2 : h1 q = some (.inr (4, [.int (nI 100), .ref w2, .int du, .long 0, .int 0, .int 0, .int 0, .null])) := by rw [eh1]; exact va_up_self _ _ _
  have fa2 : h1 w2 = some (.inl (E.1 0, 100, .inl (fun _ => 0))) := by rw [eh1]; exact (va_up_ne _ _ (Ne.symm ne2)).trans (va_up_self _ _ _)
  refine lv_aload_n hx hb dB_init_7 rfl (lv_at hl 0 rfl) ?_
  refine lv_bipush (v := 64) hx hb dB_init_8 (by decide) ?_
  refine ur_newA (t := .int) hx hb hown (hts _ mw114) (hK.2.1.2.2.2.2.1 (.array .int) (by decide)) 3 hV rfl hI (n := 64) (N' := 64) (by decide) rfl (by decide) (Nat.le_of_ble_eq_true rfl) (Nat.le_of_ble_eq_true rfl) dB_init_10 (fun w3 H zw3 hI => ?_)
  obtain ⟨h4, eh4⟩ : ∃ z : ur_M, z = va_up h1 w3 (some (.inl (E.1 3, 64, .inr (.inr (.inr (.inr (fun _ => none))))))) := ⟨_, rfl⟩
  replace hI : ur_I D vwCl (ur_A h s.heap.size) s.heap h4 H locs := by rw [eh4]; exact hI
  have n6 : q ≠ w3 := ur_fresh fq2 zw3
  have fq5 : h4 q = some (.inr (4, [.int (nI 100), .ref w2, .int du, .long 0, .int 0, .int 0, .int 0, .null])) := by rw [eh4]; exact (va_up_ne _ _ n6).trans fq2
  have n8 : w2 ≠ w3 := ur_fresh fa2 zw3
  have fq7 : h4 w2 = some (.inl (E.1 0, 100, .inl (fun _ => 0))) := by rw [eh4]; exact (va_up_ne _ _ n8).trans fa2
  have fq9 : h4 w3 = some (.inl (E.1 3, 64, .inr (.inr (.inr (.inr (fun _ => none)))))) := by rw [eh4]; exact va_up_self _ _ _
  refine ur_putF (D := D) (ci := 4) (v := .ref w3) (ty := (.array (.array .int))) (C := "UnitRoom$Disk") (T := TK) (N := 8) hx hb hts inK tyK tyK_ok nmK hown hV hI fq5 rfl 7 (by decide) (hts _ mw117) (fun _ h9 => h9) rfl hin rfl (by decide +kernel) rfl rfl (Nat.le_of_ble_eq_true rfl) dB_init_13 (fun H locs hI => ?_)
  obtain ⟨h10, eh10⟩ : ∃ z : ur_M, z = va_up h4 q (some (.inr (4, [.int (nI 100), .ref w2, .int du, .long 0, .int 0, .int 0, .int 0, .ref w3]))) := ⟨_, rfl⟩
  replace hI : ur_I D vwCl (ur_A h s.heap.size) s.heap h10 H locs := by rw [eh10]; exact hI
  have fq11 : h10 q = some (.inr (4, [.int (nI 100), .ref w2, .int du, .long 0, .int 0, .int 0, .int 0, .ref w3])) := by rw [eh10]; exact (va_up_self _ _ _)
  have fq12 : h10 w2 = some (.inl (E.1 0, 100, .inl (fun _ => 0))) := by rw [eh10]; exact ((va_up_ne _ _ (Ne.symm ne2)).trans fq7)
  have fq13 : h10 w3 = some (.inl (E.1 3, 64, .inr (.inr (.inr (.inr (fun _ => none)))))) := by rw [eh10]; exact ((va_up_ne _ _ (Ne.symm n6)).trans fq9)
  have hz9 := zw3
  rw [eh1] at hz9
  obtain ⟨hz9, hn9⟩ := ur_zup hz9
  obtain ⟨hz9, hn8⟩ := ur_zup hz9
  exact ur_rv hx hb hr hlocks hI hQ ⟨_, _, zw2, hz9, hn8, (by rw [eh10, eh4, eh1, ur_sw (Ne.symm hn9), ur_com (Ne.symm hn9)]; try rfl)⟩ dB_init_16
theorem dT_init_0 : decode cT_init 0 = .ok (.aload_n 0, 1) := by decide +kernel
theorem dT_init_1 : decode cT_init 1 = .ok (.sipush 500, 3) := by decide +kernel
theorem dT_init_4 : decode cT_init 4 = .ok (.invokespecial 3, 3) := by decide +kernel
theorem dT_init_7 : decode cT_init 7 = .ok (.aload_n 0, 1) := by decide +kernel
theorem dT_init_8 : decode cT_init 8 = .ok (.iconst 0, 1) := by decide +kernel
theorem dT_init_9 : decode cT_init 9 = .ok (.putfield 9, 3) := by decide +kernel
theorem dT_init_12 : decode cT_init 12 = .ok (.return_, 1) := by decide +kernel
abbrev rmkT_init : Room := { frames := 3, cells := 2, slots := 164, locals := 64 }
set_option maxHeartbeats 4000000 in
set_option maxRecDepth 100000 in
theorem kT_init (l : Launch) (D : va_G) (E : ur_Ev) (h : ur_M) (q : Nat) (f0 : h q = some (.inr (3, [.int 0, .null, .int 0, .long 0, .int 0, .int 0, .int 0, .int 0, .null])))  : ur_Mv l yT_init wsT_init rmkT_init D vwCl (ur_v E) [.ref q] h (fun h2 => ∃ w w2, h w = none ∧ h w2 = none ∧ w2 ≠ w ∧ h2 = va_up (va_up (va_up h w (some (.inl (E.1 0, 100, .inl (fun _ => 0))))) w2 (some (.inl (E.1 3, 64, .inr (.inr (.inr (.inr (fun _ => none)))))))) q (some (.inr (3, [.int 100, .ref w, .int 500, .long 0, .int 0, .int 0, .int 0, .int 0, .ref w2])))) 2 164 := by
  intro sz
  refine ur_of (cc := cT_init) (maxL := 1) (ret := none) (by decide) rfl (Nat.le_of_ble_eq_true rfl) ?_
  intro p e s m args below meth c ls Q hsz hx hb hml hr hlocks hnm hown hts hO hK hI hQ hl
  subst hsz
  have hV := hK.1
  have hts : ∀ w ∈ ur_G, w.before args s = true := fun w hw => hts w (List.mem_cons_of_mem _ hw)
  have hZ : ur_Z E (ur_A h s.heap.size) s s.heap := hO.1
  have hown : s.vm.findClass "UnitRoom$Tape" = some m.cls := hown
  have hin : meth.name = "<init>" := hnm
  have hl : lv_has ls 1 [(0, .ref q)] := hl
  refine lv_aload_n hx hb dT_init_0 rfl (lv_at hl 0 rfl) ?_
  refine lv_sipush (v := 500) hx hb dT_init_1 (by decide) ?_
  refine ur_xv (va_runI (As := [.int 500]) (rest := []) ⟨hx, hb, hml, hown, hts⟩ (kB_init_T l D E h q 500 f0 s.heap.size) (cwI 1 hts (ur_gI mw112) rfl rfl rfl (hts _ mw7) (hts _ mw110) (hts _ mw111) rfl (by decide +kernel) ⟨(Nat.le_of_ble_eq_true rfl), (Nat.le_of_ble_eq_true rfl)⟩) ⟨ur_blind, ur_pre hI hO hK (fun _ _ q => q)⟩ rfl rfl hl.1 rfl (lv_room (Nat.le_of_ble_eq_true rfl)) dT_init_4 ⟨Nat.le_of_ble_eq_true rfl, Nat.le_of_ble_eq_true rfl⟩) hI (fun h1 H locs p1 hI => ?_)
  obtain ⟨wb, wl, zb, zl, nl, eh1⟩ := p1
  have fq9 : h1 q = some (.inr (3, [.int 100, .ref wb, .int 500, .long 0, .int 0, .int 0, .int 0, .int 0, .ref wl])) := by rw [eh1]; exact va_up_self _ _ _
  refine lv_aload_n hx hb dT_init_7 rfl (lv_at hl 0 rfl) ?_
  refine lv_iconst (v := 0) hx hb dT_init_8 (by decide) ?_
  refine ur_put (D := D) (ci := 3) (v := .int 0) (ty := .int) (C := "UnitRoom$Tape") (T := TT) (N := 9) hx hb hts inT tyT tyT_ok nmT hown hV hI fq9 rfl 7 (by decide) (hts _ mw116) (fun _ h9 => h9) rfl (by decide +kernel) rfl rfl (Nat.le_of_ble_eq_true rfl) dT_init_9 (fun H locs hI => ?_)
  obtain ⟨h2, eh2⟩ : ∃ z : ur_M, z = va_up h1 q (some (.inr (3, [.int 100, .ref wb, .int 500, .long 0, .int 0, .int 0, .int 0, .int 0, .ref wl]))) := ⟨_, rfl⟩
  replace hI : ur_I D vwCl (ur_A h s.heap.size) s.heap h2 H locs := by rw [eh2]; exact hI
  have fq3 : h2 q = some (.inr (3, [.int 100, .ref wb, .int 500, .long 0, .int 0, .int 0, .int 0, .int 0, .ref wl])) := by rw [eh2]; exact (va_up_self _ _ _)
  exact ur_rv hx hb hr hlocks hI hQ ⟨_, _, zb, zl, nl, (by rw [eh2, eh1, bx_uu])⟩ dT_init_12
theorem dK_init_0 : decode cK_init 0 = .ok (.aload_n 0, 1) := by decide +kernel
theorem dK_init_1 : decode cK_init 1 = .ok (.sipush 400, 3) := by decide +kernel
theorem dK_init_4 : decode cK_init 4 = .ok (.invokespecial 3, 3) := by decide +kernel
theorem dK_init_7 : decode cK_init 7 = .ok (.return_, 1) := by decide +kernel
abbrev rmkK_init : Room := { frames := 3, cells := 2, slots := 164, locals := 64 }
set_option maxHeartbeats 4000000 in
set_option maxRecDepth 100000 in
theorem kK_init (l : Launch) (D : va_G) (E : ur_Ev) (h : ur_M) (q : Nat) (f0 : h q = some (.inr (4, [.int 0, .null, .int 0, .long 0, .int 0, .int 0, .int 0, .null])))  : ur_Mv l yK_init wsK_init rmkK_init D vwCl (ur_v E) [.ref q] h (fun h2 => ∃ w w2, h w = none ∧ h w2 = none ∧ w2 ≠ w ∧ h2 = va_up (va_up (va_up h w (some (.inl (E.1 0, 100, .inl (fun _ => 0))))) w2 (some (.inl (E.1 3, 64, .inr (.inr (.inr (.inr (fun _ => none)))))))) q (some (.inr (4, [.int 100, .ref w, .int 400, .long 0, .int 0, .int 0, .int 0, .ref w2])))) 2 164 := by
  intro sz
  refine ur_of (cc := cK_init) (maxL := 1) (ret := none) (by decide) rfl (Nat.le_of_ble_eq_true rfl) ?_
  intro p e s m args below meth c ls Q hsz hx hb hml hr hlocks hnm hown hts hO hK hI hQ hl
  subst hsz
  have hV := hK.1
  have hts : ∀ w ∈ ur_G, w.before args s = true := fun w hw => hts w (List.mem_cons_of_mem _ hw)
  have hZ : ur_Z E (ur_A h s.heap.size) s s.heap := hO.1
  have hown : s.vm.findClass "UnitRoom$Disk" = some m.cls := hown
  have hin : meth.name = "<init>" := hnm
  have hl : lv_has ls 1 [(0, .ref q)] := hl
  refine lv_aload_n hx hb dK_init_0 rfl (lv_at hl 0 rfl) ?_
  refine lv_sipush (v := 400) hx hb dK_init_1 (by decide) ?_
  refine ur_xv (va_runI (As := [.int 400]) (rest := []) ⟨hx, hb, hml, hown, hts⟩ (kB_init_K l D E h q 400 f0 s.heap.size) (cwI 1 hts (ur_gI mw112) rfl rfl rfl (hts _ mw7) (hts _ mw135) (hts _ mw111) rfl (by decide +kernel) ⟨(Nat.le_of_ble_eq_true rfl), (Nat.le_of_ble_eq_true rfl)⟩) ⟨ur_blind, ur_pre hI hO hK (fun _ _ q => q)⟩ rfl rfl hl.1 rfl (lv_room (Nat.le_of_ble_eq_true rfl)) dK_init_4 ⟨Nat.le_of_ble_eq_true rfl, Nat.le_of_ble_eq_true rfl⟩) hI (fun h1 H locs p1 hI => ?_)
  obtain ⟨wb, wl, zb, zl, nl, eh1⟩ := p1
  have fq9 : h1 q = some (.inr (4, [.int 100, .ref wb, .int 400, .long 0, .int 0, .int 0, .int 0, .ref wl])) := by rw [eh1]; exact va_up_self _ _ _
  exact ur_rv hx hb hr hlocks hI hQ ⟨_, _, zb, zl, nl, (by rw [eh1])⟩ dK_init_7
theorem dR_init_0 : decode cR_init 0 = .ok (.aload_n 0, 1) := by decide +kernel
theorem dR_init_1 : decode cR_init 1 = .ok (.bipush 16, 2) := by decide +kernel
theorem dR_init_3 : decode cR_init 3 = .ok (.sipush 1000, 3) := by decide +kernel
theorem dR_init_6 : decode cR_init 6 = .ok (.invokespecial 5, 3) := by decide +kernel
theorem dR_init_9 : decode cR_init 9 = .ok (.aload_n 0, 1) := by decide +kernel
theorem dR_init_10 : decode cR_init 10 = .ok (.sipush 1600, 3) := by decide +kernel
theorem dR_init_13 : decode cR_init 13 = .ok (.newarray .int, 2) := by decide +kernel
theorem dR_init_15 : decode cR_init 15 = .ok (.putfield 11, 3) := by decide +kernel
theorem dR_init_18 : decode cR_init 18 = .ok (.aload_n 0, 1) := by decide +kernel
theorem dR_init_19 : decode cR_init 19 = .ok (.iconst 0, 1) := by decide +kernel
theorem dR_init_20 : decode cR_init 20 = .ok (.putfield 15, 3) := by decide +kernel
theorem dR_init_23 : decode cR_init 23 = .ok (.aload_n 0, 1) := by decide +kernel
theorem dR_init_24 : decode cR_init 24 = .ok (.iconst 0, 1) := by decide +kernel
theorem dR_init_25 : decode cR_init 25 = .ok (.putfield 19, 3) := by decide +kernel
theorem dR_init_28 : decode cR_init 28 = .ok (.return_, 1) := by decide +kernel
abbrev rmkR_init : Room := { frames := 2, cells := 2, slots := 1700, locals := 43 }
set_option maxHeartbeats 4000000 in
set_option maxRecDepth 100000 in
theorem kR_init (l : Launch) (D : va_G) (E : ur_Ev) (h : ur_M) (q : Nat) (f0 : h q = some (.inr (5, [.int 0, .null, .int 0, .long 0, .int 0, .int 0, .int 0, .null, .int 0, .int 0])))  : ur_Mv l yR_init wsR_init rmkR_init D vwCl (ur_v E) [.ref q] h (fun h2 => ∃ w w2, h w = none ∧ h w2 = none ∧ w2 ≠ w ∧ h2 = va_up (va_up (va_up h w (some (.inl (E.1 0, 16, .inl (fun _ => 0))))) w2 (some (.inl (E.1 0, 1600, .inl (fun _ => 0))))) q (some (.inr (5, [.int 16, .ref w, .int 1000, .long 0, .int 0, .int 0, .int 0, .ref w2, .int 0, .int 0])))) 2 1700 := by
  intro sz
  refine ur_of (cc := cR_init) (maxL := 1) (ret := none) (by decide) rfl (Nat.le_of_ble_eq_true rfl) ?_
  intro p e s m args below meth c ls Q hsz hx hb hml hr hlocks hnm hown hts hO hK hI hQ hl
  subst hsz
  have hV := hK.1
  have hts : ∀ w ∈ ur_G, w.before args s = true := fun w hw => hts w (List.mem_cons_of_mem _ hw)
  have hZ : ur_Z E (ur_A h s.heap.size) s s.heap := hO.1
  have hown : s.vm.findClass "UnitRoom$Reader" = some m.cls := hown
  have hin : meth.name = "<init>" := hnm
  have hl : lv_has ls 1 [(0, .ref q)] := hl
  refine lv_aload_n hx hb dR_init_0 rfl (lv_at hl 0 rfl) ?_
  refine lv_bipush (v := 16) hx hb dR_init_1 (by decide) ?_
  refine lv_sipush (v := 1000) hx hb dR_init_3 (by decide) ?_
  refine ur_xv (va_runI (As := [.int 16, .int 1000]) (rest := []) ⟨hx, hb, hml, hown, hts⟩ (kD_init_R l D E h q 16 1000 f0 (by first | assumption | omega | decide) (by first | assumption | omega | decide) s.heap.size) (cwI 2 hts (ur_gI mw58) rfl rfl rfl (hts _ mw4) (hts _ mw56) (hts _ mw57) rfl (by decide +kernel) ⟨(Nat.le_of_ble_eq_true rfl), (Nat.le_of_ble_eq_true rfl)⟩) ⟨ur_blind, ur_pre hI hO hK (fun _ _ q => q)⟩ rfl rfl hl.1 rfl (lv_room (Nat.le_of_ble_eq_true rfl)) dR_init_6 ⟨Nat.le_of_ble_eq_true rfl, Nat.le_of_ble_eq_true rfl⟩) hI (fun h1 H locs p1 hI => ?_)
  obtain ⟨w2, zw2, eh1⟩ := p1
  have ne2 : q ≠ w2 := ur_fresh f0 zw2
  have fq2 : h1 q = some (.inr (5, [.int (nI 16), .ref w2, .int 1000, .long 0, .int 0, .int 0, .int 0, .null, .int 0, .int 0])) := by rw [eh1]; exact va_up_self _ _ _
  have fa2 : h1 w2 = some (.inl (E.1 0, 16, .inl (fun _ => 0))) := by rw [eh1]; exact (va_up_ne _ _ (Ne.symm ne2)).trans (va_up_self _ _ _)
  refine lv_aload_n hx hb dR_init_9 rfl (lv_at hl 0 rfl) ?_
  refine lv_sipush (v := 1600) hx hb dR_init_10 (by decide) ?_
  refine ur_newa (atype := .int) (a0 := (1600, (.inl (fun _ => 0)))) hx hb (hts _ mw36) rfl 0 hV rfl rfl hI (n := 1600) (N' := 1600) (fun _ => by rfl) (by decide) rfl (by decide) (Nat.le_of_ble_eq_true rfl) (Nat.le_of_ble_eq_true rfl) dR_init_13 (fun w3 H zw3 hI => ?_)
  obtain ⟨h4, eh4⟩ : ∃ z : ur_M, z = va_up h1 w3 (some (.inl (E.1 0, 1600, .inl (fun _ => 0)))) := ⟨_, rfl⟩
  replace hI : ur_I D vwCl (ur_A h s.heap.size) s.heap h4 H locs := by rw [eh4]; exact hI
  have n6 : q ≠ w3 := ur_fresh fq2 zw3
  have fq5 : h4 q = some (.inr (5, [.int (nI 16), .ref w2, .int 1000, .long 0, .int 0, .int 0, .int 0, .null, .int 0, .int 0])) := by rw [eh4]; exact (va_up_ne _ _ n6).trans fq2
  have n8 : w2 ≠ w3 := ur_fresh fa2 zw3
  have fq7 : h4 w2 = some (.inl (E.1 0, 16, .inl (fun _ => 0))) := by rw [eh4]; exact (va_up_ne _ _ n8).trans fa2
  have fq9 : h4 w3 = some (.inl (E.1 0, 1600, .inl (fun _ => 0))) := by rw [eh4]; exact va_up_self _ _ _
  refine ur_putF (D := D) (ci := 5) (v := .ref w3) (ty := (.array .int)) (C := "UnitRoom$Reader") (T := TR) (N := 10) hx hb hts inR tyR tyR_ok nmR hown hV hI fq5 rfl 7 (by decide) (hts _ mw63) (fun _ h9 => h9) rfl hin rfl (by decide +kernel) rfl rfl (Nat.le_of_ble_eq_true rfl) dR_init_15 (fun H locs hI => ?_)
  obtain ⟨h10, eh10⟩ : ∃ z : ur_M, z = va_up h4 q (some (.inr (5, [.int (nI 16), .ref w2, .int 1000, .long 0, .int 0, .int 0, .int 0, .ref w3, .int 0, .int 0]))) := ⟨_, rfl⟩
  replace hI : ur_I D vwCl (ur_A h s.heap.size) s.heap h10 H locs := by rw [eh10]; exact hI
  have fq11 : h10 q = some (.inr (5, [.int (nI 16), .ref w2, .int 1000, .long 0, .int 0, .int 0, .int 0, .ref w3, .int 0, .int 0])) := by rw [eh10]; exact (va_up_self _ _ _)
  have fq12 : h10 w2 = some (.inl (E.1 0, 16, .inl (fun _ => 0))) := by rw [eh10]; exact ((va_up_ne _ _ (Ne.symm ne2)).trans fq7)
  have fq13 : h10 w3 = some (.inl (E.1 0, 1600, .inl (fun _ => 0))) := by rw [eh10]; exact ((va_up_ne _ _ (Ne.symm n6)).trans fq9)
  refine lv_aload_n hx hb dR_init_18 rfl (lv_at hl 0 rfl) ?_
  refine lv_iconst (v := 0) hx hb dR_init_19 (by decide) ?_
  refine ur_put (D := D) (ci := 5) (v := .int 0) (ty := .int) (C := "UnitRoom$Reader") (T := TR) (N := 10) hx hb hts inR tyR tyR_ok nmR hown hV hI fq11 rfl 8 (by decide) (hts _ mw64) (fun _ h9 => h9) rfl (by decide +kernel) rfl rfl (Nat.le_of_ble_eq_true rfl) dR_init_20 (fun H locs hI => ?_)
  obtain ⟨h14, eh14⟩ : ∃ z : ur_M, z = va_up h10 q (some (.inr (5, [.int (nI 16), .ref w2, .int 1000, .long 0, .int 0, .int 0, .int 0, .ref w3, .int 0, .int 0]))) := ⟨_, rfl⟩
  replace hI : ur_I D vwCl (ur_A h s.heap.size) s.heap h14 H locs := by rw [eh14]; exact hI
  have fq15 : h14 q = some (.inr (5, [.int (nI 16), .ref w2, .int 1000, .long 0, .int 0, .int 0, .int 0, .ref w3, .int 0, .int 0])) := by rw [eh14]; exact (va_up_self _ _ _)
  have fq16 : h14 w2 = some (.inl (E.1 0, 16, .inl (fun _ => 0))) := by rw [eh14]; exact ((va_up_ne _ _ (Ne.symm ne2)).trans fq12)
  have fq17 : h14 w3 = some (.inl (E.1 0, 1600, .inl (fun _ => 0))) := by rw [eh14]; exact ((va_up_ne _ _ (Ne.symm n6)).trans fq13)
  refine lv_aload_n hx hb dR_init_23 rfl (lv_at hl 0 rfl) ?_
  refine lv_iconst (v := 0) hx hb dR_init_24 (by decide) ?_
  refine ur_put (D := D) (ci := 5) (v := .int 0) (ty := .int) (C := "UnitRoom$Reader") (T := TR) (N := 10) hx hb hts inR tyR tyR_ok nmR hown hV hI fq15 rfl 9 (by decide) (hts _ mw65) (fun _ h9 => h9) rfl (by decide +kernel) rfl rfl (Nat.le_of_ble_eq_true rfl) dR_init_25 (fun H locs hI => ?_)
  obtain ⟨h18, eh18⟩ : ∃ z : ur_M, z = va_up h14 q (some (.inr (5, [.int (nI 16), .ref w2, .int 1000, .long 0, .int 0, .int 0, .int 0, .ref w3, .int 0, .int 0]))) := ⟨_, rfl⟩
  replace hI : ur_I D vwCl (ur_A h s.heap.size) s.heap h18 H locs := by rw [eh18]; exact hI
  have fq19 : h18 q = some (.inr (5, [.int (nI 16), .ref w2, .int 1000, .long 0, .int 0, .int 0, .int 0, .ref w3, .int 0, .int 0])) := by rw [eh18]; exact (va_up_self _ _ _)
  have fq20 : h18 w2 = some (.inl (E.1 0, 16, .inl (fun _ => 0))) := by rw [eh18]; exact ((va_up_ne _ _ (Ne.symm ne2)).trans fq16)
  have fq21 : h18 w3 = some (.inl (E.1 0, 1600, .inl (fun _ => 0))) := by rw [eh18]; exact ((va_up_ne _ _ (Ne.symm n6)).trans fq17)
  have hz9 := zw3
  rw [eh1] at hz9
  obtain ⟨hz9, hn9⟩ := ur_zup hz9
  obtain ⟨hz9, hn8⟩ := ur_zup hz9
  exact ur_rv hx hb hr hlocks hI hQ ⟨_, _, zw2, hz9, hn8, (by rw [eh18, eh14, eh10, eh4, eh1, bx_uu, bx_uu, ur_sw (Ne.symm hn9), ur_com (Ne.symm hn9)]; try rfl)⟩ dR_init_28
theorem dW_init_0 : decode cW_init 0 = .ok (.aload_n 0, 1) := by decide +kernel
theorem dW_init_1 : decode cW_init 1 = .ok (.iload_n 1, 1) := by decide +kernel
theorem dW_init_2 : decode cW_init 2 = .ok (.iload_n 2, 1) := by decide +kernel
theorem dW_init_3 : decode cW_init 3 = .ok (.invokespecial 3, 3) := by decide +kernel
theorem dW_init_6 : decode cW_init 6 = .ok (.aload_n 0, 1) := by decide +kernel
theorem dW_init_7 : decode cW_init 7 = .ok (.sipush 300, 3) := by decide +kernel
theorem dW_init_10 : decode cW_init 10 = .ok (.anewarray 11, 3) := by decide +kernel
theorem dW_init_13 : decode cW_init 13 = .ok (.putfield 13, 3) := by decide +kernel
theorem dW_init_16 : decode cW_init 16 = .ok (.aload_n 0, 1) := by decide +kernel
theorem dW_init_17 : decode cW_init 17 = .ok (.iconst 0, 1) := by decide +kernel
theorem dW_init_18 : decode cW_init 18 = .ok (.putfield 17, 3) := by decide +kernel
theorem dW_init_21 : decode cW_init 21 = .ok (.aload_n 0, 1) := by decide +kernel
theorem dW_init_22 : decode cW_init 22 = .ok (.iload_n 3, 1) := by decide +kernel
theorem dW_init_23 : decode cW_init 23 = .ok (.putfield 21, 3) := by decide +kernel
theorem dW_init_26 : decode cW_init 26 = .ok (.return_, 1) := by decide +kernel
abbrev rmkW_init : Room := { frames := 2, cells := 2, slots := 400, locals := 43 }
set_option maxHeartbeats 4000000 in
set_option maxRecDepth 100000 in
theorem kW_init (l : Launch) (D : va_G) (E : ur_Ev) (h : ur_M) (q : Nat) (nw : Nat) (du : Int32) (hp : Int32) (f0 : h q = some (.inr (6, [.int 0, .null, .int 0, .long 0, .int 0, .int 0, .int 0, .null, .int 0, .int 0]))) (hw0 : 0 < nw) (hw1 : nw ≤ 100) (hhp : hp = 0 ∨ hp = 1) : ur_Mv l yW_init wsW_init rmkW_init D vwCl (ur_v E) [.ref q, .int (nI nw), .int du, .int hp] h (fun h2 => ∃ w w2, h w = none ∧ h w2 = none ∧ w2 ≠ w ∧ h2 = va_up (va_up (va_up h w (some (.inl (E.1 0, nw, .inl (fun _ => 0))))) w2 (some (.inl (E.1 4, 300, .inr (.inr (.inr (.inr (fun _ => none)))))))) q (some (.inr (6, [.int (nI nw), .ref w, .int du, .long 0, .int 0, .int 0, .int 0, .ref w2, .int hp, .int 0])))) 2 400 := by
  intro sz
  refine ur_of (cc := cW_init) (maxL := 4) (ret := none) (by decide) rfl (Nat.le_of_ble_eq_true rfl) ?_
  intro p e s m args below meth c ls Q hsz hx hb hml hr hlocks hnm hown hts hO hK hI hQ hl
  subst hsz
  have hV := hK.1
  have hts : ∀ w ∈ ur_G, w.before args s = true := fun w hw => hts w (List.mem_cons_of_mem _ hw)
  have hZ : ur_Z E (ur_A h s.heap.size) s s.heap := hO.1
  have hown : s.vm.findClass "UnitRoom$Writer" = some m.cls := hown
  have hin : meth.name = "<init>" := hnm
  have hl : lv_has ls 4 [(0, .ref q), (1, .int (nI nw)), (2, .int du), (3, .int hp)] := hl
  refine lv_aload_n hx hb dW_init_0 rfl (lv_at hl 0 rfl) ?_
  refine lv_iload_n hx hb dW_init_1 rfl (lv_at hl 1 rfl) ?_
  refine lv_iload_n hx hb dW_init_2 rfl (lv_at hl 2 rfl) ?_
  refine ur_xv (va_runI (As := [.int (nI nw), .int du]) (rest := []) ⟨hx, hb, hml, hown, hts⟩ (kD_init_W l D E h q nw du f0 (by first | assumption | omega | decide) (by first | assumption | omega | decide) s.heap.size) (cwI 2 hts (ur_gI mw58) rfl rfl rfl (hts _ mw4) (hts _ mw150) (hts _ mw57) rfl (by decide +kernel) ⟨(Nat.le_of_ble_eq_true rfl), (Nat.le_of_ble_eq_true rfl)⟩) ⟨ur_blind, ur_pre hI hO hK (fun _ _ q => q)⟩ rfl rfl hl.1 rfl (lv_room (Nat.le_of_ble_eq_true rfl)) dW_init_3 ⟨Nat.le_of_ble_eq_true rfl, Nat.le_of_ble_eq_true rfl⟩) hI (fun h1 H locs p1 hI => ?_)
  obtain ⟨w2, zw2, eh1⟩ := p1
  have ne2 : q ≠ w2 := ur_fresh f0 zw2
  have fq2 : h1 q = some (.inr (6, [.int (nI nw), .ref w2, .int du, .long 0, .int 0, .int 0, .int 0, .null, .int 0, .int 0])) := by rw [eh1]; exact va_up_self _ _ _
  have fa2 : h1 w2 = some (.inl (E.1 0, nw, .inl (fun _ => 0))) := by rw [eh1]; exact (va_up_ne _ _ (Ne.symm ne2)).trans (va_up_self _ _ _)
  refine lv_aload_n hx hb dW_init_6 rfl (lv_at hl 0 rfl) ?_
  refine lv_sipush (v := 300) hx hb dW_init_7 (by decide) ?_
  refine ur_newA (t := .byte) hx hb hown (hts _ mw151) (hK.2.1.2.2.2.2.1 (.array .byte) (by decide)) 4 hV rfl hI (n := 300) (N' := 300) (by decide) rfl (by decide) (Nat.le_of_ble_eq_true rfl) (Nat.le_of_ble_eq_true rfl) dW_init_10 (fun w3 H zw3 hI => ?_)
  obtain ⟨h4, eh4⟩ : ∃ z : ur_M, z = va_up h1 w3 (some (.inl (E.1 4, 300, .inr (.inr (.inr (.inr (fun _ => none))))))) := ⟨_, rfl⟩
  replace hI : ur_I D vwCl (ur_A h s.heap.size) s.heap h4 H locs := by rw [eh4]; exact hI
  have n6 : q ≠ w3 := ur_fresh fq2 zw3
  have fq5 : h4 q = some (.inr (6, [.int (nI nw), .ref w2, .int du, .long 0, .int 0, .int 0, .int 0, .null, .int 0, .int 0])) := by rw [eh4]; exact (va_up_ne _ _ n6).trans fq2
  have n8 : w2 ≠ w3 := ur_fresh fa2 zw3
  have fq7 : h4 w2 = some (.inl (E.1 0, nw, .inl (fun _ => 0))) := by rw [eh4]; exact (va_up_ne _ _ n8).trans fa2
  have fq9 : h4 w3 = some (.inl (E.1 4, 300, .inr (.inr (.inr (.inr (fun _ => none)))))) := by rw [eh4]; exact va_up_self _ _ _
  refine ur_putF (D := D) (ci := 6) (v := .ref w3) (ty := (.array (.array .byte))) (C := "UnitRoom$Writer") (T := TW) (N := 10) hx hb hts inW tyW tyW_ok nmW hown hV hI fq5 rfl 7 (by decide) (hts _ mw153) (fun _ h9 => h9) rfl hin rfl (by decide +kernel) rfl rfl (Nat.le_of_ble_eq_true rfl) dW_init_13 (fun H locs hI => ?_)
  obtain ⟨h10, eh10⟩ : ∃ z : ur_M, z = va_up h4 q (some (.inr (6, [.int (nI nw), .ref w2, .int du, .long 0, .int 0, .int 0, .int 0, .ref w3, .int 0, .int 0]))) := ⟨_, rfl⟩
  replace hI : ur_I D vwCl (ur_A h s.heap.size) s.heap h10 H locs := by rw [eh10]; exact hI
  have fq11 : h10 q = some (.inr (6, [.int (nI nw), .ref w2, .int du, .long 0, .int 0, .int 0, .int 0, .ref w3, .int 0, .int 0])) := by rw [eh10]; exact (va_up_self _ _ _)
  have fq12 : h10 w2 = some (.inl (E.1 0, nw, .inl (fun _ => 0))) := by rw [eh10]; exact ((va_up_ne _ _ (Ne.symm ne2)).trans fq7)
  have fq13 : h10 w3 = some (.inl (E.1 4, 300, .inr (.inr (.inr (.inr (fun _ => none)))))) := by rw [eh10]; exact ((va_up_ne _ _ (Ne.symm n6)).trans fq9)
  refine lv_aload_n hx hb dW_init_16 rfl (lv_at hl 0 rfl) ?_
  refine lv_iconst (v := 0) hx hb dW_init_17 (by decide) ?_
  refine ur_put (D := D) (ci := 6) (v := .int 0) (ty := .int) (C := "UnitRoom$Writer") (T := TW) (N := 10) hx hb hts inW tyW tyW_ok nmW hown hV hI fq11 rfl 9 (by decide) (hts _ mw155) (fun _ h9 => h9) rfl (by decide +kernel) rfl rfl (Nat.le_of_ble_eq_true rfl) dW_init_18 (fun H locs hI => ?_)
  obtain ⟨h14, eh14⟩ : ∃ z : ur_M, z = va_up h10 q (some (.inr (6, [.int (nI nw), .ref w2, .int du, .long 0, .int 0, .int 0, .int 0, .ref w3, .int 0, .int 0]))) := ⟨_, rfl⟩
  replace hI : ur_I D vwCl (ur_A h s.heap.size) s.heap h14 H locs := by rw [eh14]; exact hI
  have fq15 : h14 q = some (.inr (6, [.int (nI nw), .ref w2, .int du, .long 0, .int 0, .int 0, .int 0, .ref w3, .int 0, .int 0])) := by rw [eh14]; exact (va_up_self _ _ _)
  have fq16 : h14 w2 = some (.inl (E.1 0, nw, .inl (fun _ => 0))) := by rw [eh14]; exact ((va_up_ne _ _ (Ne.symm ne2)).trans fq12)
  have fq17 : h14 w3 = some (.inl (E.1 4, 300, .inr (.inr (.inr (.inr (fun _ => none)))))) := by rw [eh14]; exact ((va_up_ne _ _ (Ne.symm n6)).trans fq13)
  refine lv_aload_n hx hb dW_init_21 rfl (lv_at hl 0 rfl) ?_
  refine lv_iload_n hx hb dW_init_22 rfl (lv_at hl 3 rfl) ?_
  refine ur_putF (D := D) (ci := 6) (v := .int hp) (ty := .boolean) (C := "UnitRoom$Writer") (T := TW) (N := 10) hx hb hts inW tyW tyW_ok nmW hown hV hI fq15 rfl 8 (by decide) (hts _ mw154) (fun _ h9 => h9) rfl hin rfl (by decide +kernel) (by rcases hhp with rfl | rfl <;> rfl) (by rcases hhp with rfl | rfl <;> rfl) (Nat.le_of_ble_eq_true rfl) dW_init_23 (fun H locs hI => ?_)
  obtain ⟨h18, eh18⟩ : ∃ z : ur_M, z = va_up h14 q (some (.inr (6, [.int (nI nw), .ref w2, .int du, .long 0, .int 0, .int 0, .int 0, .ref w3, .int hp, .int 0]))) := ⟨_, rfl⟩
  replace hI : ur_I D vwCl (ur_A h s.heap.size) s.heap h18 H locs := by rw [eh18]; exact hI
  have fq19 : h18 q = some (.inr (6, [.int (nI nw), .ref w2, .int du, .long 0, .int 0, .int 0, .int 0, .ref w3, .int hp, .int 0])) := by rw [eh18]; exact (va_up_self _ _ _)
  have fq20 : h18 w2 = some (.inl (E.1 0, nw, .inl (fun _ => 0))) := by rw [eh18]; exact ((va_up_ne _ _ (Ne.symm ne2)).trans fq16)
  have fq21 : h18 w3 = some (.inl (E.1 4, 300, .inr (.inr (.inr (.inr (fun _ => none)))))) := by rw [eh18]; exact ((va_up_ne _ _ (Ne.symm n6)).trans fq17)
  have hz9 := zw3
  rw [eh1] at hz9
  obtain ⟨hz9, hn9⟩ := ur_zup hz9
  obtain ⟨hz9, hn8⟩ := ur_zup hz9
  exact ur_rv hx hb hr hlocks hI hQ ⟨_, _, zw2, hz9, hn8, (by rw [eh18, eh14, eh10, eh4, eh1, bx_uu, bx_uu, ur_sw (Ne.symm hn9), ur_com (Ne.symm hn9)]; try rfl)⟩ dW_init_26
