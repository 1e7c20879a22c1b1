theorem dT_faultOf_0 : decode cT_faultOf 0 = .ok (.iload_n 1, 1) := by decide +kernel
theorem dT_faultOf_1 : decode cT_faultOf 1 = .ok (.ifCond .eq 17, 3) := by decide +kernel
theorem dT_faultOf_4 : decode cT_faultOf 4 = .ok (.aload_n 0, 1) := by decide +kernel
theorem dT_faultOf_5 : decode cT_faultOf 5 = .ok (.getfield 9, 3) := by decide +kernel
theorem dT_faultOf_8 : decode cT_faultOf 8 = .ok (.bipush 64, 2) := by decide +kernel
theorem dT_faultOf_10 : decode cT_faultOf 10 = .ok (.if_icmp .lt 8, 3) := by decide +kernel
theorem dT_faultOf_13 : decode cT_faultOf 13 = .ok (.bipush 6, 2) := by decide +kernel
theorem dT_faultOf_15 : decode cT_faultOf 15 = .ok (.goto 4, 3) := by decide +kernel
theorem dT_faultOf_18 : decode cT_faultOf 18 = .ok (.iconst 0, 1) := by decide +kernel
theorem dT_faultOf_19 : decode cT_faultOf 19 = .ok (.ireturn, 1) := by decide +kernel
abbrev rmkT_fault : Room := { frames := 0, cells := 0, slots := 0, locals := 0 }
set_option maxHeartbeats 4000000 in
set_option maxRecDepth 100000 in
theorem kT_fault (l : Launch) (D : va_G) (E : ur_Ev) (h : ur_M) (q : Nat) (qb : Nat) (ql : Nat) (du : Int32) (br : Int32) (tu : Int32) (ta : Int32) (ps : Int32) (fa : Int64) (op : Int32) (mv : Int32) (x : Int32) (f0 : h q = some (.inr (3, [.int 100, .ref qb, .int du, .long fa, .int br, .int tu, .int ta, .int ps, .ref ql])))  : ur_Mi l yT_faultOf wsT_faultOf rmkT_fault D vwCl (ur_v E) [.ref q, .int op, .int mv, .int x] h (fun r h2 => r = um_fT op ps ∧ h2 = h) 0 0 := by
  intro sz
  refine ur_of (cc := cT_faultOf) (maxL := 4) (ret := (some .int)) (by decide) rfl (Nat.le_of_ble_eq_true rfl) ?_
  intro p e s m args below meth c ls Q hsz hx hb hml hr hlocks hnm hown hts hO hK hI hQ hl
  subst hsz
  have hV := hK.1
  have hts : ∀ w ∈ ur_G, w.before args s = true := fun w hw => hts w (List.mem_cons_of_mem _ hw)
  have hZ : ur_Z E (ur_A h s.heap.size) s s.heap := hO.1
  have hown : s.vm.findClass "UnitRoom$Tape" = some m.cls := hown
  have hl : lv_has ls 4 [(0, .ref q), (1, .int op), (2, .int mv), (3, .int x)] := hl
  refine lv_iload_n hx hb dT_faultOf_0 rfl (lv_at hl 1 rfl) ?_
  refine lv_if_eq (tgt := 18) hx hb dT_faultOf_1 (by decide) (fun c1 => ?_) (fun c1 => ?_)
  · refine lv_iconst (v := 0) hx hb dT_faultOf_18 (by decide) ?_
    exact ur_ri hx hb hr hlocks hI hQ ⟨(by first | (simp only [um_fT, c1, ↓reduceIte]; done) | (simp only [um_fT, c1, ↓reduceIte]; rfl) | rfl), rfl⟩ dT_faultOf_19
  · refine lv_aload_n hx hb dT_faultOf_4 rfl (lv_at hl 0 rfl) ?_
    refine va_get (D := D) (ci := 3) (v := .int ps) (C := "UnitRoom$Tape") (T := TT) (N := 9) hx hb hts inT hown hV (ur_one hI.1 f0) 0 rfl rfl 7 (by decide) (hts _ mw116) (fun _ h9 => h9) rfl dT_faultOf_5 ?_
    refine lv_bipush (v := 64) hx hb dT_faultOf_8 (by decide) ?_
    refine lv_icmp_lt (tgt := 18) hx hb dT_faultOf_10 (by decide) (fun c2 => ?_) (fun c2 => ?_)
    · refine lv_iconst (v := 0) hx hb dT_faultOf_18 (by decide) ?_
      exact ur_ri hx hb hr hlocks hI hQ ⟨(by first | (simp only [um_fT, c1, c2, ↓reduceIte]; done) | (simp only [um_fT, c1, c2, ↓reduceIte]; rfl) | rfl), rfl⟩ dT_faultOf_19
    · refine lv_bipush (v := 6) hx hb dT_faultOf_13 (by decide) ?_
      refine lv_goto (tgt := 19) hx hb dT_faultOf_15 (by decide) ?_
      exact ur_ri hx hb hr hlocks hI hQ ⟨(by first | (simp only [um_fT, c1, c2, ↓reduceIte]; done) | (simp only [um_fT, c1, c2, ↓reduceIte]; rfl) | rfl), rfl⟩ dT_faultOf_19
theorem dT_tell_0 : decode cT_tell 0 = .ok (.aload_n 0, 1) := by decide +kernel
theorem dT_tell_1 : decode cT_tell 1 = .ok (.getfield 9, 3) := by decide +kernel
theorem dT_tell_4 : decode cT_tell 4 = .ok (.ireturn, 1) := by decide +kernel
abbrev rmkT_tell : Room := { frames := 0, cells := 0, slots := 0, locals := 0 }
set_option maxHeartbeats 4000000 in
set_option maxRecDepth 100000 in
theorem kT_tell (l : Launch) (D : va_G) (E : ur_Ev) (h : ur_M) (q : Nat) (qb : Nat) (ql : Nat) (du : Int32) (br : Int32) (tu : Int32) (ta : Int32) (ps : Int32) (fa : Int64) (f0 : h q = some (.inr (3, [.int 100, .ref qb, .int du, .long fa, .int br, .int tu, .int ta, .int ps, .ref ql])))  : ur_Mi l yT_tell wsT_tell rmkT_tell D vwCl (ur_v E) [.ref q] h (fun r h2 => r = ps ∧ h2 = h) 0 0 := by
  intro sz
  refine ur_of (cc := cT_tell) (maxL := 1) (ret := (some .int)) (by decide) rfl (Nat.le_of_ble_eq_true rfl) ?_
  intro p e s m args below meth c ls Q hsz hx hb hml hr hlocks hnm hown hts hO hK hI hQ hl
  subst hsz
  have hV := hK.1
  have hts : ∀ w ∈ ur_G, w.before args s = true := fun w hw => hts w (List.mem_cons_of_mem _ hw)
  have hZ : ur_Z E (ur_A h s.heap.size) s s.heap := hO.1
  have hown : s.vm.findClass "UnitRoom$Tape" = some m.cls := hown
  have hl : lv_has ls 1 [(0, .ref q)] := hl
  refine lv_aload_n hx hb dT_tell_0 rfl (lv_at hl 0 rfl) ?_
  refine va_get (D := D) (ci := 3) (v := .int ps) (C := "UnitRoom$Tape") (T := TT) (N := 9) hx hb hts inT hown hV (ur_one hI.1 f0) 0 rfl rfl 7 (by decide) (hts _ mw116) (fun _ h9 => h9) rfl dT_tell_1 ?_
  exact ur_ri hx hb hr hlocks hI hQ ⟨(by first | (simp only [↓reduceIte]; done) | (simp only [↓reduceIte]; rfl) | rfl), rfl⟩ dT_tell_4
theorem dT_positionAfter_0 : decode cT_positionAfter 0 = .ok (.aload_n 0, 1) := by decide +kernel
theorem dT_positionAfter_1 : decode cT_positionAfter 1 = .ok (.getfield 9, 3) := by decide +kernel
theorem dT_positionAfter_4 : decode cT_positionAfter 4 = .ok (.i2l, 1) := by decide +kernel
theorem dT_positionAfter_5 : decode cT_positionAfter 5 = .ok (.iload_n 1, 1) := by decide +kernel
theorem dT_positionAfter_6 : decode cT_positionAfter 6 = .ok (.i2l, 1) := by decide +kernel
theorem dT_positionAfter_7 : decode cT_positionAfter 7 = .ok (.ladd, 1) := by decide +kernel
theorem dT_positionAfter_8 : decode cT_positionAfter 8 = .ok (.lstore_n 2, 1) := by decide +kernel
theorem dT_positionAfter_9 : decode cT_positionAfter 9 = .ok (.lconst 0, 1) := by decide +kernel
theorem dT_positionAfter_10 : decode cT_positionAfter 10 = .ok (.ldc2_w 27, 3) := by decide +kernel
theorem dT_positionAfter_13 : decode cT_positionAfter 13 = .ok (.lload_n 2, 1) := by decide +kernel
theorem dT_positionAfter_14 : decode cT_positionAfter 14 = .ok (.invokestatic 29, 3) := by decide +kernel
theorem dT_positionAfter_17 : decode cT_positionAfter 17 = .ok (.invokestatic 35, 3) := by decide +kernel
theorem dT_positionAfter_20 : decode cT_positionAfter 20 = .ok (.l2i, 1) := by decide +kernel
theorem dT_positionAfter_21 : decode cT_positionAfter 21 = .ok (.ireturn, 1) := by decide +kernel
abbrev rmkT_pos : Room := { frames := 1, cells := 0, slots := 0, locals := 23 }
set_option maxHeartbeats 4000000 in
set_option maxRecDepth 100000 in
theorem kT_pos (l : Launch) (D : va_G) (E : ur_Ev) (h : ur_M) (q : Nat) (qb : Nat) (ql : Nat) (du : Int32) (br : Int32) (tu : Int32) (ta : Int32) (ps : Int32) (fa : Int64) (mv : Int32) (f0 : h q = some (.inr (3, [.int 100, .ref qb, .int du, .long fa, .int br, .int tu, .int ta, .int ps, .ref ql])))  : ur_Mi l yT_positionAfter wsT_positionAfter rmkT_pos D vwCl (ur_v E) [.ref q, .int mv] h (fun r h2 => r = um_pos ps mv ∧ h2 = h) 0 0 := by
  intro sz
  refine ur_of (cc := cT_positionAfter) (maxL := 4) (ret := (some .int)) (by decide) rfl (Nat.le_of_ble_eq_true rfl) ?_
  intro p e s m args below meth c ls Q hsz hx hb hml hr hlocks hnm hown hts hO hK hI hQ hl
  subst hsz
  have hV := hK.1
  have hts : ∀ w ∈ ur_G, w.before args s = true := fun w hw => hts w (List.mem_cons_of_mem _ hw)
  have hZ : ur_Z E (ur_A h s.heap.size) s s.heap := hO.1
  have hown : s.vm.findClass "UnitRoom$Tape" = some m.cls := hown
  have hl : lv_has ls 4 [(0, .ref q), (1, .int mv)] := hl
  refine lv_aload_n hx hb dT_positionAfter_0 rfl (lv_at hl 0 rfl) ?_
  refine va_get (D := D) (ci := 3) (v := .int ps) (C := "UnitRoom$Tape") (T := TT) (N := 9) hx hb hts inT hown hV (ur_one hI.1 f0) 0 rfl rfl 7 (by decide) (hts _ mw116) (fun _ h9 => h9) rfl dT_positionAfter_1 ?_
  refine lv_i2l hx hb dT_positionAfter_4 rfl ?_
  refine lv_iload_n hx hb dT_positionAfter_5 rfl (lv_at hl 1 rfl) ?_
  refine lv_i2l hx hb dT_positionAfter_6 rfl ?_
  refine lv_ladd hx hb dT_positionAfter_7 ?_
  refine lv_lstore_n (lv' := [(2, .long ((ps.toInt64) + (mv.toInt64))), (0, .ref q), (1, .int mv)]) hx hb dT_positionAfter_8 rfl hl (by decide) rfl (fun ls hl => ?_)
  refine lv_lconst (v := 0) hx hb dT_positionAfter_9 (by decide) ?_
  refine lv_ldc2 (v := 64) hx hb hown (hts _ mw357) dT_positionAfter_10 ?_
  refine lv_lload_n hx hb dT_positionAfter_13 rfl (lv_at hl 0 rfl) ?_
  refine va_mmin_long hx hb (hml.trans hl.1.symm) hown (hts _ mw358) (hts _ mw359) (hts _ mw6) (hts _ mw360) (Nat.le_of_ble_eq_true rfl) (Nat.le_of_ble_eq_true rfl) (Nat.le_of_ble_eq_true rfl) (Nat.le_of_ble_eq_true rfl) dT_positionAfter_14 ?_
  refine va_mmax_long hx hb (hml.trans hl.1.symm) hown (hts _ mw361) (hts _ mw267) (hts _ mw6) (hts _ mw268) (Nat.le_of_ble_eq_true rfl) (Nat.le_of_ble_eq_true rfl) (Nat.le_of_ble_eq_true rfl) (Nat.le_of_ble_eq_true rfl) dT_positionAfter_17 ?_
  refine lv_l2i hx hb dT_positionAfter_20 rfl ?_
  exact ur_ri hx hb hr hlocks hI hQ ⟨(by first | (simp only [um_pos, ↓reduceIte]; done) | (simp only [um_pos, ↓reduceIte]; rfl) | rfl), rfl⟩ dT_positionAfter_21
theorem dT_work_0 : decode cT_work 0 = .ok (.iload_n 1, 1) := by decide +kernel
theorem dT_work_1 : decode cT_work 1 = .ok (.ifCond .ne 21, 3) := by decide +kernel
theorem dT_work_4 : decode cT_work 4 = .ok (.aload_n 0, 1) := by decide +kernel
theorem dT_work_5 : decode cT_work 5 = .ok (.iload_n 2, 1) := by decide +kernel
theorem dT_work_6 : decode cT_work 6 = .ok (.ifCond .ne 7, 3) := by decide +kernel
theorem dT_work_9 : decode cT_work 9 = .ok (.iconst 0, 1) := by decide +kernel
theorem dT_work_10 : decode cT_work 10 = .ok (.goto 8, 3) := by decide +kernel
theorem dT_work_13 : decode cT_work 13 = .ok (.aload_n 0, 1) := by decide +kernel
theorem dT_work_14 : decode cT_work 14 = .ok (.iload_n 2, 1) := by decide +kernel
theorem dT_work_15 : decode cT_work 15 = .ok (.invokevirtual 15, 3) := by decide +kernel
theorem dT_work_18 : decode cT_work 18 = .ok (.putfield 9, 3) := by decide +kernel
theorem dT_work_21 : decode cT_work 21 = .ok (.return_, 1) := by decide +kernel
theorem dT_work_22 : decode cT_work 22 = .ok (.iload_n 1, 1) := by decide +kernel
theorem dT_work_23 : decode cT_work 23 = .ok (.iconst 1, 1) := by decide +kernel
theorem dT_work_24 : decode cT_work 24 = .ok (.if_icmp .ne 15, 3) := by decide +kernel
theorem dT_work_27 : decode cT_work 27 = .ok (.aload_n 0, 1) := by decide +kernel
theorem dT_work_28 : decode cT_work 28 = .ok (.aload_n 0, 1) := by decide +kernel
theorem dT_work_29 : decode cT_work 29 = .ok (.getfield 9, 3) := by decide +kernel
theorem dT_work_32 : decode cT_work 32 = .ok (.iload_n 2, 1) := by decide +kernel
theorem dT_work_33 : decode cT_work 33 = .ok (.invokevirtual 19, 3) := by decide +kernel
theorem dT_work_36 : decode cT_work 36 = .ok (.goto 14, 3) := by decide +kernel
theorem dT_work_39 : decode cT_work 39 = .ok (.aload_n 0, 1) := by decide +kernel
theorem dT_work_40 : decode cT_work 40 = .ok (.aload_n 0, 1) := by decide +kernel
theorem dT_work_41 : decode cT_work 41 = .ok (.getfield 9, 3) := by decide +kernel
theorem dT_work_44 : decode cT_work 44 = .ok (.iload_n 2, 1) := by decide +kernel
theorem dT_work_45 : decode cT_work 45 = .ok (.aload 4, 2) := by decide +kernel
theorem dT_work_47 : decode cT_work 47 = .ok (.invokevirtual 23, 3) := by decide +kernel
theorem dT_work_50 : decode cT_work 50 = .ok (.aload_n 0, 1) := by decide +kernel
theorem dT_work_51 : decode cT_work 51 = .ok (.dup, 1) := by decide +kernel
theorem dT_work_52 : decode cT_work 52 = .ok (.getfield 9, 3) := by decide +kernel
theorem dT_work_55 : decode cT_work 55 = .ok (.iconst 1, 1) := by decide +kernel
theorem dT_work_56 : decode cT_work 56 = .ok (.iadd, 1) := by decide +kernel
theorem dT_work_57 : decode cT_work 57 = .ok (.putfield 9, 3) := by decide +kernel
theorem dT_work_60 : decode cT_work 60 = .ok (.return_, 1) := by decide +kernel
abbrev rmkT_work0 : Room := { frames := 2, cells := 0, slots := 0, locals := 46 }
set_option maxHeartbeats 4000000 in
set_option maxRecDepth 100000 in
theorem kT_work0 (l : Launch) (D : va_G) (E : ur_Ev) (h : ur_M) (q : Nat) (qb : Nat) (ql : Nat) (du : Int32) (br : Int32) (tu : Int32) (ta : Int32) (ps : Int32) (fa : Int64) (qm : Nat) (mv : Int32) (x : Int32) (f0 : h q = some (.inr (3, [.int 100, .ref qb, .int du, .long fa, .int br, .int tu, .int ta, .int ps, .ref ql])))  : ur_Mv l yT_work wsT_work rmkT_work0 D vwCl (ur_v E) [.ref q, .int 0, .int mv, .int x, .ref qm] h (fun h2 => h2 = va_up h q (some (.inr (3, [.int 100, .ref qb, .int du, .long fa, .int br, .int tu, .int ta, .int (um_posT ps mv), .ref ql])))) 0 0 := by
  intro sz
  refine ur_of (cc := cT_work) (maxL := 5) (ret := none) (by decide) rfl (Nat.le_of_ble_eq_true rfl) ?_
  intro p e s m args below meth c ls Q hsz hx hb hml hr hlocks hnm hown hts hO hK hI hQ hl
  subst hsz
  have hV := hK.1
  have hts : ∀ w ∈ ur_G, w.before args s = true := fun w hw => hts w (List.mem_cons_of_mem _ hw)
  have hZ : ur_Z E (ur_A h s.heap.size) s s.heap := hO.1
  have hown : s.vm.findClass "UnitRoom$Tape" = some m.cls := hown
  have hl : lv_has ls 5 [(0, .ref q), (1, .int 0), (2, .int mv), (3, .int x), (4, .ref qm)] := hl
  refine lv_iload_n hx hb dT_work_0 rfl (lv_at hl 1 rfl) ?_
  refine lv_if_ne (tgt := 22) hx hb dT_work_1 (by decide) (fun c1 => absurd c1 (by decide)) (fun c1 => ?_)
  refine lv_aload_n hx hb dT_work_4 rfl (lv_at hl 0 rfl) ?_
  refine lv_iload_n hx hb dT_work_5 rfl (lv_at hl 2 rfl) ?_
  refine lv_if_ne (tgt := 13) hx hb dT_work_6 (by decide) (fun c2 => ?_) (fun c2 => ?_)
  · refine lv_aload_n hx hb dT_work_13 rfl (lv_at hl 0 rfl) ?_
    refine lv_iload_n hx hb dT_work_14 rfl (lv_at hl 2 rfl) ?_
    refine ur_xi (va_runV (As := [.int mv]) (rest := [.ref q]) ⟨hx, hb, hml, hown, hts⟩ (kT_pos l D E h q qb ql du br tu ta ps fa mv f0 s.heap.size) (cwV 1 hts (ur_gV mw353 mw355 ms4 mw8 mw356) rfl rfl rfl (by decide +kernel) ⟨(Nat.le_of_ble_eq_true rfl), (Nat.le_of_ble_eq_true rfl)⟩) ⟨ur_blind, va_recv hV (ur_one hI.1 f0) (ci := 3) (q0 := 0) rfl rfl, ur_pre hI hO hK (fun _ _ q => q)⟩ rfl rfl hl.1 rfl (lv_room (Nat.le_of_ble_eq_true rfl)) dT_work_15 ⟨Nat.le_of_ble_eq_true rfl, Nat.le_of_ble_eq_true rfl⟩) hI (fun r3 h3 H locs p3 hI => ?_)
    obtain ⟨er3, eh3⟩ := p3
    replace eh3 := eh3.symm; subst eh3
    replace er3 := er3.symm; subst er3
    refine ur_put (D := D) (ci := 3) (v := .int (um_pos ps mv)) (ty := .int) (C := "UnitRoom$Tape") (T := TT) (N := 9) hx hb hts inT tyT tyT_ok nmT hown hV hI f0 rfl 7 (by decide) (hts _ mw116) (fun _ h9 => h9) rfl (by decide +kernel) rfl rfl (Nat.le_of_ble_eq_true rfl) dT_work_18 (fun H locs hI => ?_)
    obtain ⟨h4, eh4⟩ : ∃ z : ur_M, z = va_up h q (some (.inr (3, [.int 100, .ref qb, .int du, .long fa, .int br, .int tu, .int ta, .int (um_pos ps mv), .ref ql]))) := ⟨_, rfl⟩
    replace hI : ur_I D vwCl (ur_A h s.heap.size) s.heap h4 H locs := by rw [eh4]; exact hI
    have fq5 : h4 q = some (.inr (3, [.int 100, .ref qb, .int du, .long fa, .int br, .int tu, .int ta, .int (um_pos ps mv), .ref ql])) := by rw [eh4]; exact (va_up_self _ _ _)
    exact ur_rv hx hb hr hlocks hI hQ (by rw [eh4]; simp only [um_posT, c2, ↓reduceIte]) dT_work_21
  · refine lv_iconst (v := 0) hx hb dT_work_9 (by decide) ?_
    refine lv_goto (tgt := 18) hx hb dT_work_10 (by decide) ?_
    refine ur_put (D := D) (ci := 3) (v := .int 0) (ty := .int) (C := "UnitRoom$Tape") (T := TT) (N := 9) hx hb hts inT tyT tyT_ok nmT hown hV hI f0 rfl 7 (by decide) (hts _ mw116) (fun _ h9 => h9) rfl (by decide +kernel) rfl rfl (Nat.le_of_ble_eq_true rfl) dT_work_18 (fun H locs hI => ?_)
    obtain ⟨h6, eh6⟩ : ∃ z : ur_M, z = va_up h q (some (.inr (3, [.int 100, .ref qb, .int du, .long fa, .int br, .int tu, .int ta, .int 0, .ref ql]))) := ⟨_, rfl⟩
    replace hI : ur_I D vwCl (ur_A h s.heap.size) s.heap h6 H locs := by rw [eh6]; exact hI
    have fq7 : h6 q = some (.inr (3, [.int 100, .ref qb, .int du, .long fa, .int br, .int tu, .int ta, .int 0, .ref ql])) := by rw [eh6]; exact (va_up_self _ _ _)
    exact ur_rv hx hb hr hlocks hI hQ (by rw [eh6]; simp only [um_posT, c2, ↓reduceIte]) dT_work_21
abbrev rmkT_work1 : Room := { frames := 2, cells := 0, slots := 0, locals := 46 }
set_option maxHeartbeats 4000000 in
set_option maxRecDepth 100000 in
theorem kT_work1 (l : Launch) (D : va_G) (E : ur_Ev) (h : ur_M) (q : Nat) (qb : Nat) (ql : Nat) (du : Int32) (br : Int32) (tu : Int32) (ta : Int32) (ps : Int32) (fa : Int64) (qm : Nat) (q1 : Nat) (f : Nat → Option Nat) (R : Nat → Nat → Int32) (g : Nat → Int32) (o : Nat → Int32) (mv : Int32) (x : Int32) (f0 : h q = some (.inr (3, [.int 100, .ref qb, .int du, .long fa, .int br, .int tu, .int ta, .int ps, .ref ql]))) (f1 : h ql = some (.inl (E.1 3, 64, .inr (.inr (.inr (.inr f)))))) (f2 : h qb = some (.inl (E.1 0, 100, .inl o))) (f3 : h qm = some (.inr (1, [.ref q1]))) (f4 : h q1 = some (.inl (E.1 0, 4000, .inl g))) (hrow : um_rowsAt E h f R) (hrb : ∀ j, j < 64 → f j ≠ some qb) : ur_Mv l yT_work wsT_work rmkT_work1 D vwCl (ur_v E) [.ref q, .int 1, .int mv, .int x, .ref qm] h (fun h2 => h2 = va_up (va_up h qb (some (.inl (E.1 0, 100, .inl (um_bring R ps o 100))))) q (some (.inr (3, [.int 100, .ref qb, .int du, .long fa, .int 1, .int tu, .int mv, .int (ps + 1), .ref ql])))) 0 0 := by
  intro sz
  refine ur_of (cc := cT_work) (maxL := 5) (ret := none) (by decide) rfl (Nat.le_of_ble_eq_true rfl) ?_
  intro p e s m args below meth c ls Q hsz hx hb hml hr hlocks hnm hown hts hO hK hI hQ hl
  subst hsz
  have hV := hK.1
  have hts : ∀ w ∈ ur_G, w.before args s = true := fun w hw => hts w (List.mem_cons_of_mem _ hw)
  have hZ : ur_Z E (ur_A h s.heap.size) s s.heap := hO.1
  have hown : s.vm.findClass "UnitRoom$Tape" = some m.cls := hown
  have hl : lv_has ls 5 [(0, .ref q), (1, .int 1), (2, .int mv), (3, .int x), (4, .ref qm)] := hl
  refine lv_iload_n hx hb dT_work_0 rfl (lv_at hl 1 rfl) ?_
  refine lv_if_ne (tgt := 22) hx hb dT_work_1 (by decide) (fun c1 => ?_) (fun c1 => absurd c1 (by decide))
  refine lv_iload_n hx hb dT_work_22 rfl (lv_at hl 1 rfl) ?_
  refine lv_iconst (v := 1) hx hb dT_work_23 (by decide) ?_
  refine lv_icmp_ne (tgt := 39) hx hb dT_work_24 (by decide) (fun c2 => absurd c2 (by decide)) (fun c2 => ?_)
  refine lv_aload_n hx hb dT_work_27 rfl (lv_at hl 0 rfl) ?_
  refine lv_aload_n hx hb dT_work_28 rfl (lv_at hl 0 rfl) ?_
  refine va_get (D := D) (ci := 3) (v := .int ps) (C := "UnitRoom$Tape") (T := TT) (N := 9) hx hb hts inT hown hV (ur_one hI.1 f0) 0 rfl rfl 7 (by decide) (hts _ mw116) (fun _ h9 => h9) rfl dT_work_29 ?_
  refine lv_iload_n hx hb dT_work_32 rfl (lv_at hl 2 rfl) ?_
  refine ur_xv (va_runU (As := [.int ps, .int mv]) (rest := []) ⟨hx, hb, hml, hown, hts⟩ (kB_read_T l D E h q qb ql du br tu ta ps fa f R o ps mv f0 f1 f2 (by first | assumption | omega | decide) (by first | assumption | omega | decide) s.heap.size) (va_cwU (owner := "UnitRoom$BlockDevice") 2 hts (ur_gU mw362 mw363 mw364 mw318 mw7 mw319) rfl rfl rfl rfl (by decide +kernel) ⟨(Nat.le_of_ble_eq_true rfl), (Nat.le_of_ble_eq_true rfl)⟩) ⟨ur_blind, va_recv hV (ur_one hI.1 f0) (ci := 3) (q0 := 0) rfl rfl, ur_pre hI hO hK (fun _ _ q => q)⟩ rfl rfl hl.1 rfl (lv_room (Nat.le_of_ble_eq_true rfl)) dT_work_33 ⟨Nat.le_of_ble_eq_true rfl, Nat.le_of_ble_eq_true rfl⟩) hI (fun h3 H locs p3 hI => ?_)
  have eh3 := p3
  have fq4 : h3 q = some (.inr (3, [.int 100, .ref qb, .int du, .long fa, .int 1, .int tu, .int mv, .int ps, .ref ql])) := by rw [eh3]; exact (va_up_self _ _ _)
  have fq5 : h3 ql = some (.inl (E.1 3, 64, .inr (.inr (.inr (.inr f))))) := by rw [eh3]; exact ((va_up_ne _ _ (ur_ne f1 f0 (by intro z; simp at z))).trans ((va_up_ne _ _ (ur_ne f1 f2 (by intro z; simp at z))).trans f1))
  have fq6 : h3 qb = some (.inl (E.1 0, 100, .inl (um_bring R ps o 100))) := by rw [eh3]; exact ((va_up_ne _ _ (ur_ne f2 f0 (by intro z; simp at z))).trans (va_up_self _ _ _))
  have fq7 : h3 qm = some (.inr (1, [.ref q1])) := by rw [eh3]; exact ((va_up_ne _ _ (ur_ne f3 f0 (by intro z; simp at z))).trans ((va_up_ne _ _ (ur_ne f3 f2 (by intro z; simp at z))).trans f3))
  have fq8 : h3 q1 = some (.inl (E.1 0, 4000, .inl g)) := by rw [eh3]; exact ((va_up_ne _ _ (ur_ne f4 f0 (by intro z; simp at z))).trans ((va_up_ne _ _ (ur_ne f4 f2 (by intro z; simp at z))).trans f4))
  refine lv_goto (tgt := 50) hx hb dT_work_36 (by decide) ?_
  refine lv_aload_n hx hb dT_work_50 rfl (lv_at hl 0 rfl) ?_
  refine lv_dup hx hb dT_work_51 rfl ?_
  refine va_get (D := D) (ci := 3) (v := .int ps) (C := "UnitRoom$Tape") (T := TT) (N := 9) hx hb hts inT hown hV (ur_one hI.1 fq4) 0 rfl rfl 7 (by decide) (hts _ mw116) (fun _ h9 => h9) rfl dT_work_52 ?_
  refine lv_iconst (v := 1) hx hb dT_work_55 (by decide) ?_
  refine lv_iadd hx hb dT_work_56 ?_
  refine ur_put (D := D) (ci := 3) (v := .int (ps + 1)) (ty := .int) (C := "UnitRoom$Tape") (T := TT) (N := 9) hx hb hts inT tyT tyT_ok nmT hown hV hI fq4 rfl 7 (by decide) (hts _ mw116) (fun _ h9 => h9) rfl (by decide +kernel) rfl rfl (Nat.le_of_ble_eq_true rfl) dT_work_57 (fun H locs hI => ?_)
  obtain ⟨h9, eh9⟩ : ∃ z : ur_M, z = va_up h3 q (some (.inr (3, [.int 100, .ref qb, .int du, .long fa, .int 1, .int tu, .int mv, .int (ps + 1), .ref ql]))) := ⟨_, rfl⟩
  replace hI : ur_I D vwCl (ur_A h s.heap.size) s.heap h9 H locs := by rw [eh9]; exact hI
  have fq10 : h9 q = some (.inr (3, [.int 100, .ref qb, .int du, .long fa, .int 1, .int tu, .int mv, .int (ps + 1), .ref ql])) := by rw [eh9]; exact (va_up_self _ _ _)
  have fq11 : h9 ql = some (.inl (E.1 3, 64, .inr (.inr (.inr (.inr f))))) := by rw [eh9]; exact ((va_up_ne _ _ (ur_ne fq5 fq4 (by intro z; simp at z))).trans fq5)
  have fq12 : h9 qb = some (.inl (E.1 0, 100, .inl (um_bring R ps o 100))) := by rw [eh9]; exact ((va_up_ne _ _ (ur_ne fq6 fq4 (by intro z; simp at z))).trans fq6)
  have fq13 : h9 qm = some (.inr (1, [.ref q1])) := by rw [eh9]; exact ((va_up_ne _ _ (ur_ne fq7 fq4 (by intro z; simp at z))).trans fq7)
  have fq14 : h9 q1 = some (.inl (E.1 0, 4000, .inl g)) := by rw [eh9]; exact ((va_up_ne _ _ (ur_ne fq8 fq4 (by intro z; simp at z))).trans fq8)
  exact ur_rv hx hb hr hlocks hI hQ (by rw [eh9, eh3, bx_uu]) dT_work_60
abbrev rmkT_work2 : Room := { frames := 3, cells := 1, slots := 100, locals := 72 }
set_option maxHeartbeats 4000000 in
set_option maxRecDepth 100000 in
theorem kT_work2 (l : Launch) (D : va_G) (E : ur_Ev) (h : ur_M) (q : Nat) (qb : Nat) (ql : Nat) (du : Int32) (br : Int32) (tu : Int32) (ta : Int32) (ps : Int32) (fa : Int64) (qm : Nat) (q1 : Nat) (f : Nat → Option Nat) (R : Nat → Nat → Int32) (g : Nat → Int32) (o : Nat → Int32) (mv : Int32) (x : Int32) (f0 : h q = some (.inr (3, [.int 100, .ref qb, .int du, .long fa, .int br, .int tu, .int ta, .int ps, .ref ql]))) (f1 : h ql = some (.inl (E.1 3, 64, .inr (.inr (.inr (.inr f)))))) (f2 : h qb = some (.inl (E.1 0, 100, .inl o))) (f3 : h qm = some (.inr (1, [.ref q1]))) (f4 : h q1 = some (.inl (E.1 0, 4000, .inl g))) (hrow : um_rowsAt E h f R) (hrq : ∀ j, j < 64 → f j ≠ some q1) (hp0 : ¬ ps < 0) (hp1 : ps < 64) : ur_Mv l yT_work wsT_work rmkT_work2 D vwCl (ur_v E) [.ref q, .int 2, .int mv, .int x, .ref qm] h (fun h2 => ∃ h3, um_wrote E h ql f ps.toNatClampNeg (um_cin g (R ps.toNatClampNeg) mv 100) h3 ∧ h2 = va_up h3 q (some (.inr (3, [.int 100, .ref qb, .int du, .long fa, .int br, .int tu, .int ta, .int (ps + 1), .ref ql])))) 1 100 := by
  intro sz
  refine ur_of (cc := cT_work) (maxL := 5) (ret := none) (by decide) rfl (Nat.le_of_ble_eq_true rfl) ?_
  intro p e s m args below meth c ls Q hsz hx hb hml hr hlocks hnm hown hts hO hK hI hQ hl
  subst hsz
  have hV := hK.1
  have hts : ∀ w ∈ ur_G, w.before args s = true := fun w hw => hts w (List.mem_cons_of_mem _ hw)
  have hZ : ur_Z E (ur_A h s.heap.size) s s.heap := hO.1
  have hown : s.vm.findClass "UnitRoom$Tape" = some m.cls := hown
  have hl : lv_has ls 5 [(0, .ref q), (1, .int 2), (2, .int mv), (3, .int x), (4, .ref qm)] := hl
  refine lv_iload_n hx hb dT_work_0 rfl (lv_at hl 1 rfl) ?_
  refine lv_if_ne (tgt := 22) hx hb dT_work_1 (by decide) (fun c1 => ?_) (fun c1 => absurd c1 (by decide))
  refine lv_iload_n hx hb dT_work_22 rfl (lv_at hl 1 rfl) ?_
  refine lv_iconst (v := 1) hx hb dT_work_23 (by decide) ?_
  refine lv_icmp_ne (tgt := 39) hx hb dT_work_24 (by decide) (fun c2 => ?_) (fun c2 => absurd c2 (by decide))
  refine lv_aload_n hx hb dT_work_39 rfl (lv_at hl 0 rfl) ?_
  refine lv_aload_n hx hb dT_work_40 rfl (lv_at hl 0 rfl) ?_
  refine va_get (D := D) (ci := 3) (v := .int ps) (C := "UnitRoom$Tape") (T := TT) (N := 9) hx hb hts inT hown hV (ur_one hI.1 f0) 0 rfl rfl 7 (by decide) (hts _ mw116) (fun _ h9 => h9) rfl dT_work_41 ?_
  refine lv_iload_n hx hb dT_work_44 rfl (lv_at hl 2 rfl) ?_
  refine lv_aload hx hb dT_work_45 (lv_at hl 4 rfl) ?_
  refine ur_xv (va_runU (As := [.int ps, .int mv, .ref qm]) (rest := []) ⟨hx, hb, hml, hown, hts⟩ (kB_write_T l D E h q qb ql du br tu ta ps fa qm q1 f R g ps mv f0 f1 f3 f4 (by first | assumption | omega | decide) (by first | assumption | omega | decide) (by first | assumption | omega | decide) (by first | assumption | omega | decide) s.heap.size) (va_cwU (owner := "UnitRoom$BlockDevice") 3 hts (ur_gU mw365 mw366 mw367 mw338 mw7 mw339) rfl rfl rfl rfl (by decide +kernel) ⟨(Nat.le_of_ble_eq_true rfl), (Nat.le_of_ble_eq_true rfl)⟩) ⟨ur_blind, va_recv hV (ur_one hI.1 f0) (ci := 3) (q0 := 0) rfl rfl, ur_pre hI hO hK (fun _ _ q => q)⟩ rfl rfl hl.1 rfl (lv_room (Nat.le_of_ble_eq_true rfl)) dT_work_47 ⟨Nat.le_of_ble_eq_true rfl, Nat.le_of_ble_eq_true rfl⟩) hI (fun h3 H locs p3 hI => ?_)
  have hk9 : h3 q = some (.inr (3, [.int 100, .ref qb, .int du, .long fa, .int br, .int tu, .int ta, .int ps, .ref ql])) := um_wrote.keep p3 f0 (ur_ne f0 f1 (by intro z; simp at z)) (fun a9 ha9 => ur_ne f0 (hrow.1 _ (um_lt2 hp0 hp1 (by decide)) a9 ha9) (by intro z; simp at z))
  refine lv_aload_n hx hb dT_work_50 rfl (lv_at hl 0 rfl) ?_
  refine lv_dup hx hb dT_work_51 rfl ?_
  refine va_get (D := D) (ci := 3) (v := .int ps) (C := "UnitRoom$Tape") (T := TT) (N := 9) hx hb hts inT hown hV (ur_one hI.1 hk9) 0 rfl rfl 7 (by decide) (hts _ mw116) (fun _ h9 => h9) rfl dT_work_52 ?_
  refine lv_iconst (v := 1) hx hb dT_work_55 (by decide) ?_
  refine lv_iadd hx hb dT_work_56 ?_
  refine ur_put (D := D) (ci := 3) (v := .int (ps + 1)) (ty := .int) (C := "UnitRoom$Tape") (T := TT) (N := 9) hx hb hts inT tyT tyT_ok nmT hown hV hI hk9 rfl 7 (by decide) (hts _ mw116) (fun _ h9 => h9) rfl (by decide +kernel) rfl rfl (Nat.le_of_ble_eq_true rfl) dT_work_57 (fun H locs hI => ?_)
  obtain ⟨h4, eh4⟩ : ∃ z : ur_M, z = va_up h3 q (some (.inr (3, [.int 100, .ref qb, .int du, .long fa, .int br, .int tu, .int ta, .int (ps + 1), .ref ql]))) := ⟨_, rfl⟩
  replace hI : ur_I D vwCl (ur_A h s.heap.size) s.heap h4 H locs := by rw [eh4]; exact hI
  have fq5 : h4 q = some (.inr (3, [.int 100, .ref qb, .int du, .long fa, .int br, .int tu, .int ta, .int (ps + 1), .ref ql])) := by rw [eh4]; exact (va_up_self _ _ _)
  exact ur_rv hx hb hr hlocks hI hQ ⟨_, p3, eh4⟩ dT_work_60
theorem dK_faultOf_0 : decode cK_faultOf 0 = .ok (.iload_n 1, 1) := by decide +kernel
theorem dK_faultOf_1 : decode cK_faultOf 1 = .ok (.ifCond .ne 9, 3) := by decide +kernel
theorem dK_faultOf_4 : decode cK_faultOf 4 = .ok (.iload_n 2, 1) := by decide +kernel
theorem dK_faultOf_5 : decode cK_faultOf 5 = .ok (.ifCond .eq 5, 3) := by decide +kernel
theorem dK_faultOf_8 : decode cK_faultOf 8 = .ok (.iconst 5, 1) := by decide +kernel
theorem dK_faultOf_9 : decode cK_faultOf 9 = .ok (.ireturn, 1) := by decide +kernel
theorem dK_faultOf_10 : decode cK_faultOf 10 = .ok (.iload_n 3, 1) := by decide +kernel
theorem dK_faultOf_11 : decode cK_faultOf 11 = .ok (.ifCond .lt 9, 3) := by decide +kernel
theorem dK_faultOf_14 : decode cK_faultOf 14 = .ok (.iload_n 3, 1) := by decide +kernel
theorem dK_faultOf_15 : decode cK_faultOf 15 = .ok (.bipush 64, 2) := by decide +kernel
theorem dK_faultOf_17 : decode cK_faultOf 17 = .ok (.if_icmp .lt 8, 3) := by decide +kernel
theorem dK_faultOf_20 : decode cK_faultOf 20 = .ok (.bipush 6, 2) := by decide +kernel
theorem dK_faultOf_22 : decode cK_faultOf 22 = .ok (.goto 4, 3) := by decide +kernel
theorem dK_faultOf_25 : decode cK_faultOf 25 = .ok (.iconst 0, 1) := by decide +kernel
theorem dK_faultOf_26 : decode cK_faultOf 26 = .ok (.ireturn, 1) := by decide +kernel
abbrev rmkK_fault : Room := { frames := 0, cells := 0, slots := 0, locals := 0 }
set_option maxHeartbeats 4000000 in
set_option maxRecDepth 100000 in
theorem kK_fault (l : Launch) (D : va_G) (E : ur_Ev) (h : ur_M) (q : Nat) (qb : Nat) (ql : Nat) (du : Int32) (br : Int32) (tu : Int32) (ta : Int32) (fa : Int64) (op : Int32) (mv : Int32) (x : Int32) (f0 : h q = some (.inr (4, [.int 100, .ref qb, .int du, .long fa, .int br, .int tu, .int ta, .ref ql])))  : ur_Mi l yK_faultOf wsK_faultOf rmkK_fault D vwCl (ur_v E) [.ref q, .int op, .int mv, .int x] h (fun r h2 => r = um_fK op mv x ∧ h2 = h) 0 0 := by
  intro sz
  refine ur_of (cc := cK_faultOf) (maxL := 4) (ret := (some .int)) (by decide) rfl (Nat.le_of_ble_eq_true rfl) ?_
  intro p e s m args below meth c ls Q hsz hx hb hml hr hlocks hnm hown hts hO hK hI hQ hl
  subst hsz
  have hV := hK.1
  have hts : ∀ w ∈ ur_G, w.before args s = true := fun w hw => hts w (List.mem_cons_of_mem _ hw)
  have hZ : ur_Z E (ur_A h s.heap.size) s s.heap := hO.1
  have hown : s.vm.findClass "UnitRoom$Disk" = some m.cls := hown
  have hl : lv_has ls 4 [(0, .ref q), (1, .int op), (2, .int mv), (3, .int x)] := hl
  refine lv_iload_n hx hb dK_faultOf_0 rfl (lv_at hl 1 rfl) ?_
  refine lv_if_ne (tgt := 10) hx hb dK_faultOf_1 (by decide) (fun c1 => ?_) (fun c1 => ?_)
  · refine lv_iload_n hx hb dK_faultOf_10 rfl (lv_at hl 3 rfl) ?_
    refine lv_if_lt (tgt := 20) hx hb dK_faultOf_11 (by decide) (fun c2 => ?_) (fun c2 => ?_)
    · refine lv_bipush (v := 6) hx hb dK_faultOf_20 (by decide) ?_
      refine lv_goto (tgt := 26) hx hb dK_faultOf_22 (by decide) ?_
      exact ur_ri hx hb hr hlocks hI hQ ⟨(by first | (simp only [um_fK, c1, c2, ↓reduceIte]; done) | (simp only [um_fK, c1, c2, ↓reduceIte]; rfl) | rfl), rfl⟩ dK_faultOf_26
    · refine lv_iload_n hx hb dK_faultOf_14 rfl (lv_at hl 3 rfl) ?_
      refine lv_bipush (v := 64) hx hb dK_faultOf_15 (by decide) ?_
      refine lv_icmp_lt (tgt := 25) hx hb dK_faultOf_17 (by decide) (fun c3 => ?_) (fun c3 => ?_)
      · refine lv_iconst (v := 0) hx hb dK_faultOf_25 (by decide) ?_
        exact ur_ri hx hb hr hlocks hI hQ ⟨(by first | (simp only [um_fK, c1, c2, c3, ↓reduceIte]; done) | (simp only [um_fK, c1, c2, c3, ↓reduceIte]; rfl) | rfl), rfl⟩ dK_faultOf_26
      · refine lv_bipush (v := 6) hx hb dK_faultOf_20 (by decide) ?_
        refine lv_goto (tgt := 26) hx hb dK_faultOf_22 (by decide) ?_
        exact ur_ri hx hb hr hlocks hI hQ ⟨(by first | (simp only [um_fK, c1, c2, c3, ↓reduceIte]; done) | (simp only [um_fK, c1, c2, c3, ↓reduceIte]; rfl) | rfl), rfl⟩ dK_faultOf_26
  · refine lv_iload_n hx hb dK_faultOf_4 rfl (lv_at hl 2 rfl) ?_
    refine lv_if_eq (tgt := 10) hx hb dK_faultOf_5 (by decide) (fun c4 => ?_) (fun c4 => ?_)
    · refine lv_iload_n hx hb dK_faultOf_10 rfl (lv_at hl 3 rfl) ?_
      refine lv_if_lt (tgt := 20) hx hb dK_faultOf_11 (by decide) (fun c5 => ?_) (fun c5 => ?_)
      · refine lv_bipush (v := 6) hx hb dK_faultOf_20 (by decide) ?_
        refine lv_goto (tgt := 26) hx hb dK_faultOf_22 (by decide) ?_
        exact ur_ri hx hb hr hlocks hI hQ ⟨(by first | (simp only [um_fK, c1, c4, c5, ↓reduceIte]; done) | (simp only [um_fK, c1, c4, c5, ↓reduceIte]; rfl) | rfl), rfl⟩ dK_faultOf_26
      · refine lv_iload_n hx hb dK_faultOf_14 rfl (lv_at hl 3 rfl) ?_
        refine lv_bipush (v := 64) hx hb dK_faultOf_15 (by decide) ?_
        refine lv_icmp_lt (tgt := 25) hx hb dK_faultOf_17 (by decide) (fun c6 => ?_) (fun c6 => ?_)
        · refine lv_iconst (v := 0) hx hb dK_faultOf_25 (by decide) ?_
          exact ur_ri hx hb hr hlocks hI hQ ⟨(by first | (simp only [um_fK, c1, c4, c5, c6, ↓reduceIte]; done) | (simp only [um_fK, c1, c4, c5, c6, ↓reduceIte]; rfl) | rfl), rfl⟩ dK_faultOf_26
        · refine lv_bipush (v := 6) hx hb dK_faultOf_20 (by decide) ?_
          refine lv_goto (tgt := 26) hx hb dK_faultOf_22 (by decide) ?_
          exact ur_ri hx hb hr hlocks hI hQ ⟨(by first | (simp only [um_fK, c1, c4, c5, c6, ↓reduceIte]; done) | (simp only [um_fK, c1, c4, c5, c6, ↓reduceIte]; rfl) | rfl), rfl⟩ dK_faultOf_26
    · refine lv_iconst (v := 5) hx hb dK_faultOf_8 (by decide) ?_
      exact ur_ri hx hb hr hlocks hI hQ ⟨(by first | (simp only [um_fK, c1, c4, ↓reduceIte]; done) | (simp only [um_fK, c1, c4, ↓reduceIte]; rfl) | rfl), rfl⟩ dK_faultOf_9
theorem dK_tell_0 : decode cK_tell 0 = .ok (.iconst (-1), 1) := by decide +kernel
theorem dK_tell_1 : decode cK_tell 1 = .ok (.ireturn, 1) := by decide +kernel
abbrev rmkK_tell : Room := { frames := 0, cells := 0, slots := 0, locals := 0 }
set_option maxHeartbeats 4000000 in
set_option maxRecDepth 100000 in
theorem kK_tell (l : Launch) (D : va_G) (E : ur_Ev) (h : ur_M) (q : Nat) (qb : Nat) (ql : Nat) (du : Int32) (br : Int32) (tu : Int32) (ta : Int32) (fa : Int64) (f0 : h q = some (.inr (4, [.int 100, .ref qb, .int du, .long fa, .int br, .int tu, .int ta, .ref ql])))  : ur_Mi l yK_tell wsK_tell rmkK_tell D vwCl (ur_v E) [.ref q] h (fun r h2 => r = (-1) ∧ h2 = h) 0 0 := by
  intro sz
  refine ur_of (cc := cK_tell) (maxL := 1) (ret := (some .int)) (by decide) rfl (Nat.le_of_ble_eq_true rfl) ?_
  intro p e s m args below meth c ls Q hsz hx hb hml hr hlocks hnm hown hts hO hK hI hQ hl
  subst hsz
  have hV := hK.1
  have hts : ∀ w ∈ ur_G, w.before args s = true := fun w hw => hts w (List.mem_cons_of_mem _ hw)
  have hZ : ur_Z E (ur_A h s.heap.size) s s.heap := hO.1
  have hown : s.vm.findClass "UnitRoom$Disk" = some m.cls := hown
  have hl : lv_has ls 1 [(0, .ref q)] := hl
  refine lv_iconst (v := (-1)) hx hb dK_tell_0 (by decide) ?_
  exact ur_ri hx hb hr hlocks hI hQ ⟨(by first | (simp only [↓reduceIte]; done) | (simp only [↓reduceIte]; rfl) | rfl), rfl⟩ dK_tell_1
theorem dK_work_0 : decode cK_work 0 = .ok (.iload_n 1, 1) := by decide +kernel
theorem dK_work_1 : decode cK_work 1 = .ok (.iconst 1, 1) := by decide +kernel
theorem dK_work_2 : decode cK_work 2 = .ok (.if_icmp .ne 12, 3) := by decide +kernel
theorem dK_work_5 : decode cK_work 5 = .ok (.aload_n 0, 1) := by decide +kernel
theorem dK_work_6 : decode cK_work 6 = .ok (.iload_n 3, 1) := by decide +kernel
theorem dK_work_7 : decode cK_work 7 = .ok (.iload_n 2, 1) := by decide +kernel
theorem dK_work_8 : decode cK_work 8 = .ok (.invokevirtual 9, 3) := by decide +kernel
theorem dK_work_11 : decode cK_work 11 = .ok (.goto 16, 3) := by decide +kernel
theorem dK_work_14 : decode cK_work 14 = .ok (.iload_n 1, 1) := by decide +kernel
theorem dK_work_15 : decode cK_work 15 = .ok (.iconst 2, 1) := by decide +kernel
theorem dK_work_16 : decode cK_work 16 = .ok (.if_icmp .ne 11, 3) := by decide +kernel
theorem dK_work_19 : decode cK_work 19 = .ok (.aload_n 0, 1) := by decide +kernel
theorem dK_work_20 : decode cK_work 20 = .ok (.iload_n 3, 1) := by decide +kernel
theorem dK_work_21 : decode cK_work 21 = .ok (.iload_n 2, 1) := by decide +kernel
theorem dK_work_22 : decode cK_work 22 = .ok (.aload 4, 2) := by decide +kernel
theorem dK_work_24 : decode cK_work 24 = .ok (.invokevirtual 15, 3) := by decide +kernel
theorem dK_work_27 : decode cK_work 27 = .ok (.return_, 1) := by decide +kernel
abbrev rmkK_work0 : Room := { frames := 0, cells := 0, slots := 0, locals := 0 }
set_option maxHeartbeats 4000000 in
set_option maxRecDepth 100000 in
theorem kK_work0 (l : Launch) (D : va_G) (E : ur_Ev) (h : ur_M) (q : Nat) (qb : Nat) (ql : Nat) (du : Int32) (br : Int32) (tu : Int32) (ta : Int32) (fa : Int64) (qm : Nat) (mv : Int32) (x : Int32) (f0 : h q = some (.inr (4, [.int 100, .ref qb, .int du, .long fa, .int br, .int tu, .int ta, .ref ql])))  : ur_Mv l yK_work wsK_work rmkK_work0 D vwCl (ur_v E) [.ref q, .int 0, .int mv, .int x, .ref qm] h (fun h2 => h2 = h) 0 0 := by
  intro sz
  refine ur_of (cc := cK_work) (maxL := 5) (ret := none) (by decide) rfl (Nat.le_of_ble_eq_true rfl) ?_
  intro p e s m args below meth c ls Q hsz hx hb hml hr hlocks hnm hown hts hO hK hI hQ hl
  subst hsz
  have hV := hK.1
  have hts : ∀ w ∈ ur_G, w.before args s = true := fun w hw => hts w (List.mem_cons_of_mem _ hw)
  have hZ : ur_Z E (ur_A h s.heap.size) s s.heap := hO.1
  have hown : s.vm.findClass "UnitRoom$Disk" = some m.cls := hown
  have hl : lv_has ls 5 [(0, .ref q), (1, .int 0), (2, .int mv), (3, .int x), (4, .ref qm)] := hl
  refine lv_iload_n hx hb dK_work_0 rfl (lv_at hl 1 rfl) ?_
  refine lv_iconst (v := 1) hx hb dK_work_1 (by decide) ?_
  refine lv_icmp_ne (tgt := 14) hx hb dK_work_2 (by decide) (fun c1 => ?_) (fun c1 => absurd c1 (by decide))
  refine lv_iload_n hx hb dK_work_14 rfl (lv_at hl 1 rfl) ?_
  refine lv_iconst (v := 2) hx hb dK_work_15 (by decide) ?_
  refine lv_icmp_ne (tgt := 27) hx hb dK_work_16 (by decide) (fun c2 => ?_) (fun c2 => absurd c2 (by decide))
  exact ur_rv hx hb hr hlocks hI hQ rfl dK_work_27
abbrev rmkK_work1 : Room := { frames := 2, cells := 0, slots := 0, locals := 46 }
set_option maxHeartbeats 4000000 in
set_option maxRecDepth 100000 in
theorem kK_work1 (l : Launch) (D : va_G) (E : ur_Ev) (h : ur_M) (q : Nat) (qb : Nat) (ql : Nat) (du : Int32) (br : Int32) (tu : Int32) (ta : Int32) (fa : Int64) (qm : Nat) (q1 : Nat) (f : Nat → Option Nat) (R : Nat → Nat → Int32) (g : Nat → Int32) (o : Nat → Int32) (mv : Int32) (x : Int32) (f0 : h q = some (.inr (4, [.int 100, .ref qb, .int du, .long fa, .int br, .int tu, .int ta, .ref ql]))) (f1 : h ql = some (.inl (E.1 3, 64, .inr (.inr (.inr (.inr f)))))) (f2 : h qb = some (.inl (E.1 0, 100, .inl o))) (f3 : h qm = some (.inr (1, [.ref q1]))) (f4 : h q1 = some (.inl (E.1 0, 4000, .inl g))) (hrow : um_rowsAt E h f R) (hrb : ∀ j, j < 64 → f j ≠ some qb) : ur_Mv l yK_work wsK_work rmkK_work1 D vwCl (ur_v E) [.ref q, .int 1, .int mv, .int x, .ref qm] h (fun h2 => h2 = va_up (va_up h qb (some (.inl (E.1 0, 100, .inl (um_bring R x o 100))))) q (some (.inr (4, [.int 100, .ref qb, .int du, .long fa, .int 1, .int tu, .int mv, .ref ql])))) 0 0 := by
  intro sz
  refine ur_of (cc := cK_work) (maxL := 5) (ret := none) (by decide) rfl (Nat.le_of_ble_eq_true rfl) ?_
  intro p e s m args below meth c ls Q hsz hx hb hml hr hlocks hnm hown hts hO hK hI hQ hl
  subst hsz
  have hV := hK.1
  have hts : ∀ w ∈ ur_G, w.before args s = true := fun w hw => hts w (List.mem_cons_of_mem _ hw)
  have hZ : ur_Z E (ur_A h s.heap.size) s s.heap := hO.1
  have hown : s.vm.findClass "UnitRoom$Disk" = some m.cls := hown
  have hl : lv_has ls 5 [(0, .ref q), (1, .int 1), (2, .int mv), (3, .int x), (4, .ref qm)] := hl
  refine lv_iload_n hx hb dK_work_0 rfl (lv_at hl 1 rfl) ?_
  refine lv_iconst (v := 1) hx hb dK_work_1 (by decide) ?_
  refine lv_icmp_ne (tgt := 14) hx hb dK_work_2 (by decide) (fun c1 => absurd c1 (by decide)) (fun c1 => ?_)
  refine lv_aload_n hx hb dK_work_5 rfl (lv_at hl 0 rfl) ?_
  refine lv_iload_n hx hb dK_work_6 rfl (lv_at hl 3 rfl) ?_
  refine lv_iload_n hx hb dK_work_7 rfl (lv_at hl 2 rfl) ?_
  refine ur_xv (va_runU (As := [.int x, .int mv]) (rest := []) ⟨hx, hb, hml, hown, hts⟩ (kB_read_K l D E h q qb ql du br tu ta fa f R o x mv f0 f1 f2 (by first | assumption | omega | decide) (by first | assumption | omega | decide) s.heap.size) (va_cwU (owner := "UnitRoom$BlockDevice") 2 hts (ur_gU mw314 mw315 mw317 mw318 mw7 mw319) rfl rfl rfl rfl (by decide +kernel) ⟨(Nat.le_of_ble_eq_true rfl), (Nat.le_of_ble_eq_true rfl)⟩) ⟨ur_blind, va_recv hV (ur_one hI.1 f0) (ci := 4) (q0 := 0) rfl rfl, ur_pre hI hO hK (fun _ _ q => q)⟩ rfl rfl hl.1 rfl (lv_room (Nat.le_of_ble_eq_true rfl)) dK_work_8 ⟨Nat.le_of_ble_eq_true rfl, Nat.le_of_ble_eq_true rfl⟩) hI (fun h2 H locs p2 hI => ?_)
  have eh2 := p2
  have fq3 : h2 q = some (.inr (4, [.int 100, .ref qb, .int du, .long fa, .int 1, .int tu, .int mv, .ref ql])) := by rw [eh2]; exact (va_up_self _ _ _)
  have fq4 : h2 ql = some (.inl (E.1 3, 64, .inr (.inr (.inr (.inr f))))) := by rw [eh2]; exact ((va_up_ne _ _ (ur_ne f1 f0 (by intro z; simp at z))).trans ((va_up_ne _ _ (ur_ne f1 f2 (by intro z; simp at z))).trans f1))
  have fq5 : h2 qb = some (.inl (E.1 0, 100, .inl (um_bring R x o 100))) := by rw [eh2]; exact ((va_up_ne _ _ (ur_ne f2 f0 (by intro z; simp at z))).trans (va_up_self _ _ _))
  have fq6 : h2 qm = some (.inr (1, [.ref q1])) := by rw [eh2]; exact ((va_up_ne _ _ (ur_ne f3 f0 (by intro z; simp at z))).trans ((va_up_ne _ _ (ur_ne f3 f2 (by intro z; simp at z))).trans f3))
  have fq7 : h2 q1 = some (.inl (E.1 0, 4000, .inl g)) := by rw [eh2]; exact ((va_up_ne _ _ (ur_ne f4 f0 (by intro z; simp at z))).trans ((va_up_ne _ _ (ur_ne f4 f2 (by intro z; simp at z))).trans f4))
  refine lv_goto (tgt := 27) hx hb dK_work_11 (by decide) ?_
  exact ur_rv hx hb hr hlocks hI hQ (by first | rfl | rw [eh2]) dK_work_27
abbrev rmkK_work2 : Room := { frames := 3, cells := 1, slots := 100, locals := 72 }
set_option maxHeartbeats 4000000 in
set_option maxRecDepth 100000 in
theorem kK_work2 (l : Launch) (D : va_G) (E : ur_Ev) (h : ur_M) (q : Nat) (qb : Nat) (ql : Nat) (du : Int32) (br : Int32) (tu : Int32) (ta : Int32) (fa : Int64) (qm : Nat) (q1 : Nat) (f : Nat → Option Nat) (R : Nat → Nat → Int32) (g : Nat → Int32) (o : Nat → Int32) (mv : Int32) (x : Int32) (f0 : h q = some (.inr (4, [.int 100, .ref qb, .int du, .long fa, .int br, .int tu, .int ta, .ref ql]))) (f1 : h ql = some (.inl (E.1 3, 64, .inr (.inr (.inr (.inr f)))))) (f2 : h qb = some (.inl (E.1 0, 100, .inl o))) (f3 : h qm = some (.inr (1, [.ref q1]))) (f4 : h q1 = some (.inl (E.1 0, 4000, .inl g))) (hrow : um_rowsAt E h f R) (hrq : ∀ j, j < 64 → f j ≠ some q1) (hp0 : ¬ x < 0) (hp1 : x < 64) : ur_Mv l yK_work wsK_work rmkK_work2 D vwCl (ur_v E) [.ref q, .int 2, .int mv, .int x, .ref qm] h (fun h2 => um_wrote E h ql f x.toNatClampNeg (um_cin g (R x.toNatClampNeg) mv 100) h2) 1 100 := by
  intro sz
  refine ur_of (cc := cK_work) (maxL := 5) (ret := none) (by decide) rfl (Nat.le_of_ble_eq_true rfl) ?_
  intro p e s m args below meth c ls Q hsz hx hb hml hr hlocks hnm hown hts hO hK hI hQ hl
  subst hsz
  have hV := hK.1
  have hts : ∀ w ∈ ur_G, w.before args s = true := fun w hw => hts w (List.mem_cons_of_mem _ hw)
  have hZ : ur_Z E (ur_A h s.heap.size) s s.heap := hO.1
  have hown : s.vm.findClass "UnitRoom$Disk" = some m.cls := hown
  have hl : lv_has ls 5 [(0, .ref q), (1, .int 2), (2, .int mv), (3, .int x), (4, .ref qm)] := hl
  refine lv_iload_n hx hb dK_work_0 rfl (lv_at hl 1 rfl) ?_
  refine lv_iconst (v := 1) hx hb dK_work_1 (by decide) ?_
  refine lv_icmp_ne (tgt := 14) hx hb dK_work_2 (by decide) (fun c1 => ?_) (fun c1 => absurd c1 (by decide))
  refine lv_iload_n hx hb dK_work_14 rfl (lv_at hl 1 rfl) ?_
  refine lv_iconst (v := 2) hx hb dK_work_15 (by decide) ?_
  refine lv_icmp_ne (tgt := 27) hx hb dK_work_16 (by decide) (fun c2 => absurd c2 (by decide)) (fun c2 => ?_)
  refine lv_aload_n hx hb dK_work_19 rfl (lv_at hl 0 rfl) ?_
  refine lv_iload_n hx hb dK_work_20 rfl (lv_at hl 3 rfl) ?_
  refine lv_iload_n hx hb dK_work_21 rfl (lv_at hl 2 rfl) ?_
  refine lv_aload hx hb dK_work_22 (lv_at hl 4 rfl) ?_
  refine ur_xv (va_runU (As := [.int x, .int mv, .ref qm]) (rest := []) ⟨hx, hb, hml, hown, hts⟩ (kB_write_K l D E h q qb ql du br tu ta fa qm q1 f R g x mv f0 f1 f3 f4 (by first | assumption | omega | decide) (by first | assumption | omega | decide) (by first | assumption | omega | decide) (by first | assumption | omega | decide) s.heap.size) (va_cwU (owner := "UnitRoom$BlockDevice") 3 hts (ur_gU mw334 mw335 mw337 mw338 mw7 mw339) rfl rfl rfl rfl (by decide +kernel) ⟨(Nat.le_of_ble_eq_true rfl), (Nat.le_of_ble_eq_true rfl)⟩) ⟨ur_blind, va_recv hV (ur_one hI.1 f0) (ci := 4) (q0 := 0) rfl rfl, ur_pre hI hO hK (fun _ _ q => q)⟩ rfl rfl hl.1 rfl (lv_room (Nat.le_of_ble_eq_true rfl)) dK_work_24 ⟨Nat.le_of_ble_eq_true rfl, Nat.le_of_ble_eq_true rfl⟩) hI (fun h3 H locs p3 hI => ?_)
  exact ur_rv hx hb hr hlocks hI hQ p3 dK_work_27
theorem dR_hasRoom_0 : decode cR_hasRoom 0 = .ok (.aload_n 0, 1) := by decide +kernel
theorem dR_hasRoom_1 : decode cR_hasRoom 1 = .ok (.getfield 19, 3) := by decide +kernel
theorem dR_hasRoom_4 : decode cR_hasRoom 4 = .ok (.bipush 100, 2) := by decide +kernel
theorem dR_hasRoom_6 : decode cR_hasRoom 6 = .ok (.if_icmp .ge 7, 3) := by decide +kernel
theorem dR_hasRoom_9 : decode cR_hasRoom 9 = .ok (.iconst 1, 1) := by decide +kernel
theorem dR_hasRoom_10 : decode cR_hasRoom 10 = .ok (.goto 4, 3) := by decide +kernel
theorem dR_hasRoom_13 : decode cR_hasRoom 13 = .ok (.iconst 0, 1) := by decide +kernel
theorem dR_hasRoom_14 : decode cR_hasRoom 14 = .ok (.ireturn, 1) := by decide +kernel
abbrev rmkR_hasRoom : Room := { frames := 0, cells := 0, slots := 0, locals := 0 }
set_option maxHeartbeats 4000000 in
set_option maxRecDepth 100000 in
theorem kR_hasRoom (l : Launch) (D : va_G) (E : ur_Ev) (h : ur_M) (q : Nat) (qb : Nat) (qc : Nat) (a : Nat) (b : Nat) (du : Int32) (br : Int32) (tu : Int32) (ta : Int32) (fa : Int64) (f0 : h q = some (.inr (5, [.int 16, .ref qb, .int du, .long fa, .int br, .int tu, .int ta, .ref qc, .int (nI a), .int (nI b)])))  : ur_Mi l yR_hasRoom wsR_hasRoom rmkR_hasRoom D vwCl (ur_v E) [.ref q] h (fun r h2 => r = um_b (um_hasR (nI b)) ∧ h2 = h) 0 0 := by
  intro sz
  refine ur_of (cc := cR_hasRoom) (maxL := 1) (ret := (some .boolean)) (by decide) rfl (Nat.le_of_ble_eq_true rfl) ?_
  intro p e s m args below meth c ls Q hsz hx hb hml hr hlocks hnm hown hts hO hK hI hQ hl
  subst hsz
  have hV := hK.1
  have hts : ∀ w ∈ ur_G, w.before args s = true := fun w hw => hts w (List.mem_cons_of_mem _ hw)
  have hZ : ur_Z E (ur_A h s.heap.size) s s.heap := hO.1
  have hown : s.vm.findClass "UnitRoom$Reader" = some m.cls := hown
  have hl : lv_has ls 1 [(0, .ref q)] := hl
  refine lv_aload_n hx hb dR_hasRoom_0 rfl (lv_at hl 0 rfl) ?_
  refine va_get (D := D) (ci := 5) (v := .int (nI b)) (C := "UnitRoom$Reader") (T := TR) (N := 10) hx hb hts inR hown hV (ur_one hI.1 f0) 0 rfl rfl 9 (by decide) (hts _ mw65) (fun _ h9 => h9) rfl dR_hasRoom_1 ?_
  refine lv_bipush (v := 100) hx hb dR_hasRoom_4 (by decide) ?_
  refine lv_icmp_ge (tgt := 13) hx hb dR_hasRoom_6 (by decide) (fun c1 => ?_) (fun c1 => ?_)
  · refine lv_iconst (v := 0) hx hb dR_hasRoom_13 (by decide) ?_
    exact ur_rz hx hb hr hlocks hI hQ rfl ⟨(by first | (simp only [um_hasR, c1, ↓reduceIte]; done) | (simp only [um_hasR, c1, ↓reduceIte]; rfl) | rfl), rfl⟩ dR_hasRoom_14
  · refine lv_iconst (v := 1) hx hb dR_hasRoom_9 (by decide) ?_
    refine lv_goto (tgt := 14) hx hb dR_hasRoom_10 (by decide) ?_
    exact ur_rz hx hb hr hlocks hI hQ rfl ⟨(by first | (simp only [um_hasR, c1, ↓reduceIte]; done) | (simp only [um_hasR, c1, ↓reduceIte]; rfl) | rfl), rfl⟩ dR_hasRoom_14
theorem dR_tell_0 : decode cR_tell 0 = .ok (.aload_n 0, 1) := by decide +kernel
theorem dR_tell_1 : decode cR_tell 1 = .ok (.getfield 19, 3) := by decide +kernel
theorem dR_tell_4 : decode cR_tell 4 = .ok (.ireturn, 1) := by decide +kernel
abbrev rmkR_tell : Room := { frames := 0, cells := 0, slots := 0, locals := 0 }
set_option maxHeartbeats 4000000 in
set_option maxRecDepth 100000 in
theorem kR_tell (l : Launch) (D : va_G) (E : ur_Ev) (h : ur_M) (q : Nat) (qb : Nat) (qc : Nat) (a : Nat) (b : Nat) (du : Int32) (br : Int32) (tu : Int32) (ta : Int32) (fa : Int64) (f0 : h q = some (.inr (5, [.int 16, .ref qb, .int du, .long fa, .int br, .int tu, .int ta, .ref qc, .int (nI a), .int (nI b)])))  : ur_Mi l yR_tell wsR_tell rmkR_tell D vwCl (ur_v E) [.ref q] h (fun r h2 => r = nI b ∧ h2 = h) 0 0 := by
  intro sz
  refine ur_of (cc := cR_tell) (maxL := 1) (ret := (some .int)) (by decide) rfl (Nat.le_of_ble_eq_true rfl) ?_
  intro p e s m args below meth c ls Q hsz hx hb hml hr hlocks hnm hown hts hO hK hI hQ hl
  subst hsz
  have hV := hK.1
  have hts : ∀ w ∈ ur_G, w.before args s = true := fun w hw => hts w (List.mem_cons_of_mem _ hw)
  have hZ : ur_Z E (ur_A h s.heap.size) s s.heap := hO.1
  have hown : s.vm.findClass "UnitRoom$Reader" = some m.cls := hown
  have hl : lv_has ls 1 [(0, .ref q)] := hl
  refine lv_aload_n hx hb dR_tell_0 rfl (lv_at hl 0 rfl) ?_
  refine va_get (D := D) (ci := 5) (v := .int (nI b)) (C := "UnitRoom$Reader") (T := TR) (N := 10) hx hb hts inR hown hV (ur_one hI.1 f0) 0 rfl rfl 9 (by decide) (hts _ mw65) (fun _ h9 => h9) rfl dR_tell_1 ?_
  exact ur_ri hx hb hr hlocks hI hQ ⟨(by first | (simp only [↓reduceIte]; done) | (simp only [↓reduceIte]; rfl) | rfl), rfl⟩ dR_tell_4
theorem dR_faultOf_0 : decode cR_faultOf 0 = .ok (.iload_n 1, 1) := by decide +kernel
theorem dR_faultOf_1 : decode cR_faultOf 1 = .ok (.iconst 1, 1) := by decide +kernel
theorem dR_faultOf_2 : decode cR_faultOf 2 = .ok (.if_icmp .eq 5, 3) := by decide +kernel
theorem dR_faultOf_5 : decode cR_faultOf 5 = .ok (.iconst 5, 1) := by decide +kernel
theorem dR_faultOf_6 : decode cR_faultOf 6 = .ok (.ireturn, 1) := by decide +kernel
theorem dR_faultOf_7 : decode cR_faultOf 7 = .ok (.aload_n 0, 1) := by decide +kernel
theorem dR_faultOf_8 : decode cR_faultOf 8 = .ok (.getfield 19, 3) := by decide +kernel
theorem dR_faultOf_11 : decode cR_faultOf 11 = .ok (.ifCond .ne 8, 3) := by decide +kernel
theorem dR_faultOf_14 : decode cR_faultOf 14 = .ok (.bipush 6, 2) := by decide +kernel
theorem dR_faultOf_16 : decode cR_faultOf 16 = .ok (.goto 4, 3) := by decide +kernel
theorem dR_faultOf_19 : decode cR_faultOf 19 = .ok (.iconst 0, 1) := by decide +kernel
theorem dR_faultOf_20 : decode cR_faultOf 20 = .ok (.ireturn, 1) := by decide +kernel
abbrev rmkR_fault : Room := { frames := 0, cells := 0, slots := 0, locals := 0 }
set_option maxHeartbeats 4000000 in
set_option maxRecDepth 100000 in
theorem kR_fault (l : Launch) (D : va_G) (E : ur_Ev) (h : ur_M) (q : Nat) (qb : Nat) (qc : Nat) (a : Nat) (b : Nat) (du : Int32) (br : Int32) (tu : Int32) (ta : Int32) (fa : Int64) (op : Int32) (mv : Int32) (x : Int32) (f0 : h q = some (.inr (5, [.int 16, .ref qb, .int du, .long fa, .int br, .int tu, .int ta, .ref qc, .int (nI a), .int (nI b)])))  : ur_Mi l yR_faultOf wsR_faultOf rmkR_fault D vwCl (ur_v E) [.ref q, .int op, .int mv, .int x] h (fun r h2 => r = um_fR op (nI b) ∧ h2 = h) 0 0 := by
  intro sz
  refine ur_of (cc := cR_faultOf) (maxL := 4) (ret := (some .int)) (by decide) rfl (Nat.le_of_ble_eq_true rfl) ?_
  intro p e s m args below meth c ls Q hsz hx hb hml hr hlocks hnm hown hts hO hK hI hQ hl
  subst hsz
  have hV := hK.1
  have hts : ∀ w ∈ ur_G, w.before args s = true := fun w hw => hts w (List.mem_cons_of_mem _ hw)
  have hZ : ur_Z E (ur_A h s.heap.size) s s.heap := hO.1
  have hown : s.vm.findClass "UnitRoom$Reader" = some m.cls := hown
  have hl : lv_has ls 4 [(0, .ref q), (1, .int op), (2, .int mv), (3, .int x)] := hl
  refine lv_iload_n hx hb dR_faultOf_0 rfl (lv_at hl 1 rfl) ?_
  refine lv_iconst (v := 1) hx hb dR_faultOf_1 (by decide) ?_
  refine lv_icmp_eq (tgt := 7) hx hb dR_faultOf_2 (by decide) (fun c1 => ?_) (fun c1 => ?_)
  · refine lv_aload_n hx hb dR_faultOf_7 rfl (lv_at hl 0 rfl) ?_
    refine va_get (D := D) (ci := 5) (v := .int (nI b)) (C := "UnitRoom$Reader") (T := TR) (N := 10) hx hb hts inR hown hV (ur_one hI.1 f0) 0 rfl rfl 9 (by decide) (hts _ mw65) (fun _ h9 => h9) rfl dR_faultOf_8 ?_
    refine lv_if_ne (tgt := 19) hx hb dR_faultOf_11 (by decide) (fun c2 => ?_) (fun c2 => ?_)
    · refine lv_iconst (v := 0) hx hb dR_faultOf_19 (by decide) ?_
      exact ur_ri hx hb hr hlocks hI hQ ⟨(by first | (simp only [um_fR, c1, c2, ↓reduceIte]; done) | (simp only [um_fR, c1, c2, ↓reduceIte]; rfl) | rfl), rfl⟩ dR_faultOf_20
    · refine lv_bipush (v := 6) hx hb dR_faultOf_14 (by decide) ?_
      refine lv_goto (tgt := 20) hx hb dR_faultOf_16 (by decide) ?_
      exact ur_ri hx hb hr hlocks hI hQ ⟨(by first | (simp only [um_fR, c1, c2, ↓reduceIte]; done) | (simp only [um_fR, c1, c2, ↓reduceIte]; rfl) | rfl), rfl⟩ dR_faultOf_20
  · refine lv_iconst (v := 5) hx hb dR_faultOf_5 (by decide) ?_
    exact ur_ri hx hb hr hlocks hI hQ ⟨(by first | (simp only [um_fR, c1, ↓reduceIte]; done) | (simp only [um_fR, c1, ↓reduceIte]; rfl) | rfl), rfl⟩ dR_faultOf_6
theorem dR_accept_0 : decode cR_accept 0 = .ok (.aload_n 0, 1) := by decide +kernel
theorem dR_accept_1 : decode cR_accept 1 = .ok (.getfield 15, 3) := by decide +kernel
theorem dR_accept_4 : decode cR_accept 4 = .ok (.aload_n 0, 1) := by decide +kernel
theorem dR_accept_5 : decode cR_accept 5 = .ok (.getfield 19, 3) := by decide +kernel
theorem dR_accept_8 : decode cR_accept 8 = .ok (.iadd, 1) := by decide +kernel
theorem dR_accept_9 : decode cR_accept 9 = .ok (.bipush 100, 2) := by decide +kernel
theorem dR_accept_11 : decode cR_accept 11 = .ok (.irem, 1) := by decide +kernel
theorem dR_accept_12 : decode cR_accept 12 = .ok (.bipush 16, 2) := by decide +kernel
theorem dR_accept_14 : decode cR_accept 14 = .ok (.imul, 1) := by decide +kernel
theorem dR_accept_15 : decode cR_accept 15 = .ok (.istore_n 2, 1) := by decide +kernel
theorem dR_accept_16 : decode cR_accept 16 = .ok (.iconst 0, 1) := by decide +kernel
theorem dR_accept_17 : decode cR_accept 17 = .ok (.istore_n 3, 1) := by decide +kernel
theorem dR_accept_18 : decode cR_accept 18 = .ok (.iload_n 3, 1) := by decide +kernel
theorem dR_accept_19 : decode cR_accept 19 = .ok (.bipush 16, 2) := by decide +kernel
theorem dR_accept_21 : decode cR_accept 21 = .ok (.if_icmp .ge 35, 3) := by decide +kernel
theorem dR_accept_24 : decode cR_accept 24 = .ok (.iload_n 2, 1) := by decide +kernel
theorem dR_accept_25 : decode cR_accept 25 = .ok (.iload_n 3, 1) := by decide +kernel
theorem dR_accept_26 : decode cR_accept 26 = .ok (.iadd, 1) := by decide +kernel
theorem dR_accept_27 : decode cR_accept 27 = .ok (.aload_n 0, 1) := by decide +kernel
theorem dR_accept_28 : decode cR_accept 28 = .ok (.getfield 11, 3) := by decide +kernel
theorem dR_accept_31 : decode cR_accept 31 = .ok (.arraylength, 1) := by decide +kernel
theorem dR_accept_32 : decode cR_accept 32 = .ok (.if_icmp .ge 24, 3) := by decide +kernel
theorem dR_accept_35 : decode cR_accept 35 = .ok (.aload_n 0, 1) := by decide +kernel
theorem dR_accept_36 : decode cR_accept 36 = .ok (.getfield 11, 3) := by decide +kernel
theorem dR_accept_39 : decode cR_accept 39 = .ok (.iload_n 2, 1) := by decide +kernel
theorem dR_accept_40 : decode cR_accept 40 = .ok (.iload_n 3, 1) := by decide +kernel
theorem dR_accept_41 : decode cR_accept 41 = .ok (.iadd, 1) := by decide +kernel
theorem dR_accept_42 : decode cR_accept 42 = .ok (.aload_n 1, 1) := by decide +kernel
theorem dR_accept_43 : decode cR_accept 43 = .ok (.iload_n 3, 1) := by decide +kernel
theorem dR_accept_44 : decode cR_accept 44 = .ok (.iconst 5, 1) := by decide +kernel
theorem dR_accept_45 : decode cR_accept 45 = .ok (.imul, 1) := by decide +kernel
theorem dR_accept_46 : decode cR_accept 46 = .ok (.invokestatic 22, 3) := by decide +kernel
theorem dR_accept_49 : decode cR_accept 49 = .ok (.iastore, 1) := by decide +kernel
theorem dR_accept_50 : decode cR_accept 50 = .ok (.iinc 3 1, 3) := by decide +kernel
theorem dR_accept_53 : decode cR_accept 53 = .ok (.goto (-35), 3) := by decide +kernel
theorem dR_accept_56 : decode cR_accept 56 = .ok (.aload_n 0, 1) := by decide +kernel
theorem dR_accept_57 : decode cR_accept 57 = .ok (.dup, 1) := by decide +kernel
theorem dR_accept_58 : decode cR_accept 58 = .ok (.getfield 19, 3) := by decide +kernel
theorem dR_accept_61 : decode cR_accept 61 = .ok (.iconst 1, 1) := by decide +kernel
theorem dR_accept_62 : decode cR_accept 62 = .ok (.iadd, 1) := by decide +kernel
theorem dR_accept_63 : decode cR_accept 63 = .ok (.putfield 19, 3) := by decide +kernel
theorem dR_accept_66 : decode cR_accept 66 = .ok (.return_, 1) := by decide +kernel
abbrev rmkR_accept : Room := { frames := 7, cells := 0, slots := 0, locals := 156 }
set_option maxHeartbeats 4000000 in
set_option maxRecDepth 100000 in
theorem kR_accept (l : Launch) (D : va_G) (E : ur_Ev) (h : ur_M) (q : Nat) (qb : Nat) (qc : Nat) (a : Nat) (b : Nat) (du : Int32) (br : Int32) (tu : Int32) (ta : Int32) (fa : Int64) (q2 : Nat) (q3 : Nat) (n : Nat) (cs : Nat → Int32) (bs : Nat → Int32) (f0 : h q = some (.inr (5, [.int 16, .ref qb, .int du, .long fa, .int br, .int tu, .int ta, .ref qc, .int (nI a), .int (nI b)]))) (f1 : h qc = some (.inl (E.1 0, 1600, .inl cs))) (f2 : h q2 = some (.inr (2, [.ref q3, .int (nI n)]))) (f3 : h q3 = some (.inl (E.1 1, 400, .inl bs))) (ha1 : a < 100) (hb1 : b < 100) (hn : n ≤ 400) : ur_Mv l yR_accept wsR_accept rmkR_accept D vwCl (ur_v E) [.ref q, .ref q2] h (fun h2 => h2 = va_up (va_up h qc (some (.inl (E.1 0, 1600, .inl (um_acc cs bs n ((a + b) % 100 * 16) 16))))) q (some (.inr (5, [.int 16, .ref qb, .int du, .long fa, .int br, .int tu, .int ta, .ref qc, .int (nI a), .int (nI (b + 1))])))) 0 0 := by
  intro sz
  refine ur_of (cc := cR_accept) (maxL := 4) (ret := none) (by decide) rfl (Nat.le_of_ble_eq_true rfl) ?_
  intro p e s m args below meth c ls Q hsz hx hb hml hr hlocks hnm hown hts hO hK hI hQ hl
  subst hsz
  have hV := hK.1
  have hts : ∀ w ∈ ur_G, w.before args s = true := fun w hw => hts w (List.mem_cons_of_mem _ hw)
  have hZ : ur_Z E (ur_A h s.heap.size) s s.heap := hO.1
  have hown : s.vm.findClass "UnitRoom$Reader" = some m.cls := hown
  have hl : lv_has ls 4 [(0, .ref q), (1, .ref q2)] := hl
  refine lv_aload_n hx hb dR_accept_0 rfl (lv_at hl 0 rfl) ?_
  refine va_get (D := D) (ci := 5) (v := .int (nI a)) (C := "UnitRoom$Reader") (T := TR) (N := 10) hx hb hts inR hown hV (ur_one hI.1 f0) 0 rfl rfl 8 (by decide) (hts _ mw64) (fun _ h9 => h9) rfl dR_accept_1 ?_
  refine lv_aload_n hx hb dR_accept_4 rfl (lv_at hl 0 rfl) ?_
  refine va_get (D := D) (ci := 5) (v := .int (nI b)) (C := "UnitRoom$Reader") (T := TR) (N := 10) hx hb hts inR hown hV (ur_one hI.1 f0) 0 rfl rfl 9 (by decide) (hts _ mw65) (fun _ h9 => h9) rfl dR_accept_5 ?_
  refine lv_iadd hx hb dR_accept_8 ?_
  refine lv_bipush (v := 100) hx hb dR_accept_9 (by decide) ?_
  refine lv_irem hx hb dR_accept_11 (by decide) ?_
  refine lv_bipush (v := 16) hx hb dR_accept_12 (by decide) ?_
  refine lv_imul hx hb dR_accept_14 ?_
  refine lv_topi (fun x9 ex9 => ?_)
  rw [um_slot ha1 hb1] at ex9
  have hr9 : (a + b) % 100 * 16 ≤ 1584 := by omega
  generalize (a + b) % 100 * 16 = r at ex9 hr9 hQ
  subst ex9
  refine lv_istore_n (lv' := [(2, .int (nI r)), (0, .ref q), (1, .ref q2)]) hx hb dR_accept_15 rfl hl (by decide) rfl (fun ls hl => ?_)
  refine lv_iconst (v := 0) hx hb dR_accept_16 (by decide) ?_
  refine lv_istore_n (lv' := [(3, .int 0), (2, .int (nI r)), (0, .ref q), (1, .ref q2)]) hx hb dR_accept_17 rfl hl (by decide) rfl (fun ls hl => ?_)
  have lpn1 : ∀ (n1 : Nat) (k : Nat) (hn1 : ur_M) (H : Heap) (locs : List Loc) (ls : Array Slot), 16 - k < n1 → (k ≤ 16) → hn1 = va_up h qc (some (.inl (E.1 0, 1600, .inl (um_acc cs bs n r k)))) → ur_I D vwCl (ur_A h s.heap.size) s.heap hn1 H locs → lv_has ls 4 [(0, .ref q), (1, .ref q2), (2, .int (nI r)), (3, .int (nI k))] → W p l e rmkR_accept s m args below meth c H locs 0 0 Q (F0 m 18 ls []) := by
    intro n1
    induction n1 with
    | zero => intro k hn1 H locs ls hnn1; exact absurd hnn1 (Nat.not_lt_zero _)
    | succ n1 ihn1 =>
      intro k hn1 H locs ls hnn1 hk ehn1 hI hl
      have fq2 : hn1 q = some (.inr (5, [.int 16, .ref qb, .int du, .long fa, .int br, .int tu, .int ta, .ref qc, .int (nI a), .int (nI b)])) := by rw [ehn1]; exact (va_up_ne _ _ (ur_ne f0 f1 (by intro z; simp at z))).trans f0
      have fq3 : hn1 qc = some (.inl (E.1 0, 1600, .inl (um_acc cs bs n r k))) := by rw [ehn1]; exact va_up_self _ _ _
      have fq4 : hn1 q2 = some (.inr (2, [.ref q3, .int (nI n)])) := by rw [ehn1]; exact (va_up_ne _ _ (ur_ne f2 f1 (by intro z; simp at z))).trans f2
      have fq5 : hn1 q3 = some (.inl (E.1 1, 400, .inl bs)) := by rw [ehn1]; exact (va_up_ne _ _ (ur_ne f3 f1 (by intro z; simp at z))).trans f3
      refine lv_iload_n hx hb dR_accept_18 rfl (lv_at hl 3 rfl) ?_
      refine lv_bipush (v := 16) hx hb dR_accept_19 (by decide) ?_
      refine lv_icmp_ge (tgt := 56) hx hb dR_accept_21 (by decide) (fun c6 => ?_) (fun c6 => ?_)
      · have he9 : k = 16 := Nat.le_antisymm hk (Nat.not_lt.mp (fun z9 => nI_ge (b := 16) z9 (by decide) c6))
        refine lv_aload_n hx hb dR_accept_56 rfl (lv_at hl 0 rfl) ?_
        refine lv_dup hx hb dR_accept_57 rfl ?_
        refine va_get (D := D) (ci := 5) (v := .int (nI b)) (C := "UnitRoom$Reader") (T := TR) (N := 10) hx hb hts inR hown hV (ur_one hI.1 fq2) 0 rfl rfl 9 (by decide) (hts _ mw65) (fun _ h9 => h9) rfl dR_accept_58 ?_
        refine lv_iconst (v := 1) hx hb dR_accept_61 (by decide) ?_
        refine lv_iadd hx hb dR_accept_62 ?_
        refine ur_put (D := D) (ci := 5) (v := .int ((nI b) + 1)) (ty := .int) (C := "UnitRoom$Reader") (T := TR) (N := 10) hx hb hts inR tyR tyR_ok nmR hown hV hI fq2 rfl 9 (by decide) (hts _ mw65) (fun _ h9 => h9) rfl (by decide +kernel) rfl rfl (Nat.le_of_ble_eq_true rfl) dR_accept_63 (fun H locs hI => ?_)
        obtain ⟨h7, eh7⟩ : ∃ z : ur_M, z = va_up hn1 q (some (.inr (5, [.int 16, .ref qb, .int du, .long fa, .int br, .int tu, .int ta, .ref qc, .int (nI a), .int ((nI b) + 1)]))) := ⟨_, rfl⟩
        replace hI : ur_I D vwCl (ur_A h s.heap.size) s.heap h7 H locs := by rw [eh7]; exact hI
        have fq8 : h7 q = some (.inr (5, [.int 16, .ref qb, .int du, .long fa, .int br, .int tu, .int ta, .ref qc, .int (nI a), .int ((nI b) + 1)])) := by rw [eh7]; exact (va_up_self _ _ _)
        have fq9 : h7 qc = some (.inl (E.1 0, 1600, .inl (um_acc cs bs n r k))) := by rw [eh7]; exact ((va_up_ne _ _ (ur_ne fq3 fq2 (by intro z; simp at z))).trans fq3)
        have fq10 : h7 q2 = some (.inr (2, [.ref q3, .int (nI n)])) := by rw [eh7]; exact ((va_up_ne _ _ (ur_ne fq4 fq2 (by intro z; simp at z))).trans fq4)
        have fq11 : h7 q3 = some (.inl (E.1 1, 400, .inl bs)) := by rw [eh7]; exact ((va_up_ne _ _ (ur_ne fq5 fq2 (by intro z; simp at z))).trans fq5)
        exact ur_rv hx hb hr hlocks hI hQ (by rw [eh7, ehn1, he9, nI_1]) dR_accept_66
      · have hlt : k < 16 := Nat.not_le.mp (fun z9 => c6 (nI_le z9 (by omega)))
        refine lv_iload_n hx hb dR_accept_24 rfl (lv_at hl 2 rfl) ?_
        refine lv_iload_n hx hb dR_accept_25 rfl (lv_at hl 3 rfl) ?_
        refine lv_iadd hx hb dR_accept_26 ?_
        refine lv_aload_n hx hb dR_accept_27 rfl (lv_at hl 0 rfl) ?_
        refine va_get (D := D) (ci := 5) (v := .ref qc) (C := "UnitRoom$Reader") (T := TR) (N := 10) hx hb hts inR hown hV (ur_one hI.1 fq2) 0 rfl rfl 7 (by decide) (hts _ mw63) (fun _ h9 => h9) rfl dR_accept_28 ?_
        refine va_alen (v := 1600) hx hb hV (ur_one hI.1 fq3) 0 0 rfl rfl rfl dR_accept_31 ?_
        refine lv_icmp_ge (tgt := 56) hx hb dR_accept_32 (by decide) (fun c12 => absurd c12 (by rw [nI_add]; exact nI_ge (b := 1600) (by omega) (by decide))) (fun c12 => ?_)
        refine lv_aload_n hx hb dR_accept_35 rfl (lv_at hl 0 rfl) ?_
        refine va_get (D := D) (ci := 5) (v := .ref qc) (C := "UnitRoom$Reader") (T := TR) (N := 10) hx hb hts inR hown hV (ur_one hI.1 fq2) 0 rfl rfl 7 (by decide) (hts _ mw63) (fun _ h9 => h9) rfl dR_accept_36 ?_
        refine lv_iload_n hx hb dR_accept_39 rfl (lv_at hl 2 rfl) ?_
        refine lv_iload_n hx hb dR_accept_40 rfl (lv_at hl 3 rfl) ?_
        refine lv_iadd hx hb dR_accept_41 ?_
        refine lv_aload_n hx hb dR_accept_42 rfl (lv_at hl 1 rfl) ?_
        refine lv_iload_n hx hb dR_accept_43 rfl (lv_at hl 3 rfl) ?_
        refine lv_iconst (v := 5) hx hb dR_accept_44 (by decide) ?_
        refine lv_imul hx hb dR_accept_45 ?_
        refine ur_xi (va_runS (As := [.ref q2, .int ((nI k) * 5)]) (rest := [.int ((nI r) + (nI k)), .ref qc]) ⟨hx, hb, hml, hown, hts⟩ (kR_wordOf l D E hn1 q2 q3 bs n ((nI k) * 5) fq4 fq5 (by first | assumption | omega | decide) H.size) (va_cwS 2 hts (ur_gT mw468 mw469 mw5 mw470) rfl rfl rfl (by decide +kernel) ⟨(Nat.le_of_ble_eq_true rfl), (Nat.le_of_ble_eq_true rfl)⟩) ⟨ur_blind, ur_pre hI hO hK (fun _ _ q => q)⟩ rfl rfl hl.1 rfl (lv_room (Nat.le_of_ble_eq_true rfl)) dR_accept_46 ⟨Nat.le_of_ble_eq_true rfl, Nat.le_of_ble_eq_true rfl⟩) hI (fun r13 h13 H locs p13 hI => ?_)
        obtain ⟨er13, eh13⟩ := p13
        replace eh13 := eh13.symm; subst eh13
        replace er13 := er13.symm; subst er13
        refine ur_iast hx hb hV hI 0 fq3 rfl (by rw [nI_add]; exact vp_in_nI (by omega) (by decide)) dR_accept_49 (fun H locs hI => ?_)
        obtain ⟨h14, eh14⟩ : ∃ z : ur_M, z = va_up hn1 qc (some (.inl (E.1 0, 1600, .inl (upd (um_acc cs bs n r k) (Int32.toNatClampNeg ((nI r) + (nI k))) (um_wAt bs n ((nI k) * 5)))))) := ⟨_, rfl⟩
        replace hI : ur_I D vwCl (ur_A h s.heap.size) s.heap h14 H locs := by rw [eh14]; exact hI
        have fq15 : h14 q = some (.inr (5, [.int 16, .ref qb, .int du, .long fa, .int br, .int tu, .int ta, .ref qc, .int (nI a), .int (nI b)])) := by rw [eh14]; exact ((va_up_ne _ _ (ur_ne fq2 fq3 (by intro z; simp at z))).trans fq2)
        have fq16 : h14 qc = some (.inl (E.1 0, 1600, .inl (upd (um_acc cs bs n r k) (Int32.toNatClampNeg ((nI r) + (nI k))) (um_wAt bs n ((nI k) * 5))))) := by rw [eh14]; exact (va_up_self _ _ _)
        have fq17 : h14 q2 = some (.inr (2, [.ref q3, .int (nI n)])) := by rw [eh14]; exact ((va_up_ne _ _ (ur_ne fq4 fq3 (by intro z; simp at z))).trans fq4)
        have fq18 : h14 q3 = some (.inl (E.1 1, 400, .inl bs)) := by rw [eh14]; exact ((va_up_ne _ _ (ur_ne fq5 fq3 (by intro z; simp at z))).trans fq5)
        refine lv_iinc (v := ((nI k) + 1)) (lv' := [(3, .int ((nI k) + 1)), (0, .ref q), (1, .ref q2), (2, .int (nI r))]) hx hb dR_accept_50 hl (k := 3) rfl rfl (by decide) rfl (fun ls hl => ?_)
        refine lv_goto (tgt := 18) hx hb dR_accept_53 (by decide) ?_
        rw [nI_1] at hl
        exact ihn1 (k + 1) h14 H locs ls (by omega) hlt (by rw [eh14, ehn1, bx_uu, um_ix2 (by omega), um_acc_succ]) hI (lv_sub hl [1, 2, 3, 0] rfl)
  exact lpn1 _ 0 h _ _ ls (Nat.lt_succ_self _) (by decide) ((by rw [um_acc_0]; exact (ur_same f1).symm)) hI (lv_sub hl [2, 3, 1, 0] rfl)
theorem dR_work_0 : decode cR_work 0 = .ok (.aload_n 0, 1) := by decide +kernel
theorem dR_work_1 : decode cR_work 1 = .ok (.getfield 15, 3) := by decide +kernel
theorem dR_work_4 : decode cR_work 4 = .ok (.bipush 16, 2) := by decide +kernel
theorem dR_work_6 : decode cR_work 6 = .ok (.imul, 1) := by decide +kernel
theorem dR_work_7 : decode cR_work 7 = .ok (.istore 5, 2) := by decide +kernel
theorem dR_work_9 : decode cR_work 9 = .ok (.iconst 0, 1) := by decide +kernel
theorem dR_work_10 : decode cR_work 10 = .ok (.istore 6, 2) := by decide +kernel
theorem dR_work_12 : decode cR_work 12 = .ok (.iload 6, 2) := by decide +kernel
theorem dR_work_14 : decode cR_work 14 = .ok (.aload_n 0, 1) := by decide +kernel
theorem dR_work_15 : decode cR_work 15 = .ok (.getfield 26, 3) := by decide +kernel
theorem dR_work_18 : decode cR_work 18 = .ok (.arraylength, 1) := by decide +kernel
theorem dR_work_19 : decode cR_work 19 = .ok (.if_icmp .ge 39, 3) := by decide +kernel
theorem dR_work_22 : decode cR_work 22 = .ok (.iload 5, 2) := by decide +kernel
theorem dR_work_24 : decode cR_work 24 = .ok (.iload 6, 2) := by decide +kernel
theorem dR_work_26 : decode cR_work 26 = .ok (.iadd, 1) := by decide +kernel
theorem dR_work_27 : decode cR_work 27 = .ok (.aload_n 0, 1) := by decide +kernel
theorem dR_work_28 : decode cR_work 28 = .ok (.getfield 11, 3) := by decide +kernel
theorem dR_work_31 : decode cR_work 31 = .ok (.arraylength, 1) := by decide +kernel
theorem dR_work_32 : decode cR_work 32 = .ok (.if_icmp .ge 26, 3) := by decide +kernel
theorem dR_work_35 : decode cR_work 35 = .ok (.aload_n 0, 1) := by decide +kernel
theorem dR_work_36 : decode cR_work 36 = .ok (.getfield 26, 3) := by decide +kernel
theorem dR_work_39 : decode cR_work 39 = .ok (.iload 6, 2) := by decide +kernel
theorem dR_work_41 : decode cR_work 41 = .ok (.aload_n 0, 1) := by decide +kernel
theorem dR_work_42 : decode cR_work 42 = .ok (.getfield 11, 3) := by decide +kernel
theorem dR_work_45 : decode cR_work 45 = .ok (.iload 5, 2) := by decide +kernel
theorem dR_work_47 : decode cR_work 47 = .ok (.iload 6, 2) := by decide +kernel
theorem dR_work_49 : decode cR_work 49 = .ok (.iadd, 1) := by decide +kernel
theorem dR_work_50 : decode cR_work 50 = .ok (.iaload, 1) := by decide +kernel
theorem dR_work_51 : decode cR_work 51 = .ok (.iastore, 1) := by decide +kernel
theorem dR_work_52 : decode cR_work 52 = .ok (.iinc 6 1, 3) := by decide +kernel
theorem dR_work_55 : decode cR_work 55 = .ok (.goto (-43), 3) := by decide +kernel
theorem dR_work_58 : decode cR_work 58 = .ok (.aload_n 0, 1) := by decide +kernel
theorem dR_work_59 : decode cR_work 59 = .ok (.aload_n 0, 1) := by decide +kernel
theorem dR_work_60 : decode cR_work 60 = .ok (.getfield 15, 3) := by decide +kernel
theorem dR_work_63 : decode cR_work 63 = .ok (.iconst 1, 1) := by decide +kernel
theorem dR_work_64 : decode cR_work 64 = .ok (.iadd, 1) := by decide +kernel
theorem dR_work_65 : decode cR_work 65 = .ok (.bipush 100, 2) := by decide +kernel
theorem dR_work_67 : decode cR_work 67 = .ok (.irem, 1) := by decide +kernel
theorem dR_work_68 : decode cR_work 68 = .ok (.putfield 15, 3) := by decide +kernel
theorem dR_work_71 : decode cR_work 71 = .ok (.aload_n 0, 1) := by decide +kernel
theorem dR_work_72 : decode cR_work 72 = .ok (.dup, 1) := by decide +kernel
theorem dR_work_73 : decode cR_work 73 = .ok (.getfield 19, 3) := by decide +kernel
theorem dR_work_76 : decode cR_work 76 = .ok (.iconst 1, 1) := by decide +kernel
theorem dR_work_77 : decode cR_work 77 = .ok (.isub, 1) := by decide +kernel
theorem dR_work_78 : decode cR_work 78 = .ok (.putfield 19, 3) := by decide +kernel
theorem dR_work_81 : decode cR_work 81 = .ok (.aload_n 0, 1) := by decide +kernel
theorem dR_work_82 : decode cR_work 82 = .ok (.iload_n 2, 1) := by decide +kernel
theorem dR_work_83 : decode cR_work 83 = .ok (.invokevirtual 29, 3) := by decide +kernel
theorem dR_work_86 : decode cR_work 86 = .ok (.return_, 1) := by decide +kernel
abbrev rmkR_work : Room := { frames := 1, cells := 0, slots := 0, locals := 21 }
set_option maxHeartbeats 4000000 in
set_option maxRecDepth 100000 in
theorem kR_work (l : Launch) (D : va_G) (E : ur_Ev) (h : ur_M) (q : Nat) (qb : Nat) (qc : Nat) (a : Nat) (b : Nat) (du : Int32) (br : Int32) (tu : Int32) (ta : Int32) (fa : Int64) (qm : Nat) (cs : Nat → Int32) (o : Nat → Int32) (op : Int32) (mv : Int32) (x : Int32) (f0 : h q = some (.inr (5, [.int 16, .ref qb, .int du, .long fa, .int br, .int tu, .int ta, .ref qc, .int (nI a), .int (nI b)]))) (f1 : h qc = some (.inl (E.1 0, 1600, .inl cs))) (f2 : h qb = some (.inl (E.1 0, 16, .inl o))) (ha1 : a < 100) (hb1 : 0 < b) : ur_Mv l yR_work wsR_work rmkR_work D vwCl (ur_v E) [.ref q, .int op, .int mv, .int x, .ref qm] h (fun h2 => h2 = va_up (va_up h qb (some (.inl (E.1 0, 16, .inl (um_rd cs o (a * 16) 16))))) q (some (.inr (5, [.int 16, .ref qb, .int du, .long fa, .int 1, .int tu, .int mv, .ref qc, .int (nI ((a + 1) % 100)), .int (nI (b - 1))])))) 0 0 := by
  intro sz
  refine ur_of (cc := cR_work) (maxL := 7) (ret := none) (by decide) rfl (Nat.le_of_ble_eq_true rfl) ?_
  intro p e s m args below meth c ls Q hsz hx hb hml hr hlocks hnm hown hts hO hK hI hQ hl
  subst hsz
  have hV := hK.1
  have hts : ∀ w ∈ ur_G, w.before args s = true := fun w hw => hts w (List.mem_cons_of_mem _ hw)
  have hZ : ur_Z E (ur_A h s.heap.size) s s.heap := hO.1
  have hown : s.vm.findClass "UnitRoom$Reader" = some m.cls := hown
  have hl : lv_has ls 7 [(0, .ref q), (1, .int op), (2, .int mv), (3, .int x), (4, .ref qm)] := hl
  refine lv_aload_n hx hb dR_work_0 rfl (lv_at hl 0 rfl) ?_
  refine va_get (D := D) (ci := 5) (v := .int (nI a)) (C := "UnitRoom$Reader") (T := TR) (N := 10) hx hb hts inR hown hV (ur_one hI.1 f0) 0 rfl rfl 8 (by decide) (hts _ mw64) (fun _ h9 => h9) rfl dR_work_1 ?_
  refine lv_bipush (v := 16) hx hb dR_work_4 (by decide) ?_
  refine lv_imul hx hb dR_work_6 ?_
  refine lv_topi (fun x9 ex9 => ?_)
  rw [um_slot1] at ex9
  have hr9 : a * 16 ≤ 1584 := by omega
  generalize a * 16 = r at ex9 hr9 hQ
  subst ex9
  refine lv_istore (lv' := [(5, .int (nI r)), (0, .ref q), (1, .int op), (2, .int mv), (3, .int x), (4, .ref qm)]) hx hb dR_work_7 hl (by decide) rfl (fun ls hl => ?_)
  refine lv_iconst (v := 0) hx hb dR_work_9 (by decide) ?_
  refine lv_istore (lv' := [(6, .int 0), (5, .int (nI r)), (0, .ref q), (1, .int op), (2, .int mv), (3, .int x), (4, .ref qm)]) hx hb dR_work_10 hl (by decide) rfl (fun ls hl => ?_)
  have lpn1 : ∀ (n1 : Nat) (k : Nat) (hn1 : ur_M) (H : Heap) (locs : List Loc) (ls : Array Slot), 16 - k < n1 → (k ≤ 16) → hn1 = va_up h qb (some (.inl (E.1 0, 16, .inl (um_rd cs o r k)))) → ur_I D vwCl (ur_A h s.heap.size) s.heap hn1 H locs → lv_has ls 7 [(0, .ref q), (2, .int mv), (5, .int (nI r)), (6, .int (nI k))] → W p l e rmkR_work s m args below meth c H locs 0 0 Q (F0 m 12 ls []) := by
    intro n1
    induction n1 with
    | zero => intro k hn1 H locs ls hnn1; exact absurd hnn1 (Nat.not_lt_zero _)
    | succ n1 ihn1 =>
      intro k hn1 H locs ls hnn1 hk ehn1 hI hl
      have fq2 : hn1 q = some (.inr (5, [.int 16, .ref qb, .int du, .long fa, .int br, .int tu, .int ta, .ref qc, .int (nI a), .int (nI b)])) := by rw [ehn1]; exact (va_up_ne _ _ (ur_ne f0 f2 (by intro z; simp at z))).trans f0
      have fq3 : hn1 qc = some (.inl (E.1 0, 1600, .inl cs)) := by rw [ehn1]; exact (va_up_ne _ _ (ur_ne f1 f2 (by intro z; simp at z))).trans f1
      have fq4 : hn1 qb = some (.inl (E.1 0, 16, .inl (um_rd cs o r k))) := by rw [ehn1]; exact va_up_self _ _ _
      refine lv_iload hx hb dR_work_12 (lv_at hl 3 rfl) ?_
      refine lv_aload_n hx hb dR_work_14 rfl (lv_at hl 0 rfl) ?_
      refine va_get (D := D) (ci := 5) (v := .ref qb) (C := "UnitRoom$Reader") (T := TR) (N := 10) hx hb hts inR hown hV (ur_one hI.1 fq2) 0 rfl rfl 1 (by decide) (hts _ mw73) (fun x9 h9 => u_same (hts _ mw74) x9 h9) rfl dR_work_15 ?_
      refine va_alen (v := 16) hx hb hV (ur_one hI.1 fq4) 0 0 rfl rfl rfl dR_work_18 ?_
      refine lv_icmp_ge (tgt := 58) hx hb dR_work_19 (by decide) (fun c5 => ?_) (fun c5 => ?_)
      · have he9 : k = 16 := Nat.le_antisymm hk (Nat.not_lt.mp (fun z9 => nI_ge (b := 16) z9 (by decide) c5))
        refine lv_aload_n hx hb dR_work_58 rfl (lv_at hl 0 rfl) ?_
        refine lv_aload_n hx hb dR_work_59 rfl (lv_at hl 0 rfl) ?_
        refine va_get (D := D) (ci := 5) (v := .int (nI a)) (C := "UnitRoom$Reader") (T := TR) (N := 10) hx hb hts inR hown hV (ur_one hI.1 fq2) 0 rfl rfl 8 (by decide) (hts _ mw64) (fun _ h9 => h9) rfl dR_work_60 ?_
        refine lv_iconst (v := 1) hx hb dR_work_63 (by decide) ?_
        refine lv_iadd hx hb dR_work_64 ?_
        refine lv_bipush (v := 100) hx hb dR_work_65 (by decide) ?_
        refine lv_irem hx hb dR_work_67 (by decide) ?_
        refine ur_put (D := D) (ci := 5) (v := .int (((nI a) + 1) - ((nI a) + 1) / 100 * 100)) (ty := .int) (C := "UnitRoom$Reader") (T := TR) (N := 10) hx hb hts inR tyR tyR_ok nmR hown hV hI fq2 rfl 8 (by decide) (hts _ mw64) (fun _ h9 => h9) rfl (by decide +kernel) rfl rfl (Nat.le_of_ble_eq_true rfl) dR_work_68 (fun H locs hI => ?_)
        obtain ⟨h6, eh6⟩ : ∃ z : ur_M, z = va_up hn1 q (some (.inr (5, [.int 16, .ref qb, .int du, .long fa, .int br, .int tu, .int ta, .ref qc, .int (((nI a) + 1) - ((nI a) + 1) / 100 * 100), .int (nI b)]))) := ⟨_, rfl⟩
        replace hI : ur_I D vwCl (ur_A h s.heap.size) s.heap h6 H locs := by rw [eh6]; exact hI
        have fq7 : h6 q = some (.inr (5, [.int 16, .ref qb, .int du, .long fa, .int br, .int tu, .int ta, .ref qc, .int (((nI a) + 1) - ((nI a) + 1) / 100 * 100), .int (nI b)])) := by rw [eh6]; exact (va_up_self _ _ _)
        have fq8 : h6 qc = some (.inl (E.1 0, 1600, .inl cs)) := by rw [eh6]; exact ((va_up_ne _ _ (ur_ne fq3 fq2 (by intro z; simp at z))).trans fq3)
        have fq9 : h6 qb = some (.inl (E.1 0, 16, .inl (um_rd cs o r k))) := by rw [eh6]; exact ((va_up_ne _ _ (ur_ne fq4 fq2 (by intro z; simp at z))).trans fq4)
        refine lv_aload_n hx hb dR_work_71 rfl (lv_at hl 0 rfl) ?_
        refine lv_dup hx hb dR_work_72 rfl ?_
        refine va_get (D := D) (ci := 5) (v := .int (nI b)) (C := "UnitRoom$Reader") (T := TR) (N := 10) hx hb hts inR hown hV (ur_one hI.1 fq7) 0 rfl rfl 9 (by decide) (hts _ mw65) (fun _ h9 => h9) rfl dR_work_73 ?_
        refine lv_iconst (v := 1) hx hb dR_work_76 (by decide) ?_
        refine lv_isub hx hb dR_work_77 ?_
        refine ur_put (D := D) (ci := 5) (v := .int ((nI b) - 1)) (ty := .int) (C := "UnitRoom$Reader") (T := TR) (N := 10) hx hb hts inR tyR tyR_ok nmR hown hV hI fq7 rfl 9 (by decide) (hts _ mw65) (fun _ h9 => h9) rfl (by decide +kernel) rfl rfl (Nat.le_of_ble_eq_true rfl) dR_work_78 (fun H locs hI => ?_)
        obtain ⟨h10, eh10⟩ : ∃ z : ur_M, z = va_up h6 q (some (.inr (5, [.int 16, .ref qb, .int du, .long fa, .int br, .int tu, .int ta, .ref qc, .int (((nI a) + 1) - ((nI a) + 1) / 100 * 100), .int ((nI b) - 1)]))) := ⟨_, rfl⟩
        replace hI : ur_I D vwCl (ur_A h s.heap.size) s.heap h10 H locs := by rw [eh10]; exact hI
        have fq11 : h10 q = some (.inr (5, [.int 16, .ref qb, .int du, .long fa, .int br, .int tu, .int ta, .ref qc, .int (((nI a) + 1) - ((nI a) + 1) / 100 * 100), .int ((nI b) - 1)])) := by rw [eh10]; exact (va_up_self _ _ _)
        have fq12 : h10 qc = some (.inl (E.1 0, 1600, .inl cs)) := by rw [eh10]; exact ((va_up_ne _ _ (ur_ne fq8 fq7 (by intro z; simp at z))).trans fq8)
        have fq13 : h10 qb = some (.inl (E.1 0, 16, .inl (um_rd cs o r k))) := by rw [eh10]; exact ((va_up_ne _ _ (ur_ne fq9 fq7 (by intro z; simp at z))).trans fq9)
        refine lv_aload_n hx hb dR_work_81 rfl (lv_at hl 0 rfl) ?_
        refine lv_iload_n hx hb dR_work_82 rfl (lv_at hl 1 rfl) ?_
        refine ur_xv (va_runU (As := [.int mv]) (rest := []) ⟨hx, hb, hml, hown, hts⟩ (kD_bringTo l D E h10 q 5 qb 16 du br tu ta fa ([.ref qc, .int (((nI a) + 1) - ((nI a) + 1) / 100 * 100), .int ((nI b) - 1)]) mv fq11 (by unfold um_isD; decide) H.size) (va_cwU (owner := "UnitRoom$Device") 1 hts (ur_gU mw347 mw348 mw349 mw332 mw4 mw333) rfl rfl rfl rfl (by decide +kernel) ⟨(Nat.le_of_ble_eq_true rfl), (Nat.le_of_ble_eq_true rfl)⟩) ⟨ur_blind, va_recv hV (ur_one hI.1 fq11) (ci := 5) (q0 := 0) rfl rfl, ur_pre hI hO hK (fun _ _ q => q)⟩ rfl rfl hl.1 rfl (lv_room (Nat.le_of_ble_eq_true rfl)) dR_work_83 ⟨Nat.le_of_ble_eq_true rfl, Nat.le_of_ble_eq_true rfl⟩) hI (fun h14 H locs p14 hI => ?_)
        have eh14 := p14
        have fq15 : h14 q = some (.inr (5, [.int 16, .ref qb, .int du, .long fa, .int 1, .int tu, .int mv, .ref qc, .int (((nI a) + 1) - ((nI a) + 1) / 100 * 100), .int ((nI b) - 1)])) := by rw [eh14]; exact (va_up_self _ _ _)
        have fq16 : h14 qc = some (.inl (E.1 0, 1600, .inl cs)) := by rw [eh14]; exact ((va_up_ne _ _ (ur_ne fq12 fq11 (by intro z; simp at z))).trans fq12)
        have fq17 : h14 qb = some (.inl (E.1 0, 16, .inl (um_rd cs o r k))) := by rw [eh14]; exact ((va_up_ne _ _ (ur_ne fq13 fq11 (by intro z; simp at z))).trans fq13)
        exact ur_rv hx hb hr hlocks hI hQ (by rw [eh14, eh10, eh6, ehn1, bx_uu, bx_uu, he9, um_next1 ha1, show nI b - 1 = nI (b - 1) by rw [show b = (b - 1) + 1 by omega, nI_pred, Nat.add_sub_cancel]]) dR_work_86
      · have hlt : k < 16 := Nat.not_le.mp (fun z9 => c5 (nI_le z9 (by omega)))
        refine lv_iload hx hb dR_work_22 (lv_at hl 2 rfl) ?_
        refine lv_iload hx hb dR_work_24 (lv_at hl 3 rfl) ?_
        refine lv_iadd hx hb dR_work_26 ?_
        refine lv_aload_n hx hb dR_work_27 rfl (lv_at hl 0 rfl) ?_
        refine va_get (D := D) (ci := 5) (v := .ref qc) (C := "UnitRoom$Reader") (T := TR) (N := 10) hx hb hts inR hown hV (ur_one hI.1 fq2) 0 rfl rfl 7 (by decide) (hts _ mw63) (fun _ h9 => h9) rfl dR_work_28 ?_
        refine va_alen (v := 1600) hx hb hV (ur_one hI.1 fq3) 0 0 rfl rfl rfl dR_work_31 ?_
        refine lv_icmp_ge (tgt := 58) hx hb dR_work_32 (by decide) (fun c18 => absurd c18 (by rw [nI_add]; exact nI_ge (b := 1600) (by omega) (by decide))) (fun c18 => ?_)
        refine lv_aload_n hx hb dR_work_35 rfl (lv_at hl 0 rfl) ?_
        refine va_get (D := D) (ci := 5) (v := .ref qb) (C := "UnitRoom$Reader") (T := TR) (N := 10) hx hb hts inR hown hV (ur_one hI.1 fq2) 0 rfl rfl 1 (by decide) (hts _ mw73) (fun x9 h9 => u_same (hts _ mw74) x9 h9) rfl dR_work_36 ?_
        refine lv_iload hx hb dR_work_39 (lv_at hl 3 rfl) ?_
        refine lv_aload_n hx hb dR_work_41 rfl (lv_at hl 0 rfl) ?_
        refine va_get (D := D) (ci := 5) (v := .ref qc) (C := "UnitRoom$Reader") (T := TR) (N := 10) hx hb hts inR hown hV (ur_one hI.1 fq2) 0 rfl rfl 7 (by decide) (hts _ mw63) (fun _ h9 => h9) rfl dR_work_42 ?_
        refine lv_iload hx hb dR_work_45 (lv_at hl 2 rfl) ?_
        refine lv_iload hx hb dR_work_47 (lv_at hl 3 rfl) ?_
        refine lv_iadd hx hb dR_work_49 ?_
        refine va_iald hx hb hV (ur_one hI.1 fq3) 0 0 rfl rfl (by rw [nI_add]; exact vp_in_nI (by omega) (by decide)) dR_work_50 ?_
        refine ur_iast hx hb hV hI 0 fq4 rfl (vp_in_nI hlt (by decide)) dR_work_51 (fun H locs hI => ?_)
        obtain ⟨h19, eh19⟩ : ∃ z : ur_M, z = va_up hn1 qb (some (.inl (E.1 0, 16, .inl (upd (um_rd cs o r k) (Int32.toNatClampNeg (nI k)) (cs (Int32.toNatClampNeg ((nI r) + (nI k)))))))) := ⟨_, rfl⟩
        replace hI : ur_I D vwCl (ur_A h s.heap.size) s.heap h19 H locs := by rw [eh19]; exact hI
        have fq20 : h19 q = some (.inr (5, [.int 16, .ref qb, .int du, .long fa, .int br, .int tu, .int ta, .ref qc, .int (nI a), .int (nI b)])) := by rw [eh19]; exact ((va_up_ne _ _ (ur_ne fq2 fq4 (by intro z; simp at z))).trans fq2)
        have fq21 : h19 qc = some (.inl (E.1 0, 1600, .inl cs)) := by rw [eh19]; exact ((va_up_ne _ _ (ur_ne fq3 fq4 (by intro z; simp at z))).trans fq3)
        have fq22 : h19 qb = some (.inl (E.1 0, 16, .inl (upd (um_rd cs o r k) (Int32.toNatClampNeg (nI k)) (cs (Int32.toNatClampNeg ((nI r) + (nI k))))))) := by rw [eh19]; exact (va_up_self _ _ _)
        refine lv_iinc (v := ((nI k) + 1)) (lv' := [(6, .int ((nI k) + 1)), (0, .ref q), (2, .int mv), (5, .int (nI r))]) hx hb dR_work_52 hl (k := 3) rfl rfl (by decide) rfl (fun ls hl => ?_)
        refine lv_goto (tgt := 12) hx hb dR_work_55 (by decide) ?_
        rw [nI_1] at hl
        exact ihn1 (k + 1) h19 H locs ls (by omega) hlt (by rw [eh19, ehn1, bx_uu, um_ix2 (by omega), nI_clamp (by omega), um_rd_succ]) hI (lv_sub hl [1, 2, 3, 0] rfl)
  exact lpn1 _ 0 h _ _ ls (Nat.lt_succ_self _) (by decide) ((by rw [um_rd_0]; exact (ur_same f2).symm)) hI (lv_sub hl [2, 4, 1, 0] rfl)
