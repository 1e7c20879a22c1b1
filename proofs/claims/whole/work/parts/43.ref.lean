theorem dF_set_0 : decode cF_set 0 = .ok (.iload_n 1, 1) := by decide +kernel
theorem dF_set_1 : decode cF_set 1 = .ok (.iconst 0, 1) := by decide +kernel
theorem dF_set_2 : decode cF_set 2 = .ok (.sipush 3999, 3) := by decide +kernel
theorem dF_set_5 : decode cF_set 5 = .ok (.invokestatic 64, 3) := by decide +kernel
theorem dF_set_8 : decode cF_set 8 = .ok (.ifCond .eq 14, 3) := by decide +kernel
theorem dF_set_11 : decode cF_set 11 = .ok (.iload_n 2, 1) := by decide +kernel
theorem dF_set_12 : decode cF_set 12 = .ok (.ldc 68, 2) := by decide +kernel
theorem dF_set_14 : decode cF_set 14 = .ok (.ldc 57, 2) := by decide +kernel
theorem dF_set_16 : decode cF_set 16 = .ok (.invokestatic 64, 3) := by decide +kernel
theorem dF_set_19 : decode cF_set 19 = .ok (.ifCond .ne 5, 3) := by decide +kernel
theorem dF_set_22 : decode cF_set 22 = .ok (.iconst 0, 1) := by decide +kernel
theorem dF_set_23 : decode cF_set 23 = .ok (.ireturn, 1) := by decide +kernel
theorem dF_set_24 : decode cF_set 24 = .ok (.iload_n 2, 1) := by decide +kernel
theorem dF_set_25 : decode cF_set 25 = .ok (.ifCond .lt 11, 3) := by decide +kernel
theorem dF_set_28 : decode cF_set 28 = .ok (.iload_n 2, 1) := by decide +kernel
theorem dF_set_29 : decode cF_set 29 = .ok (.ifCond .ne 11, 3) := by decide +kernel
theorem dF_set_32 : decode cF_set 32 = .ok (.iload_n 3, 1) := by decide +kernel
theorem dF_set_33 : decode cF_set 33 = .ok (.ifCond .eq 7, 3) := by decide +kernel
theorem dF_set_36 : decode cF_set 36 = .ok (.iconst 1, 1) := by decide +kernel
theorem dF_set_37 : decode cF_set 37 = .ok (.goto 4, 3) := by decide +kernel
theorem dF_set_40 : decode cF_set 40 = .ok (.iconst 0, 1) := by decide +kernel
theorem dF_set_41 : decode cF_set 41 = .ok (.istore 4, 2) := by decide +kernel
theorem dF_set_43 : decode cF_set 43 = .ok (.aload_n 0, 1) := by decide +kernel
theorem dF_set_44 : decode cF_set 44 = .ok (.getfield 7, 3) := by decide +kernel
theorem dF_set_47 : decode cF_set 47 = .ok (.iload_n 1, 1) := by decide +kernel
theorem dF_set_48 : decode cF_set 48 = .ok (.iload_n 2, 1) := by decide +kernel
theorem dF_set_49 : decode cF_set 49 = .ok (.ifCond .ge 8, 3) := by decide +kernel
theorem dF_set_52 : decode cF_set 52 = .ok (.iload_n 2, 1) := by decide +kernel
theorem dF_set_53 : decode cF_set 53 = .ok (.ineg, 1) := by decide +kernel
theorem dF_set_54 : decode cF_set 54 = .ok (.goto 4, 3) := by decide +kernel
theorem dF_set_57 : decode cF_set 57 = .ok (.iload_n 2, 1) := by decide +kernel
theorem dF_set_58 : decode cF_set 58 = .ok (.iload 4, 2) := by decide +kernel
theorem dF_set_60 : decode cF_set 60 = .ok (.ifCond .eq 8, 3) := by decide +kernel
theorem dF_set_63 : decode cF_set 63 = .ok (.ldc 58, 2) := by decide +kernel
theorem dF_set_65 : decode cF_set 65 = .ok (.goto 4, 3) := by decide +kernel
theorem dF_set_68 : decode cF_set 68 = .ok (.iconst 0, 1) := by decide +kernel
theorem dF_set_69 : decode cF_set 69 = .ok (.iadd, 1) := by decide +kernel
theorem dF_set_70 : decode cF_set 70 = .ok (.iastore, 1) := by decide +kernel
theorem dF_set_71 : decode cF_set 71 = .ok (.iconst 1, 1) := by decide +kernel
theorem dF_set_72 : decode cF_set 72 = .ok (.ireturn, 1) := by decide +kernel
abbrev rmkF_set : Room := { frames := 1, cells := 0, slots := 0, locals := 22 }
set_option maxHeartbeats 4000000 in
set_option maxRecDepth 100000 in
theorem kF_set (l : Launch) (D : va_G) (E : ur_Ev) (h : ur_M) (q : Nat) (b1 : Nat) (b2 : Nat) (b3 : Nat) (b4 : Nat) (b5 : Nat) (b6 : Nat) (b7 : Nat) (b8 : Nat) (b9 : Nat) (b10 : Nat) (b11 : Nat) (b12 : Nat) (b13 : Nat) (b14 : Nat) (ti : Int64) (ops : Int32) (cds : Int32) (tsz : Int32) (g_memory : Nat → Int32) (x : Int32) (v : Int32) (z : Int32) (f0 : h q = some (.inr (7, [.ref b1, .ref b2, .ref b3, .long ti, .ref b4, .ref b5, .ref b6, .ref b7, .int ops, .ref b8, .int cds, .ref b9, .ref b10, .ref b11, .ref b12, .ref b13, .int tsz, .ref b14]))) (f1 : h b1 = some (.inl (E.1 0, 4000, .inl g_memory)))  : ur_Mi l yF_set wsF_set rmkF_set D vwCl (ur_v E) [.ref q, .int x, .int v, .int z] h (fun r h2 => r = um_b (fo_sok x v) ∧ h2 = va_up h b1 (some (.inl (E.1 0, 4000, .inl (fo_set g_memory x v z))))) 0 0 := by
  intro sz
  refine ur_of (cc := cF_set) (maxL := 5) (ret := (some .boolean)) (by decide) rfl (Nat.le_of_ble_eq_true rfl) ?_
  intro p e s m args below meth c ls Q hsz hx hb hml hr hlocks hnm hown hts hO hK hI hQ hl
  subst hsz
  have hV := hK.1
  have hts : ∀ w ∈ ur_G, w.before args s = true := fun w hw => hts w (List.mem_cons_of_mem _ hw)
  have hZ : ur_Z E (ur_A h s.heap.size) s s.heap := hO.1
  have hown : s.vm.findClass "UnitRoomModel" = some m.cls := hown
  have hl : lv_has ls 5 [(0, .ref q), (1, .int x), (2, .int v), (3, .int z)] := hl
  refine lv_iload_n hx hb dF_set_0 rfl (lv_at hl 1 rfl) ?_
  refine lv_iconst (v := 0) hx hb dF_set_1 (by decide) ?_
  refine lv_sipush (v := 3999) hx hb dF_set_2 (by decide) ?_
  refine ur_xi (va_runS (As := [.int x, .int 0, .int 3999]) (rest := []) ⟨hx, hb, hml, hown, hts⟩ (kF_in l D E h x 0 3999 s.heap.size) (va_cwS 3 hts (ur_gT mw642 mw643 mw11 mw644) rfl rfl rfl (by decide +kernel) ⟨(Nat.le_of_ble_eq_true rfl), (Nat.le_of_ble_eq_true rfl)⟩) ⟨ur_blind, ur_pre hI hO hK (fun _ _ q => q)⟩ rfl rfl hl.1 rfl (lv_room (Nat.le_of_ble_eq_true rfl)) dF_set_5 ⟨Nat.le_of_ble_eq_true rfl, Nat.le_of_ble_eq_true rfl⟩) hI (fun r1 h1 H locs p1 hI => ?_)
  obtain ⟨er1, eh1⟩ := p1
  replace eh1 := eh1.symm; subst eh1
  refine lv_if_eq (tgt := 22) hx hb dF_set_8 (by decide) (fun c2 => ?_) (fun c2 => ?_)
  · have k3 : (fo_in x 0 3999) = false := um_b0 er1 c2
    refine lv_iconst (v := 0) hx hb dF_set_22 (by decide) ?_
    exact ur_rz hx hb hr hlocks hI hQ rfl ⟨(by rw [(show fo_sok x v = false by unfold fo_sok; rw [if_neg (by rw [k3]; decide)])]; rfl), (by rw [show fo_set g_memory x v z = g_memory by unfold fo_set; rw [if_neg (by rw [(show fo_sok x v = false by unfold fo_sok; rw [if_neg (by rw [k3]; decide)])]; decide)]]; exact (ur_same f1).symm)⟩ dF_set_23
  · have k4 : (fo_in x 0 3999) = true := um_b1 er1 c2
    refine lv_iload_n hx hb dF_set_11 rfl (lv_at hl 2 rfl) ?_
    refine lv_ldc (v := (-1073741823)) hx hb hown (hts _ mw649) dF_set_12 ?_
    refine lv_ldc (v := 1073741823) hx hb hown (hts _ mw650) dF_set_14 ?_
    refine ur_xi (va_runS (As := [.int v, .int (-1073741823), .int 1073741823]) (rest := []) ⟨hx, hb, hml, hown, hts⟩ (kF_in l D E h v (-1073741823) 1073741823 H.size) (va_cwS 3 hts (ur_gT mw642 mw643 mw11 mw644) rfl rfl rfl (by decide +kernel) ⟨(Nat.le_of_ble_eq_true rfl), (Nat.le_of_ble_eq_true rfl)⟩) ⟨ur_blind, ur_pre hI hO hK (fun _ _ q => q)⟩ rfl rfl hl.1 rfl (lv_room (Nat.le_of_ble_eq_true rfl)) dF_set_16 ⟨Nat.le_of_ble_eq_true rfl, Nat.le_of_ble_eq_true rfl⟩) hI (fun r5 h5 H locs p5 hI => ?_)
    obtain ⟨er5, eh5⟩ := p5
    replace eh5 := eh5.symm; subst eh5
    refine lv_if_ne (tgt := 24) hx hb dF_set_19 (by decide) (fun c6 => ?_) (fun c6 => ?_)
    · have k7 : (fo_in v (-1073741823) 1073741823) = true := um_b1 er5 c6
      refine lv_iload_n hx hb dF_set_24 rfl (lv_at hl 2 rfl) ?_
      refine lv_if_lt (tgt := 36) hx hb dF_set_25 (by decide) (fun c8 => ?_) (fun c8 => ?_)
      · refine lv_iconst (v := 1) hx hb dF_set_36 (by decide) ?_
        refine lv_goto (tgt := 41) hx hb dF_set_37 (by decide) ?_
        refine lv_istore (lv' := [(4, .int 1), (0, .ref q), (1, .int x), (2, .int v), (3, .int z)]) hx hb dF_set_41 hl (by decide) rfl (fun ls hl => ?_)
        refine lv_aload_n hx hb dF_set_43 rfl (lv_at hl 1 rfl) ?_
        refine va_get (D := D) (ci := 7) (v := .ref b1) (C := "UnitRoomModel") (T := TF) (N := 18) hx hb hts inF hown hV (ur_one hI.1 f0) 0 rfl rfl 0 (by decide) (hts _ mw577) (fun _ h9 => h9) rfl dF_set_44 ?_
        refine lv_iload_n hx hb dF_set_47 rfl (lv_at hl 2 rfl) ?_
        refine lv_iload_n hx hb dF_set_48 rfl (lv_at hl 3 rfl) ?_
        refine lv_if_ge (tgt := 57) hx hb dF_set_49 (by decide) (fun c9 => absurd c9 (Int32.not_le.mpr c8)) (fun c9 => ?_)
        refine lv_iload_n hx hb dF_set_52 rfl (lv_at hl 3 rfl) ?_
        refine lv_ineg hx hb dF_set_53 ?_
        refine lv_goto (tgt := 58) hx hb dF_set_54 (by decide) ?_
        refine lv_iload hx hb dF_set_58 (lv_at hl 0 rfl) ?_
        refine lv_if_eq (tgt := 68) hx hb dF_set_60 (by decide) (fun c10 => absurd c10 (by decide)) (fun c10 => ?_)
        refine lv_ldc (v := 1073741824) hx hb hown (hts _ mw651) dF_set_63 ?_
        refine lv_goto (tgt := 69) hx hb dF_set_65 (by decide) ?_
        refine lv_iadd hx hb dF_set_69 ?_
        refine ur_iast hx hb hV hI 0 f1 rfl (fo_in_iff (n := 3999) (by decide) k4).2.2 dF_set_70 (fun H locs hI => ?_)
        obtain ⟨h11, eh11⟩ : ∃ z : ur_M, z = va_up h b1 (some (.inl (E.1 0, 4000, .inl (upd g_memory x.toNatClampNeg ((-v) + 1073741824))))) := ⟨_, rfl⟩
        replace hI : ur_I D vwCl (ur_A h s.heap.size) s.heap h11 H locs := by rw [eh11]; exact hI
        have fq12 : h11 q = some (.inr (7, [.ref b1, .ref b2, .ref b3, .long ti, .ref b4, .ref b5, .ref b6, .ref b7, .int ops, .ref b8, .int cds, .ref b9, .ref b10, .ref b11, .ref b12, .ref b13, .int tsz, .ref b14])) := by rw [eh11]; exact ((va_up_ne _ _ (ur_ne f0 f1 (by intro z; simp at z))).trans f0)
        have fq13 : h11 b1 = some (.inl (E.1 0, 4000, .inl (upd g_memory x.toNatClampNeg ((-v) + 1073741824)))) := by rw [eh11]; exact (va_up_self _ _ _)
        refine lv_iconst (v := 1) hx hb dF_set_71 (by decide) ?_
        exact ur_rz hx hb hr hlocks hI hQ rfl ⟨(by rw [(show fo_sok x v = true by unfold fo_sok; rw [if_pos k4]; exact k7)]; rfl), (by rw [eh11, show fo_set g_memory x v z = upd g_memory x.toNatClampNeg (fo_sv v z) by unfold fo_set; rw [if_pos (show fo_sok x v = true by unfold fo_sok; rw [if_pos k4]; exact k7)], show fo_sv v z = -v + 1073741824 by unfold fo_sv; rw [if_pos c8]])⟩ dF_set_72
      · refine lv_iload_n hx hb dF_set_28 rfl (lv_at hl 2 rfl) ?_
        refine lv_if_ne (tgt := 40) hx hb dF_set_29 (by decide) (fun c14 => ?_) (fun c14 => ?_)
        · refine lv_iconst (v := 0) hx hb dF_set_40 (by decide) ?_
          refine lv_istore (lv' := [(4, .int 0), (0, .ref q), (1, .int x), (2, .int v), (3, .int z)]) hx hb dF_set_41 hl (by decide) rfl (fun ls hl => ?_)
          refine lv_aload_n hx hb dF_set_43 rfl (lv_at hl 1 rfl) ?_
          refine va_get (D := D) (ci := 7) (v := .ref b1) (C := "UnitRoomModel") (T := TF) (N := 18) hx hb hts inF hown hV (ur_one hI.1 f0) 0 rfl rfl 0 (by decide) (hts _ mw577) (fun _ h9 => h9) rfl dF_set_44 ?_
          refine lv_iload_n hx hb dF_set_47 rfl (lv_at hl 2 rfl) ?_
          refine lv_iload_n hx hb dF_set_48 rfl (lv_at hl 3 rfl) ?_
          refine lv_if_ge (tgt := 57) hx hb dF_set_49 (by decide) (fun c15 => ?_) (fun c15 => absurd c15 (not_not_intro (Int32.not_lt.mp c8)))
          refine lv_iload_n hx hb dF_set_57 rfl (lv_at hl 3 rfl) ?_
          refine lv_iload hx hb dF_set_58 (lv_at hl 0 rfl) ?_
          refine lv_if_eq (tgt := 68) hx hb dF_set_60 (by decide) (fun c16 => ?_) (fun c16 => absurd c16 (by decide))
          refine lv_iconst (v := 0) hx hb dF_set_68 (by decide) ?_
          refine lv_iadd hx hb dF_set_69 ?_
          refine ur_iast hx hb hV hI 0 f1 rfl (fo_in_iff (n := 3999) (by decide) k4).2.2 dF_set_70 (fun H locs hI => ?_)
          obtain ⟨h17, eh17⟩ : ∃ z : ur_M, z = va_up h b1 (some (.inl (E.1 0, 4000, .inl (upd g_memory x.toNatClampNeg (v + 0))))) := ⟨_, rfl⟩
          replace hI : ur_I D vwCl (ur_A h s.heap.size) s.heap h17 H locs := by rw [eh17]; exact hI
          have fq18 : h17 q = some (.inr (7, [.ref b1, .ref b2, .ref b3, .long ti, .ref b4, .ref b5, .ref b6, .ref b7, .int ops, .ref b8, .int cds, .ref b9, .ref b10, .ref b11, .ref b12, .ref b13, .int tsz, .ref b14])) := by rw [eh17]; exact ((va_up_ne _ _ (ur_ne f0 f1 (by intro z; simp at z))).trans f0)
          have fq19 : h17 b1 = some (.inl (E.1 0, 4000, .inl (upd g_memory x.toNatClampNeg (v + 0)))) := by rw [eh17]; exact (va_up_self _ _ _)
          refine lv_iconst (v := 1) hx hb dF_set_71 (by decide) ?_
          exact ur_rz hx hb hr hlocks hI hQ rfl ⟨(by rw [(show fo_sok x v = true by unfold fo_sok; rw [if_pos k4]; exact k7)]; rfl), (by rw [eh17, show fo_set g_memory x v z = upd g_memory x.toNatClampNeg (fo_sv v z) by unfold fo_set; rw [if_pos (show fo_sok x v = true by unfold fo_sok; rw [if_pos k4]; exact k7)], show fo_sv v z = v + 0 by unfold fo_sv; rw [if_neg c8, if_neg c14]])⟩ dF_set_72
        · refine lv_iload_n hx hb dF_set_32 rfl (lv_at hl 3 rfl) ?_
          refine lv_if_eq (tgt := 40) hx hb dF_set_33 (by decide) (fun c20 => ?_) (fun c20 => ?_)
          · refine lv_iconst (v := 0) hx hb dF_set_40 (by decide) ?_
            refine lv_istore (lv' := [(4, .int 0), (0, .ref q), (1, .int x), (2, .int v), (3, .int z)]) hx hb dF_set_41 hl (by decide) rfl (fun ls hl => ?_)
            refine lv_aload_n hx hb dF_set_43 rfl (lv_at hl 1 rfl) ?_
            refine va_get (D := D) (ci := 7) (v := .ref b1) (C := "UnitRoomModel") (T := TF) (N := 18) hx hb hts inF hown hV (ur_one hI.1 f0) 0 rfl rfl 0 (by decide) (hts _ mw577) (fun _ h9 => h9) rfl dF_set_44 ?_
            refine lv_iload_n hx hb dF_set_47 rfl (lv_at hl 2 rfl) ?_
            refine lv_iload_n hx hb dF_set_48 rfl (lv_at hl 3 rfl) ?_
            refine lv_if_ge (tgt := 57) hx hb dF_set_49 (by decide) (fun c21 => ?_) (fun c21 => absurd c21 (not_not_intro (Int32.not_lt.mp c8)))
            refine lv_iload_n hx hb dF_set_57 rfl (lv_at hl 3 rfl) ?_
            refine lv_iload hx hb dF_set_58 (lv_at hl 0 rfl) ?_
            refine lv_if_eq (tgt := 68) hx hb dF_set_60 (by decide) (fun c22 => ?_) (fun c22 => absurd c22 (by decide))
            refine lv_iconst (v := 0) hx hb dF_set_68 (by decide) ?_
            refine lv_iadd hx hb dF_set_69 ?_
            refine ur_iast hx hb hV hI 0 f1 rfl (fo_in_iff (n := 3999) (by decide) k4).2.2 dF_set_70 (fun H locs hI => ?_)
            obtain ⟨h23, eh23⟩ : ∃ z : ur_M, z = va_up h b1 (some (.inl (E.1 0, 4000, .inl (upd g_memory x.toNatClampNeg (v + 0))))) := ⟨_, rfl⟩
            replace hI : ur_I D vwCl (ur_A h s.heap.size) s.heap h23 H locs := by rw [eh23]; exact hI
            have fq24 : h23 q = some (.inr (7, [.ref b1, .ref b2, .ref b3, .long ti, .ref b4, .ref b5, .ref b6, .ref b7, .int ops, .ref b8, .int cds, .ref b9, .ref b10, .ref b11, .ref b12, .ref b13, .int tsz, .ref b14])) := by rw [eh23]; exact ((va_up_ne _ _ (ur_ne f0 f1 (by intro z; simp at z))).trans f0)
            have fq25 : h23 b1 = some (.inl (E.1 0, 4000, .inl (upd g_memory x.toNatClampNeg (v + 0)))) := by rw [eh23]; exact (va_up_self _ _ _)
            refine lv_iconst (v := 1) hx hb dF_set_71 (by decide) ?_
            exact ur_rz hx hb hr hlocks hI hQ rfl ⟨(by rw [(show fo_sok x v = true by unfold fo_sok; rw [if_pos k4]; exact k7)]; rfl), (by rw [eh23, show fo_set g_memory x v z = upd g_memory x.toNatClampNeg (fo_sv v z) by unfold fo_set; rw [if_pos (show fo_sok x v = true by unfold fo_sok; rw [if_pos k4]; exact k7)], show fo_sv v z = v + 0 by unfold fo_sv; rw [if_neg c8, if_pos c14, if_pos c20]])⟩ dF_set_72
          · refine lv_iconst (v := 1) hx hb dF_set_36 (by decide) ?_
            refine lv_goto (tgt := 41) hx hb dF_set_37 (by decide) ?_
            refine lv_istore (lv' := [(4, .int 1), (0, .ref q), (1, .int x), (2, .int v), (3, .int z)]) hx hb dF_set_41 hl (by decide) rfl (fun ls hl => ?_)
            refine lv_aload_n hx hb dF_set_43 rfl (lv_at hl 1 rfl) ?_
            refine va_get (D := D) (ci := 7) (v := .ref b1) (C := "UnitRoomModel") (T := TF) (N := 18) hx hb hts inF hown hV (ur_one hI.1 f0) 0 rfl rfl 0 (by decide) (hts _ mw577) (fun _ h9 => h9) rfl dF_set_44 ?_
            refine lv_iload_n hx hb dF_set_47 rfl (lv_at hl 2 rfl) ?_
            refine lv_iload_n hx hb dF_set_48 rfl (lv_at hl 3 rfl) ?_
            refine lv_if_ge (tgt := 57) hx hb dF_set_49 (by decide) (fun c26 => ?_) (fun c26 => absurd c26 (not_not_intro (Int32.not_lt.mp c8)))
            refine lv_iload_n hx hb dF_set_57 rfl (lv_at hl 3 rfl) ?_
            refine lv_iload hx hb dF_set_58 (lv_at hl 0 rfl) ?_
            refine lv_if_eq (tgt := 68) hx hb dF_set_60 (by decide) (fun c27 => absurd c27 (by decide)) (fun c27 => ?_)
            refine lv_ldc (v := 1073741824) hx hb hown (hts _ mw651) dF_set_63 ?_
            refine lv_goto (tgt := 69) hx hb dF_set_65 (by decide) ?_
            refine lv_iadd hx hb dF_set_69 ?_
            refine ur_iast hx hb hV hI 0 f1 rfl (fo_in_iff (n := 3999) (by decide) k4).2.2 dF_set_70 (fun H locs hI => ?_)
            obtain ⟨h28, eh28⟩ : ∃ z : ur_M, z = va_up h b1 (some (.inl (E.1 0, 4000, .inl (upd g_memory x.toNatClampNeg (v + 1073741824))))) := ⟨_, rfl⟩
            replace hI : ur_I D vwCl (ur_A h s.heap.size) s.heap h28 H locs := by rw [eh28]; exact hI
            have fq29 : h28 q = some (.inr (7, [.ref b1, .ref b2, .ref b3, .long ti, .ref b4, .ref b5, .ref b6, .ref b7, .int ops, .ref b8, .int cds, .ref b9, .ref b10, .ref b11, .ref b12, .ref b13, .int tsz, .ref b14])) := by rw [eh28]; exact ((va_up_ne _ _ (ur_ne f0 f1 (by intro z; simp at z))).trans f0)
            have fq30 : h28 b1 = some (.inl (E.1 0, 4000, .inl (upd g_memory x.toNatClampNeg (v + 1073741824)))) := by rw [eh28]; exact (va_up_self _ _ _)
            refine lv_iconst (v := 1) hx hb dF_set_71 (by decide) ?_
            exact ur_rz hx hb hr hlocks hI hQ rfl ⟨(by rw [(show fo_sok x v = true by unfold fo_sok; rw [if_pos k4]; exact k7)]; rfl), (by rw [eh28, show fo_set g_memory x v z = upd g_memory x.toNatClampNeg (fo_sv v z) by unfold fo_set; rw [if_pos (show fo_sok x v = true by unfold fo_sok; rw [if_pos k4]; exact k7)], show fo_sv v z = v + 1073741824 by unfold fo_sv; rw [if_neg c8, if_pos c14, if_neg c20]])⟩ dF_set_72
    · have k31 : (fo_in v (-1073741823) 1073741823) = false := um_b0 er5 c6
      refine lv_iconst (v := 0) hx hb dF_set_22 (by decide) ?_
      exact ur_rz hx hb hr hlocks hI hQ rfl ⟨(by rw [(show fo_sok x v = false by unfold fo_sok; rw [if_pos k4]; exact k31)]; rfl), (by rw [show fo_set g_memory x v z = g_memory by unfold fo_set; rw [if_neg (by rw [(show fo_sok x v = false by unfold fo_sok; rw [if_pos k4]; exact k31)]; decide)]]; exact (ur_same f1).symm)⟩ dF_set_23
theorem dF_fill_0 : decode cF_fill 0 = .ok (.iload_n 2, 1) := by decide +kernel
theorem dF_fill_1 : decode cF_fill 1 = .ok (.iconst 1, 1) := by decide +kernel
theorem dF_fill_2 : decode cF_fill 2 = .ok (.sipush 200, 3) := by decide +kernel
theorem dF_fill_5 : decode cF_fill 5 = .ok (.invokestatic 64, 3) := by decide +kernel
theorem dF_fill_8 : decode cF_fill 8 = .ok (.ifCond .eq 16, 3) := by decide +kernel
theorem dF_fill_11 : decode cF_fill 11 = .ok (.iload_n 1, 1) := by decide +kernel
theorem dF_fill_12 : decode cF_fill 12 = .ok (.iconst 0, 1) := by decide +kernel
theorem dF_fill_13 : decode cF_fill 13 = .ok (.sipush 4000, 3) := by decide +kernel
theorem dF_fill_16 : decode cF_fill 16 = .ok (.iload_n 2, 1) := by decide +kernel
theorem dF_fill_17 : decode cF_fill 17 = .ok (.isub, 1) := by decide +kernel
theorem dF_fill_18 : decode cF_fill 18 = .ok (.invokestatic 64, 3) := by decide +kernel
theorem dF_fill_21 : decode cF_fill 21 = .ok (.ifCond .ne 5, 3) := by decide +kernel
theorem dF_fill_24 : decode cF_fill 24 = .ok (.iconst 0, 1) := by decide +kernel
theorem dF_fill_25 : decode cF_fill 25 = .ok (.ireturn, 1) := by decide +kernel
theorem dF_fill_26 : decode cF_fill 26 = .ok (.iconst 0, 1) := by decide +kernel
theorem dF_fill_27 : decode cF_fill 27 = .ok (.istore 4, 2) := by decide +kernel
theorem dF_fill_29 : decode cF_fill 29 = .ok (.iload 4, 2) := by decide +kernel
theorem dF_fill_31 : decode cF_fill 31 = .ok (.iload_n 2, 1) := by decide +kernel
theorem dF_fill_32 : decode cF_fill 32 = .ok (.if_icmp .ge 29, 3) := by decide +kernel
theorem dF_fill_35 : decode cF_fill 35 = .ok (.aload_n 0, 1) := by decide +kernel
theorem dF_fill_36 : decode cF_fill 36 = .ok (.getfield 7, 3) := by decide +kernel
theorem dF_fill_39 : decode cF_fill 39 = .ok (.iload_n 1, 1) := by decide +kernel
theorem dF_fill_40 : decode cF_fill 40 = .ok (.iload 4, 2) := by decide +kernel
theorem dF_fill_42 : decode cF_fill 42 = .ok (.iadd, 1) := by decide +kernel
theorem dF_fill_43 : decode cF_fill 43 = .ok (.iload_n 3, 1) := by decide +kernel
theorem dF_fill_44 : decode cF_fill 44 = .ok (.sipush 12345, 3) := by decide +kernel
theorem dF_fill_47 : decode cF_fill 47 = .ok (.iload 4, 2) := by decide +kernel
theorem dF_fill_49 : decode cF_fill 49 = .ok (.imul, 1) := by decide +kernel
theorem dF_fill_50 : decode cF_fill 50 = .ok (.iadd, 1) := by decide +kernel
theorem dF_fill_51 : decode cF_fill 51 = .ok (.ldc 57, 2) := by decide +kernel
theorem dF_fill_53 : decode cF_fill 53 = .ok (.iand, 1) := by decide +kernel
theorem dF_fill_54 : decode cF_fill 54 = .ok (.iastore, 1) := by decide +kernel
theorem dF_fill_55 : decode cF_fill 55 = .ok (.iinc 4 1, 3) := by decide +kernel
theorem dF_fill_58 : decode cF_fill 58 = .ok (.goto (-29), 3) := by decide +kernel
theorem dF_fill_61 : decode cF_fill 61 = .ok (.iconst 1, 1) := by decide +kernel
theorem dF_fill_62 : decode cF_fill 62 = .ok (.ireturn, 1) := by decide +kernel
abbrev rmkF_fill : Room := { frames := 1, cells := 0, slots := 0, locals := 22 }
set_option maxHeartbeats 4000000 in
set_option maxRecDepth 100000 in
theorem kF_fill (l : Launch) (D : va_G) (E : ur_Ev) (h : ur_M) (q : Nat) (b1 : Nat) (b2 : Nat) (b3 : Nat) (b4 : Nat) (b5 : Nat) (b6 : Nat) (b7 : Nat) (b8 : Nat) (b9 : Nat) (b10 : Nat) (b11 : Nat) (b12 : Nat) (b13 : Nat) (b14 : Nat) (ti : Int64) (ops : Int32) (cds : Int32) (tsz : Int32) (g_memory : Nat → Int32) (x : Int32) (n : Int32) (sd : Int32) (f0 : h q = some (.inr (7, [.ref b1, .ref b2, .ref b3, .long ti, .ref b4, .ref b5, .ref b6, .ref b7, .int ops, .ref b8, .int cds, .ref b9, .ref b10, .ref b11, .ref b12, .ref b13, .int tsz, .ref b14]))) (f1 : h b1 = some (.inl (E.1 0, 4000, .inl g_memory)))  : ur_Mi l yF_fill wsF_fill rmkF_fill D vwCl (ur_v E) [.ref q, .int x, .int n, .int sd] h (fun r h2 => r = um_b (fo_fok x n) ∧ h2 = va_up h b1 (some (.inl (E.1 0, 4000, .inl (fo_fil g_memory x n sd))))) 0 0 := by
  intro sz
  refine ur_of (cc := cF_fill) (maxL := 5) (ret := (some .boolean)) (by decide) rfl (Nat.le_of_ble_eq_true rfl) ?_
  intro p e s m args below meth c ls Q hsz hx hb hml hr hlocks hnm hown hts hO hK hI hQ hl
  subst hsz
  have hV := hK.1
  have hts : ∀ w ∈ ur_G, w.before args s = true := fun w hw => hts w (List.mem_cons_of_mem _ hw)
  have hZ : ur_Z E (ur_A h s.heap.size) s s.heap := hO.1
  have hown : s.vm.findClass "UnitRoomModel" = some m.cls := hown
  have hl : lv_has ls 5 [(0, .ref q), (1, .int x), (2, .int n), (3, .int sd)] := hl
  refine lv_iload_n hx hb dF_fill_0 rfl (lv_at hl 2 rfl) ?_
  refine lv_iconst (v := 1) hx hb dF_fill_1 (by decide) ?_
  refine lv_sipush (v := 200) hx hb dF_fill_2 (by decide) ?_
  refine ur_xi (va_runS (As := [.int n, .int 1, .int 200]) (rest := []) ⟨hx, hb, hml, hown, hts⟩ (kF_in l D E h n 1 200 s.heap.size) (va_cwS 3 hts (ur_gT mw642 mw643 mw11 mw644) rfl rfl rfl (by decide +kernel) ⟨(Nat.le_of_ble_eq_true rfl), (Nat.le_of_ble_eq_true rfl)⟩) ⟨ur_blind, ur_pre hI hO hK (fun _ _ q => q)⟩ rfl rfl hl.1 rfl (lv_room (Nat.le_of_ble_eq_true rfl)) dF_fill_5 ⟨Nat.le_of_ble_eq_true rfl, Nat.le_of_ble_eq_true rfl⟩) hI (fun r1 h1 H locs p1 hI => ?_)
  obtain ⟨er1, eh1⟩ := p1
  replace eh1 := eh1.symm; subst eh1
  refine lv_if_eq (tgt := 24) hx hb dF_fill_8 (by decide) (fun c2 => ?_) (fun c2 => ?_)
  · have k3 : (fo_in n 1 200) = false := um_b0 er1 c2
    refine lv_iconst (v := 0) hx hb dF_fill_24 (by decide) ?_
    exact ur_rz hx hb hr hlocks hI hQ rfl ⟨(by rw [(show fo_fok x n = false by unfold fo_fok; rw [if_neg (by rw [k3]; decide)])]; rfl), (by rw [show fo_fil g_memory x n sd = g_memory by unfold fo_fil; rw [if_neg (by rw [(show fo_fok x n = false by unfold fo_fok; rw [if_neg (by rw [k3]; decide)])]; decide)]]; exact (ur_same f1).symm)⟩ dF_fill_25
  · have k4 : (fo_in n 1 200) = true := um_b1 er1 c2
    refine lv_iload_n hx hb dF_fill_11 rfl (lv_at hl 1 rfl) ?_
    refine lv_iconst (v := 0) hx hb dF_fill_12 (by decide) ?_
    refine lv_sipush (v := 4000) hx hb dF_fill_13 (by decide) ?_
    refine lv_iload_n hx hb dF_fill_16 rfl (lv_at hl 2 rfl) ?_
    refine lv_isub hx hb dF_fill_17 ?_
    refine ur_xi (va_runS (As := [.int x, .int 0, .int (4000 - n)]) (rest := []) ⟨hx, hb, hml, hown, hts⟩ (kF_in l D E h x 0 (4000 - n) H.size) (va_cwS 3 hts (ur_gT mw642 mw643 mw11 mw644) rfl rfl rfl (by decide +kernel) ⟨(Nat.le_of_ble_eq_true rfl), (Nat.le_of_ble_eq_true rfl)⟩) ⟨ur_blind, ur_pre hI hO hK (fun _ _ q => q)⟩ rfl rfl hl.1 rfl (lv_room (Nat.le_of_ble_eq_true rfl)) dF_fill_18 ⟨Nat.le_of_ble_eq_true rfl, Nat.le_of_ble_eq_true rfl⟩) hI (fun r5 h5 H locs p5 hI => ?_)
    obtain ⟨er5, eh5⟩ := p5
    replace eh5 := eh5.symm; subst eh5
    refine lv_if_ne (tgt := 26) hx hb dF_fill_21 (by decide) (fun c6 => ?_) (fun c6 => ?_)
    · have k7 : (fo_in x 0 (4000 - n)) = true := um_b1 er5 c6
      obtain ⟨nn, hnn, hn9⟩ := fo_200 k4
      have hin9 : fo_in x 0 (4000 - nI nn) = true := by rw [← hn9]; exact k7
      refine lv_iconst (v := 0) hx hb dF_fill_26 (by decide) ?_
      refine lv_istore (lv' := [(4, .int 0), (0, .ref q), (1, .int x), (2, .int n), (3, .int sd)]) hx hb dF_fill_27 hl (by decide) rfl (fun ls hl => ?_)
      have lpn8 : ∀ (n8 : Nat) (k : Nat) (hn8 : ur_M) (H : Heap) (locs : List Loc) (ls : Array Slot), nn - k < n8 → (k ≤ nn) → hn8 = va_up h b1 (some (.inl (E.1 0, 4000, .inl (fo_filF g_memory x sd k)))) → ur_I D vwCl (ur_A h s.heap.size) s.heap hn8 H locs → lv_has ls 5 [(0, .ref q), (1, .int x), (2, .int n), (3, .int sd), (4, .int (nI k))] → W p l e rmkF_fill s m args below meth c H locs 0 0 Q (F0 m 29 ls []) := by
        intro n8
        induction n8 with
        | zero => intro k hn8 H locs ls hnn8; exact absurd hnn8 (Nat.not_lt_zero _)
        | succ n8 ihn8 =>
          intro k hn8 H locs ls hnn8 hk ehn8 hI hl
          have fq9 : hn8 q = some (.inr (7, [.ref b1, .ref b2, .ref b3, .long ti, .ref b4, .ref b5, .ref b6, .ref b7, .int ops, .ref b8, .int cds, .ref b9, .ref b10, .ref b11, .ref b12, .ref b13, .int tsz, .ref b14])) := by rw [ehn8]; exact (va_up_ne _ _ (ur_ne f0 f1 (by intro z; simp at z))).trans f0
          have fq10 : hn8 b1 = some (.inl (E.1 0, 4000, .inl (fo_filF g_memory x sd k))) := by rw [ehn8]; exact va_up_self _ _ _
          refine lv_iload hx hb dF_fill_29 (lv_at hl 4 rfl) ?_
          refine lv_iload_n hx hb dF_fill_31 rfl (lv_at hl 2 rfl) ?_
          refine lv_icmp_ge (tgt := 61) hx hb dF_fill_32 (by decide) (fun c11 => ?_) (fun c11 => ?_)
          · have he9 : k = nn := Nat.le_antisymm hk (Nat.not_lt.mp (fun z9 => by rw [hn9] at c11; exact nI_ge z9 (by omega) c11))
            refine lv_iconst (v := 1) hx hb dF_fill_61 (by decide) ?_
            exact ur_rz hx hb hr hlocks hI hQ rfl ⟨(by rw [(show fo_fok x n = true by unfold fo_fok; rw [if_pos k4]; exact k7)]; rfl), (by rw [ehn8, show fo_fil g_memory x n sd = fo_filF g_memory x sd n.toNatClampNeg by unfold fo_fil; rw [if_pos (show fo_fok x n = true by unfold fo_fok; rw [if_pos k4]; exact k7)], hn9, nI_clamp (by omega), he9])⟩ dF_fill_62
          · have hlt : k < nn := Nat.not_le.mp (fun z9 => c11 (by rw [hn9]; exact nI_le z9 (by omega)))
            refine lv_aload_n hx hb dF_fill_35 rfl (lv_at hl 0 rfl) ?_
            refine va_get (D := D) (ci := 7) (v := .ref b1) (C := "UnitRoomModel") (T := TF) (N := 18) hx hb hts inF hown hV (ur_one hI.1 fq9) 0 rfl rfl 0 (by decide) (hts _ mw577) (fun _ h9 => h9) rfl dF_fill_36 ?_
            refine lv_iload_n hx hb dF_fill_39 rfl (lv_at hl 1 rfl) ?_
            refine lv_iload hx hb dF_fill_40 (lv_at hl 4 rfl) ?_
            refine lv_iadd hx hb dF_fill_42 ?_
            refine lv_iload_n hx hb dF_fill_43 rfl (lv_at hl 3 rfl) ?_
            refine lv_sipush (v := 12345) hx hb dF_fill_44 (by decide) ?_
            refine lv_iload hx hb dF_fill_47 (lv_at hl 4 rfl) ?_
            refine lv_imul hx hb dF_fill_49 ?_
            refine lv_iadd hx hb dF_fill_50 ?_
            refine lv_ldc (v := 1073741823) hx hb hown (hts _ mw650) dF_fill_51 ?_
            refine lv_iand hx hb dF_fill_53 ?_
            refine ur_iast hx hb hV hI 0 fq10 rfl (fo_fin hnn hin9 hlt) dF_fill_54 (fun H locs hI => ?_)
            obtain ⟨h12, eh12⟩ : ∃ z : ur_M, z = va_up hn8 b1 (some (.inl (E.1 0, 4000, .inl (upd (fo_filF g_memory x sd k) (Int32.toNatClampNeg (x + (nI k))) ((sd + (12345 * (nI k))) &&& 1073741823))))) := ⟨_, rfl⟩
            replace hI : ur_I D vwCl (ur_A h s.heap.size) s.heap h12 H locs := by rw [eh12]; exact hI
            have fq13 : h12 q = some (.inr (7, [.ref b1, .ref b2, .ref b3, .long ti, .ref b4, .ref b5, .ref b6, .ref b7, .int ops, .ref b8, .int cds, .ref b9, .ref b10, .ref b11, .ref b12, .ref b13, .int tsz, .ref b14])) := by rw [eh12]; exact ((va_up_ne _ _ (ur_ne fq9 fq10 (by intro z; simp at z))).trans fq9)
            have fq14 : h12 b1 = some (.inl (E.1 0, 4000, .inl (upd (fo_filF g_memory x sd k) (Int32.toNatClampNeg (x + (nI k))) ((sd + (12345 * (nI k))) &&& 1073741823)))) := by rw [eh12]; exact (va_up_self _ _ _)
            refine lv_iinc (v := ((nI k) + 1)) (lv' := [(4, .int ((nI k) + 1)), (0, .ref q), (1, .int x), (2, .int n), (3, .int sd)]) hx hb dF_fill_55 hl (k := 4) rfl rfl (by decide) rfl (fun ls hl => ?_)
            refine lv_goto (tgt := 29) hx hb dF_fill_58 (by decide) ?_
            rw [nI_1] at hl
            exact ihn8 (k + 1) h12 H locs ls (by omega) hlt (by rw [eh12, ehn8, bx_uu]; rfl) hI (lv_sub hl [1, 2, 3, 4, 0] rfl)
      exact lpn8 _ 0 h _ _ ls (Nat.lt_succ_self _) (Nat.zero_le _) ((ur_same f1).symm) hI (lv_sub hl [1, 2, 3, 4, 0] rfl)
    · have k15 : (fo_in x 0 (4000 - n)) = false := um_b0 er5 c6
      refine lv_iconst (v := 0) hx hb dF_fill_24 (by decide) ?_
      exact ur_rz hx hb hr hlocks hI hQ rfl ⟨(by rw [(show fo_fok x n = false by unfold fo_fok; rw [if_pos k4]; exact k15)]; rfl), (by rw [show fo_fil g_memory x n sd = g_memory by unfold fo_fil; rw [if_neg (by rw [(show fo_fok x n = false by unfold fo_fok; rw [if_pos k4]; exact k15)]; decide)]]; exact (ur_same f1).symm)⟩ dF_fill_25
theorem dF_letterOf_0 : decode cF_letterOf 0 = .ok (.iload_n 1, 1) := by decide +kernel
theorem dF_letterOf_1 : decode cF_letterOf 1 = .ok (.iconst 0, 1) := by decide +kernel
theorem dF_letterOf_2 : decode cF_letterOf 2 = .ok (.bipush 55, 2) := by decide +kernel
theorem dF_letterOf_4 : decode cF_letterOf 4 = .ok (.invokestatic 64, 3) := by decide +kernel
theorem dF_letterOf_7 : decode cF_letterOf 7 = .ok (.ifCond .eq 12, 3) := by decide +kernel
theorem dF_letterOf_10 : decode cF_letterOf 10 = .ok (.aload_n 0, 1) := by decide +kernel
theorem dF_letterOf_11 : decode cF_letterOf 11 = .ok (.getfield 54, 3) := by decide +kernel
theorem dF_letterOf_14 : decode cF_letterOf 14 = .ok (.iload_n 1, 1) := by decide +kernel
theorem dF_letterOf_15 : decode cF_letterOf 15 = .ok (.iaload, 1) := by decide +kernel
theorem dF_letterOf_16 : decode cF_letterOf 16 = .ok (.goto 5, 3) := by decide +kernel
theorem dF_letterOf_19 : decode cF_letterOf 19 = .ok (.bipush 63, 2) := by decide +kernel
theorem dF_letterOf_21 : decode cF_letterOf 21 = .ok (.ireturn, 1) := by decide +kernel
abbrev rmkF_letterOf : Room := { frames := 1, cells := 0, slots := 0, locals := 22 }
set_option maxHeartbeats 4000000 in
set_option maxRecDepth 100000 in
theorem kF_letterOf (l : Launch) (D : va_G) (E : ur_Ev) (h : ur_M) (q : Nat) (b1 : Nat) (b2 : Nat) (b3 : Nat) (b4 : Nat) (b5 : Nat) (b6 : Nat) (b7 : Nat) (b8 : Nat) (b9 : Nat) (b10 : Nat) (b11 : Nat) (b12 : Nat) (b13 : Nat) (b14 : Nat) (ti : Int64) (ops : Int32) (cds : Int32) (tsz : Int32) (g_alphabet : Nat → Int32) (x : Int32) (f0 : h q = some (.inr (7, [.ref b1, .ref b2, .ref b3, .long ti, .ref b4, .ref b5, .ref b6, .ref b7, .int ops, .ref b8, .int cds, .ref b9, .ref b10, .ref b11, .ref b12, .ref b13, .int tsz, .ref b14]))) (f1 : h b14 = some (.inl (E.1 0, 56, .inl g_alphabet)))  : ur_Mi l yF_letterOf wsF_letterOf rmkF_letterOf D vwCl (ur_v E) [.ref q, .int x] h (fun r h2 => r = fo_lt g_alphabet x ∧ h2 = h) 0 0 := by
  intro sz
  refine ur_of (cc := cF_letterOf) (maxL := 2) (ret := (some .int)) (by decide) rfl (Nat.le_of_ble_eq_true rfl) ?_
  intro p e s m args below meth c ls Q hsz hx hb hml hr hlocks hnm hown hts hO hK hI hQ hl
  subst hsz
  have hV := hK.1
  have hts : ∀ w ∈ ur_G, w.before args s = true := fun w hw => hts w (List.mem_cons_of_mem _ hw)
  have hZ : ur_Z E (ur_A h s.heap.size) s s.heap := hO.1
  have hown : s.vm.findClass "UnitRoomModel" = some m.cls := hown
  have hl : lv_has ls 2 [(0, .ref q), (1, .int x)] := hl
  refine lv_iload_n hx hb dF_letterOf_0 rfl (lv_at hl 1 rfl) ?_
  refine lv_iconst (v := 0) hx hb dF_letterOf_1 (by decide) ?_
  refine lv_bipush (v := 55) hx hb dF_letterOf_2 (by decide) ?_
  refine ur_xi (va_runS (As := [.int x, .int 0, .int 55]) (rest := []) ⟨hx, hb, hml, hown, hts⟩ (kF_in l D E h x 0 55 s.heap.size) (va_cwS 3 hts (ur_gT mw642 mw643 mw11 mw644) rfl rfl rfl (by decide +kernel) ⟨(Nat.le_of_ble_eq_true rfl), (Nat.le_of_ble_eq_true rfl)⟩) ⟨ur_blind, ur_pre hI hO hK (fun _ _ q => q)⟩ rfl rfl hl.1 rfl (lv_room (Nat.le_of_ble_eq_true rfl)) dF_letterOf_4 ⟨Nat.le_of_ble_eq_true rfl, Nat.le_of_ble_eq_true rfl⟩) hI (fun r1 h1 H locs p1 hI => ?_)
  obtain ⟨er1, eh1⟩ := p1
  replace eh1 := eh1.symm; subst eh1
  refine lv_if_eq (tgt := 19) hx hb dF_letterOf_7 (by decide) (fun c2 => ?_) (fun c2 => ?_)
  · have k3 : (fo_in x 0 55) = false := um_b0 er1 c2
    refine lv_bipush (v := 63) hx hb dF_letterOf_19 (by decide) ?_
    exact ur_ri hx hb hr hlocks hI hQ ⟨(by unfold fo_lt; rw [if_neg (by rw [k3]; decide)]), rfl⟩ dF_letterOf_21
  · have k4 : (fo_in x 0 55) = true := um_b1 er1 c2
    refine lv_aload_n hx hb dF_letterOf_10 rfl (lv_at hl 0 rfl) ?_
    refine va_get (D := D) (ci := 7) (v := .ref b14) (C := "UnitRoomModel") (T := TF) (N := 18) hx hb hts inF hown hV (ur_one hI.1 f0) 0 rfl rfl 17 (by decide) (hts _ mw594) (fun _ h9 => h9) rfl dF_letterOf_11 ?_
    refine lv_iload_n hx hb dF_letterOf_14 rfl (lv_at hl 1 rfl) ?_
    refine va_iald hx hb hV (ur_one hI.1 f1) 0 0 rfl rfl (fo_in_iff (n := 55) (by decide) k4).2.2 dF_letterOf_15 ?_
    refine lv_goto (tgt := 21) hx hb dF_letterOf_16 (by decide) ?_
    exact ur_ri hx hb hr hlocks hI hQ ⟨(by unfold fo_lt; rw [if_pos k4]), rfl⟩ dF_letterOf_21
theorem dF_code_0 : decode cF_code 0 = .ok (.iload_n 1, 1) := by decide +kernel
theorem dF_code_1 : decode cF_code 1 = .ok (.bipush 97, 2) := by decide +kernel
theorem dF_code_3 : decode cF_code 3 = .ok (.bipush 122, 2) := by decide +kernel
theorem dF_code_5 : decode cF_code 5 = .ok (.invokestatic 64, 3) := by decide +kernel
theorem dF_code_8 : decode cF_code 8 = .ok (.ifCond .eq 10, 3) := by decide +kernel
theorem dF_code_11 : decode cF_code 11 = .ok (.iload_n 1, 1) := by decide +kernel
theorem dF_code_12 : decode cF_code 12 = .ok (.bipush 32, 2) := by decide +kernel
theorem dF_code_14 : decode cF_code 14 = .ok (.isub, 1) := by decide +kernel
theorem dF_code_15 : decode cF_code 15 = .ok (.goto 4, 3) := by decide +kernel
theorem dF_code_18 : decode cF_code 18 = .ok (.iload_n 1, 1) := by decide +kernel
theorem dF_code_19 : decode cF_code 19 = .ok (.istore_n 2, 1) := by decide +kernel
theorem dF_code_20 : decode cF_code 20 = .ok (.iconst 0, 1) := by decide +kernel
theorem dF_code_21 : decode cF_code 21 = .ok (.istore_n 3, 1) := by decide +kernel
theorem dF_code_22 : decode cF_code 22 = .ok (.iconst 0, 1) := by decide +kernel
theorem dF_code_23 : decode cF_code 23 = .ok (.istore 4, 2) := by decide +kernel
theorem dF_code_25 : decode cF_code 25 = .ok (.iload 4, 2) := by decide +kernel
theorem dF_code_27 : decode cF_code 27 = .ok (.bipush 56, 2) := by decide +kernel
theorem dF_code_29 : decode cF_code 29 = .ok (.if_icmp .ge 27, 3) := by decide +kernel
theorem dF_code_32 : decode cF_code 32 = .ok (.aload_n 0, 1) := by decide +kernel
theorem dF_code_33 : decode cF_code 33 = .ok (.getfield 54, 3) := by decide +kernel
theorem dF_code_36 : decode cF_code 36 = .ok (.iload 4, 2) := by decide +kernel
theorem dF_code_38 : decode cF_code 38 = .ok (.iaload, 1) := by decide +kernel
theorem dF_code_39 : decode cF_code 39 = .ok (.iload_n 2, 1) := by decide +kernel
theorem dF_code_40 : decode cF_code 40 = .ok (.if_icmp .ne 8, 3) := by decide +kernel
theorem dF_code_43 : decode cF_code 43 = .ok (.iload 4, 2) := by decide +kernel
theorem dF_code_45 : decode cF_code 45 = .ok (.goto 4, 3) := by decide +kernel
theorem dF_code_48 : decode cF_code 48 = .ok (.iload_n 3, 1) := by decide +kernel
theorem dF_code_49 : decode cF_code 49 = .ok (.istore_n 3, 1) := by decide +kernel
theorem dF_code_50 : decode cF_code 50 = .ok (.iinc 4 1, 3) := by decide +kernel
theorem dF_code_53 : decode cF_code 53 = .ok (.goto (-28), 3) := by decide +kernel
theorem dF_code_56 : decode cF_code 56 = .ok (.iload_n 3, 1) := by decide +kernel
theorem dF_code_57 : decode cF_code 57 = .ok (.ireturn, 1) := by decide +kernel
abbrev rmkF_code : Room := { frames := 1, cells := 0, slots := 0, locals := 22 }
set_option maxHeartbeats 4000000 in
set_option maxRecDepth 100000 in
theorem kF_code (l : Launch) (D : va_G) (E : ur_Ev) (h : ur_M) (q : Nat) (b1 : Nat) (b2 : Nat) (b3 : Nat) (b4 : Nat) (b5 : Nat) (b6 : Nat) (b7 : Nat) (b8 : Nat) (b9 : Nat) (b10 : Nat) (b11 : Nat) (b12 : Nat) (b13 : Nat) (b14 : Nat) (ti : Int64) (ops : Int32) (cds : Int32) (tsz : Int32) (g_alphabet : Nat → Int32) (x : Int32) (f0 : h q = some (.inr (7, [.ref b1, .ref b2, .ref b3, .long ti, .ref b4, .ref b5, .ref b6, .ref b7, .int ops, .ref b8, .int cds, .ref b9, .ref b10, .ref b11, .ref b12, .ref b13, .int tsz, .ref b14]))) (f1 : h b14 = some (.inl (E.1 0, 56, .inl g_alphabet)))  : ur_Mi l yF_code wsF_code rmkF_code D vwCl (ur_v E) [.ref q, .int x] h (fun r h2 => r = fo_cd g_alphabet (fo_gr x) 56 ∧ h2 = h) 0 0 := by
  intro sz
  refine ur_of (cc := cF_code) (maxL := 5) (ret := (some .int)) (by decide) rfl (Nat.le_of_ble_eq_true rfl) ?_
  intro p e s m args below meth c ls Q hsz hx hb hml hr hlocks hnm hown hts hO hK hI hQ hl
  subst hsz
  have hV := hK.1
  have hts : ∀ w ∈ ur_G, w.before args s = true := fun w hw => hts w (List.mem_cons_of_mem _ hw)
  have hZ : ur_Z E (ur_A h s.heap.size) s s.heap := hO.1
  have hown : s.vm.findClass "UnitRoomModel" = some m.cls := hown
  have hl : lv_has ls 5 [(0, .ref q), (1, .int x)] := hl
  refine lv_iload_n hx hb dF_code_0 rfl (lv_at hl 1 rfl) ?_
  refine lv_bipush (v := 97) hx hb dF_code_1 (by decide) ?_
  refine lv_bipush (v := 122) hx hb dF_code_3 (by decide) ?_
  refine ur_xi (va_runS (As := [.int x, .int 97, .int 122]) (rest := []) ⟨hx, hb, hml, hown, hts⟩ (kF_in l D E h x 97 122 s.heap.size) (va_cwS 3 hts (ur_gT mw642 mw643 mw11 mw644) rfl rfl rfl (by decide +kernel) ⟨(Nat.le_of_ble_eq_true rfl), (Nat.le_of_ble_eq_true rfl)⟩) ⟨ur_blind, ur_pre hI hO hK (fun _ _ q => q)⟩ rfl rfl hl.1 rfl (lv_room (Nat.le_of_ble_eq_true rfl)) dF_code_5 ⟨Nat.le_of_ble_eq_true rfl, Nat.le_of_ble_eq_true rfl⟩) hI (fun r1 h1 H locs p1 hI => ?_)
  obtain ⟨er1, eh1⟩ := p1
  replace eh1 := eh1.symm; subst eh1
  refine lv_if_eq (tgt := 18) hx hb dF_code_8 (by decide) (fun c2 => ?_) (fun c2 => ?_)
  · have k3 : (fo_in x 97 122) = false := um_b0 er1 c2
    refine lv_iload_n hx hb dF_code_18 rfl (lv_at hl 1 rfl) ?_
    refine lv_topi (fun x9 ex9 => ?_)
    replace ex9 : x9 = fo_gr x := by rw [ex9]; unfold fo_gr; rw [if_neg (by rw [k3]; decide)]
    subst ex9
    refine lv_istore_n (lv' := [(2, .int (fo_gr x)), (0, .ref q), (1, .int x)]) hx hb dF_code_19 rfl hl (by decide) rfl (fun ls hl => ?_)
    refine lv_iconst (v := 0) hx hb dF_code_20 (by decide) ?_
    refine lv_istore_n (lv' := [(3, .int 0), (2, .int (fo_gr x)), (0, .ref q), (1, .int x)]) hx hb dF_code_21 rfl hl (by decide) rfl (fun ls hl => ?_)
    refine lv_iconst (v := 0) hx hb dF_code_22 (by decide) ?_
    refine lv_istore (lv' := [(4, .int 0), (3, .int 0), (2, .int (fo_gr x)), (0, .ref q), (1, .int x)]) hx hb dF_code_23 hl (by decide) rfl (fun ls hl => ?_)
    have lpn4 : ∀ (n4 : Nat) (k : Nat) (H : Heap) (locs : List Loc) (ls : Array Slot), 56 - k < n4 → (k ≤ 56) → ur_I D vwCl (ur_A h s.heap.size) s.heap h H locs → lv_has ls 5 [(0, .ref q), (2, .int (fo_gr x)), (3, .int (fo_cd g_alphabet (fo_gr x) k)), (4, .int (nI k))] → W p l e rmkF_code s m args below meth c H locs 0 0 Q (F0 m 25 ls []) := by
      intro n4
      induction n4 with
      | zero => intro k H locs ls hnn4; exact absurd hnn4 (Nat.not_lt_zero _)
      | succ n4 ihn4 =>
        intro k H locs ls hnn4 hk hI hl
        refine lv_iload hx hb dF_code_25 (lv_at hl 3 rfl) ?_
        refine lv_bipush (v := 56) hx hb dF_code_27 (by decide) ?_
        refine lv_icmp_ge (tgt := 56) hx hb dF_code_29 (by decide) (fun c5 => ?_) (fun c5 => ?_)
        · have he9 : k = 56 := Nat.le_antisymm hk (Nat.not_lt.mp (fun z9 => nI_ge (b := 56) z9 (by decide) c5))
          refine lv_iload_n hx hb dF_code_56 rfl (lv_at hl 2 rfl) ?_
          exact ur_ri hx hb hr hlocks hI hQ ⟨(by rw [he9]), rfl⟩ dF_code_57
        · have hlt : k < 56 := Nat.not_le.mp (fun z9 => c5 (nI_le z9 (by omega)))
          refine lv_aload_n hx hb dF_code_32 rfl (lv_at hl 0 rfl) ?_
          refine va_get (D := D) (ci := 7) (v := .ref b14) (C := "UnitRoomModel") (T := TF) (N := 18) hx hb hts inF hown hV (ur_one hI.1 f0) 0 rfl rfl 17 (by decide) (hts _ mw594) (fun _ h9 => h9) rfl dF_code_33 ?_
          refine lv_iload hx hb dF_code_36 (lv_at hl 3 rfl) ?_
          refine va_iald hx hb hV (ur_one hI.1 f1) 0 0 rfl rfl (vp_in_nI hlt (by decide)) dF_code_38 ?_
          refine lv_iload_n hx hb dF_code_39 rfl (lv_at hl 1 rfl) ?_
          refine lv_icmp_ne (tgt := 48) hx hb dF_code_40 (by decide) (fun c6 => ?_) (fun c6 => ?_)
          · refine lv_iload_n hx hb dF_code_48 rfl (lv_at hl 2 rfl) ?_
            refine lv_istore_n (lv' := [(3, .int (fo_cd g_alphabet (fo_gr x) k)), (0, .ref q), (2, .int (fo_gr x)), (4, .int (nI k))]) hx hb dF_code_49 rfl hl (by decide) rfl (fun ls hl => ?_)
            refine lv_iinc (v := ((nI k) + 1)) (lv' := [(4, .int ((nI k) + 1)), (3, .int (fo_cd g_alphabet (fo_gr x) k)), (0, .ref q), (2, .int (fo_gr x))]) hx hb dF_code_50 hl (k := 3) rfl rfl (by decide) rfl (fun ls hl => ?_)
            refine lv_goto (tgt := 25) hx hb dF_code_53 (by decide) ?_
            rw [nI_1] at hl
            rw [nI_clamp (by omega)] at c6
            have hx9 : fo_cd g_alphabet (fo_gr x) (k + 1) = fo_cd g_alphabet (fo_gr x) k := by rw [fo_cd, if_neg c6]
            exact ihn4 (k + 1) H locs ls (by omega) hlt hI (by rw [hx9]; exact (lv_sub hl [2, 3, 1, 0] rfl))
          · refine lv_iload hx hb dF_code_43 (lv_at hl 3 rfl) ?_
            refine lv_goto (tgt := 49) hx hb dF_code_45 (by decide) ?_
            refine lv_istore_n (lv' := [(3, .int (nI k)), (0, .ref q), (2, .int (fo_gr x)), (4, .int (nI k))]) hx hb dF_code_49 rfl hl (by decide) rfl (fun ls hl => ?_)
            refine lv_iinc (v := ((nI k) + 1)) (lv' := [(4, .int ((nI k) + 1)), (3, .int (nI k)), (0, .ref q), (2, .int (fo_gr x))]) hx hb dF_code_50 hl (k := 3) rfl rfl (by decide) rfl (fun ls hl => ?_)
            refine lv_goto (tgt := 25) hx hb dF_code_53 (by decide) ?_
            rw [nI_1] at hl
            rw [nI_clamp (by omega)] at c6
            have hx9 : fo_cd g_alphabet (fo_gr x) (k + 1) = nI k := by rw [fo_cd, if_pos c6]
            exact ihn4 (k + 1) H locs ls (by omega) hlt hI (by rw [hx9]; exact (lv_sub hl [2, 3, 1, 0] rfl))
    exact lpn4 _ 0 _ _ ls (Nat.lt_succ_self _) (by decide) hI (lv_sub hl [3, 2, 1, 0] rfl)
  · have k7 : (fo_in x 97 122) = true := um_b1 er1 c2
    refine lv_iload_n hx hb dF_code_11 rfl (lv_at hl 1 rfl) ?_
    refine lv_bipush (v := 32) hx hb dF_code_12 (by decide) ?_
    refine lv_isub hx hb dF_code_14 ?_
    refine lv_goto (tgt := 19) hx hb dF_code_15 (by decide) ?_
    refine lv_topi (fun x9 ex9 => ?_)
    replace ex9 : x9 = fo_gr x := by rw [ex9]; unfold fo_gr; rw [if_pos k7]
    subst ex9
    refine lv_istore_n (lv' := [(2, .int (fo_gr x)), (0, .ref q), (1, .int x)]) hx hb dF_code_19 rfl hl (by decide) rfl (fun ls hl => ?_)
    refine lv_iconst (v := 0) hx hb dF_code_20 (by decide) ?_
    refine lv_istore_n (lv' := [(3, .int 0), (2, .int (fo_gr x)), (0, .ref q), (1, .int x)]) hx hb dF_code_21 rfl hl (by decide) rfl (fun ls hl => ?_)
    refine lv_iconst (v := 0) hx hb dF_code_22 (by decide) ?_
    refine lv_istore (lv' := [(4, .int 0), (3, .int 0), (2, .int (fo_gr x)), (0, .ref q), (1, .int x)]) hx hb dF_code_23 hl (by decide) rfl (fun ls hl => ?_)
    have lpn8 : ∀ (n8 : Nat) (k : Nat) (H : Heap) (locs : List Loc) (ls : Array Slot), 56 - k < n8 → (k ≤ 56) → ur_I D vwCl (ur_A h s.heap.size) s.heap h H locs → lv_has ls 5 [(0, .ref q), (2, .int (fo_gr x)), (3, .int (fo_cd g_alphabet (fo_gr x) k)), (4, .int (nI k))] → W p l e rmkF_code s m args below meth c H locs 0 0 Q (F0 m 25 ls []) := by
      intro n8
      induction n8 with
      | zero => intro k H locs ls hnn8; exact absurd hnn8 (Nat.not_lt_zero _)
      | succ n8 ihn8 =>
        intro k H locs ls hnn8 hk hI hl
        refine lv_iload hx hb dF_code_25 (lv_at hl 3 rfl) ?_
        refine lv_bipush (v := 56) hx hb dF_code_27 (by decide) ?_
        refine lv_icmp_ge (tgt := 56) hx hb dF_code_29 (by decide) (fun c9 => ?_) (fun c9 => ?_)
        · have he9 : k = 56 := Nat.le_antisymm hk (Nat.not_lt.mp (fun z9 => nI_ge (b := 56) z9 (by decide) c9))
          refine lv_iload_n hx hb dF_code_56 rfl (lv_at hl 2 rfl) ?_
          exact ur_ri hx hb hr hlocks hI hQ ⟨(by rw [he9]), rfl⟩ dF_code_57
        · have hlt : k < 56 := Nat.not_le.mp (fun z9 => c9 (nI_le z9 (by omega)))
          refine lv_aload_n hx hb dF_code_32 rfl (lv_at hl 0 rfl) ?_
          refine va_get (D := D) (ci := 7) (v := .ref b14) (C := "UnitRoomModel") (T := TF) (N := 18) hx hb hts inF hown hV (ur_one hI.1 f0) 0 rfl rfl 17 (by decide) (hts _ mw594) (fun _ h9 => h9) rfl dF_code_33 ?_
          refine lv_iload hx hb dF_code_36 (lv_at hl 3 rfl) ?_
          refine va_iald hx hb hV (ur_one hI.1 f1) 0 0 rfl rfl (vp_in_nI hlt (by decide)) dF_code_38 ?_
          refine lv_iload_n hx hb dF_code_39 rfl (lv_at hl 1 rfl) ?_
          refine lv_icmp_ne (tgt := 48) hx hb dF_code_40 (by decide) (fun c10 => ?_) (fun c10 => ?_)
          · refine lv_iload_n hx hb dF_code_48 rfl (lv_at hl 2 rfl) ?_
            refine lv_istore_n (lv' := [(3, .int (fo_cd g_alphabet (fo_gr x) k)), (0, .ref q), (2, .int (fo_gr x)), (4, .int (nI k))]) hx hb dF_code_49 rfl hl (by decide) rfl (fun ls hl => ?_)
            refine lv_iinc (v := ((nI k) + 1)) (lv' := [(4, .int ((nI k) + 1)), (3, .int (fo_cd g_alphabet (fo_gr x) k)), (0, .ref q), (2, .int (fo_gr x))]) hx hb dF_code_50 hl (k := 3) rfl rfl (by decide) rfl (fun ls hl => ?_)
            refine lv_goto (tgt := 25) hx hb dF_code_53 (by decide) ?_
            rw [nI_1] at hl
            rw [nI_clamp (by omega)] at c10
            have hx9 : fo_cd g_alphabet (fo_gr x) (k + 1) = fo_cd g_alphabet (fo_gr x) k := by rw [fo_cd, if_neg c10]
            exact ihn8 (k + 1) H locs ls (by omega) hlt hI (by rw [hx9]; exact (lv_sub hl [2, 3, 1, 0] rfl))
          · refine lv_iload hx hb dF_code_43 (lv_at hl 3 rfl) ?_
            refine lv_goto (tgt := 49) hx hb dF_code_45 (by decide) ?_
            refine lv_istore_n (lv' := [(3, .int (nI k)), (0, .ref q), (2, .int (fo_gr x)), (4, .int (nI k))]) hx hb dF_code_49 rfl hl (by decide) rfl (fun ls hl => ?_)
            refine lv_iinc (v := ((nI k) + 1)) (lv' := [(4, .int ((nI k) + 1)), (3, .int (nI k)), (0, .ref q), (2, .int (fo_gr x))]) hx hb dF_code_50 hl (k := 3) rfl rfl (by decide) rfl (fun ls hl => ?_)
            refine lv_goto (tgt := 25) hx hb dF_code_53 (by decide) ?_
            rw [nI_1] at hl
            rw [nI_clamp (by omega)] at c10
            have hx9 : fo_cd g_alphabet (fo_gr x) (k + 1) = nI k := by rw [fo_cd, if_pos c10]
            exact ihn8 (k + 1) H locs ls (by omega) hlt hI (by rw [hx9]; exact (lv_sub hl [2, 3, 1, 0] rfl))
    exact lpn8 _ 0 _ _ ls (Nat.lt_succ_self _) (by decide) hI (lv_sub hl [3, 2, 1, 0] rfl)
theorem dF_isBusy_0 : decode cF_isBusy 0 = .ok (.iload_n 1, 1) := by decide +kernel
theorem dF_isBusy_1 : decode cF_isBusy 1 = .ok (.invokestatic 102, 3) := by decide +kernel
theorem dF_isBusy_4 : decode cF_isBusy 4 = .ok (.istore_n 2, 1) := by decide +kernel
theorem dF_isBusy_5 : decode cF_isBusy 5 = .ok (.iload_n 2, 1) := by decide +kernel
theorem dF_isBusy_6 : decode cF_isBusy 6 = .ok (.ifCond .lt 21, 3) := by decide +kernel
theorem dF_isBusy_9 : decode cF_isBusy 9 = .ok (.aload_n 0, 1) := by decide +kernel
theorem dF_isBusy_10 : decode cF_isBusy 10 = .ok (.getfield 20, 3) := by decide +kernel
theorem dF_isBusy_13 : decode cF_isBusy 13 = .ok (.iload_n 2, 1) := by decide +kernel
theorem dF_isBusy_14 : decode cF_isBusy 14 = .ok (.laload, 1) := by decide +kernel
theorem dF_isBusy_15 : decode cF_isBusy 15 = .ok (.aload_n 0, 1) := by decide +kernel
theorem dF_isBusy_16 : decode cF_isBusy 16 = .ok (.getfield 83, 3) := by decide +kernel
theorem dF_isBusy_19 : decode cF_isBusy 19 = .ok (.lcmp, 1) := by decide +kernel
theorem dF_isBusy_20 : decode cF_isBusy 20 = .ok (.ifCond .le 7, 3) := by decide +kernel
theorem dF_isBusy_23 : decode cF_isBusy 23 = .ok (.iconst 1, 1) := by decide +kernel
theorem dF_isBusy_24 : decode cF_isBusy 24 = .ok (.goto 4, 3) := by decide +kernel
theorem dF_isBusy_27 : decode cF_isBusy 27 = .ok (.iconst 0, 1) := by decide +kernel
theorem dF_isBusy_28 : decode cF_isBusy 28 = .ok (.ireturn, 1) := by decide +kernel
abbrev rmkF_busy : Room := { frames := 2, cells := 0, slots := 0, locals := 42 }
set_option maxHeartbeats 4000000 in
set_option maxRecDepth 100000 in
theorem kF_busy (l : Launch) (D : va_G) (E : ur_Ev) (h : ur_M) (q : Nat) (b1 : Nat) (b2 : Nat) (b3 : Nat) (b4 : Nat) (b5 : Nat) (b6 : Nat) (b7 : Nat) (b8 : Nat) (b9 : Nat) (b10 : Nat) (b11 : Nat) (b12 : Nat) (b13 : Nat) (b14 : Nat) (ti : Int64) (ops : Int32) (cds : Int32) (tsz : Int32) (g_free : Nat → Int64) (u : Int32) (f0 : h q = some (.inr (7, [.ref b1, .ref b2, .ref b3, .long ti, .ref b4, .ref b5, .ref b6, .ref b7, .int ops, .ref b8, .int cds, .ref b9, .ref b10, .ref b11, .ref b12, .ref b13, .int tsz, .ref b14]))) (f1 : h b4 = some (.inl (E.1 5, 10, .inr (.inl g_free))))  : ur_Mi l yF_isBusy wsF_isBusy rmkF_busy D vwCl (ur_v E) [.ref q, .int u] h (fun r h2 => r = um_b (fo_bz g_free ti u) ∧ h2 = h) 0 0 := by
  intro sz
  refine ur_of (cc := cF_isBusy) (maxL := 3) (ret := (some .boolean)) (by decide) rfl (Nat.le_of_ble_eq_true rfl) ?_
  intro p e s m args below meth c ls Q hsz hx hb hml hr hlocks hnm hown hts hO hK hI hQ hl
  subst hsz
  have hV := hK.1
  have hts : ∀ w ∈ ur_G, w.before args s = true := fun w hw => hts w (List.mem_cons_of_mem _ hw)
  have hZ : ur_Z E (ur_A h s.heap.size) s s.heap := hO.1
  have hown : s.vm.findClass "UnitRoomModel" = some m.cls := hown
  have hl : lv_has ls 3 [(0, .ref q), (1, .int u)] := hl
  refine lv_iload_n hx hb dF_isBusy_0 rfl (lv_at hl 1 rfl) ?_
  refine ur_xi (va_runS (As := [.int u]) (rest := []) ⟨hx, hb, hml, hown, hts⟩ (kF_placeOf l D E h u s.heap.size) (va_cwS 1 hts (ur_gT mw669 mw670 mw11 mw671) rfl rfl rfl (by decide +kernel) ⟨(Nat.le_of_ble_eq_true rfl), (Nat.le_of_ble_eq_true rfl)⟩) ⟨ur_blind, ur_pre hI hO hK (fun _ _ q => q)⟩ rfl rfl hl.1 rfl (lv_room (Nat.le_of_ble_eq_true rfl)) dF_isBusy_1 ⟨Nat.le_of_ble_eq_true rfl, Nat.le_of_ble_eq_true rfl⟩) hI (fun r1 h1 H locs p1 hI => ?_)
  obtain ⟨er1, eh1⟩ := p1
  replace eh1 := eh1.symm; subst eh1
  replace er1 := er1.symm; subst er1
  refine lv_istore_n (lv' := [(2, .int (fo_pl u)), (0, .ref q), (1, .int u)]) hx hb dF_isBusy_4 rfl hl (by decide) rfl (fun ls hl => ?_)
  refine lv_iload_n hx hb dF_isBusy_5 rfl (lv_at hl 0 rfl) ?_
  refine lv_if_lt (tgt := 27) hx hb dF_isBusy_6 (by decide) (fun c2 => ?_) (fun c2 => ?_)
  · refine lv_iconst (v := 0) hx hb dF_isBusy_27 (by decide) ?_
    exact ur_rz hx hb hr hlocks hI hQ rfl ⟨(by first | (simp only [fo_bz, c2, ↓reduceIte]; done) | (simp only [fo_bz, c2, ↓reduceIte]; rfl) | rfl), rfl⟩ dF_isBusy_28
  · refine lv_aload_n hx hb dF_isBusy_9 rfl (lv_at hl 1 rfl) ?_
    refine va_get (D := D) (ci := 7) (v := .ref b4) (C := "UnitRoomModel") (T := TF) (N := 18) hx hb hts inF hown hV (ur_one hI.1 f0) 0 rfl rfl 4 (by decide) (hts _ mw581) (fun _ h9 => h9) rfl dF_isBusy_10 ?_
    refine lv_iload_n hx hb dF_isBusy_13 rfl (lv_at hl 0 rfl) ?_
    refine va_lald hx hb hV (ur_one hI.1 f1) 0 5 rfl rfl (fo_pl_in c2) dF_isBusy_14 ?_
    refine lv_aload_n hx hb dF_isBusy_15 rfl (lv_at hl 1 rfl) ?_
    refine va_get (D := D) (ci := 7) (v := .long ti) (C := "UnitRoomModel") (T := TF) (N := 18) hx hb hts inF hown hV (ur_one hI.1 f0) 0 rfl rfl 3 (by decide) (hts _ mw580) (fun _ h9 => h9) rfl dF_isBusy_16 ?_
    refine W.lcmp hx hb dF_isBusy_19 ?_
    refine lv_if_le (tgt := 27) hx hb dF_isBusy_20 (by decide) (fun c3 => ?_) (fun c3 => ?_)
    · refine lv_iconst (v := 0) hx hb dF_isBusy_27 (by decide) ?_
      exact ur_rz hx hb hr hlocks hI hQ rfl ⟨(by first | (simp only [fo_bz, c2, c3, ↓reduceIte]; done) | (simp only [fo_bz, c2, c3, ↓reduceIte]; rfl) | rfl), rfl⟩ dF_isBusy_28
    · refine lv_iconst (v := 1) hx hb dF_isBusy_23 (by decide) ?_
      refine lv_goto (tgt := 28) hx hb dF_isBusy_24 (by decide) ?_
      exact ur_rz hx hb hr hlocks hI hQ rfl ⟨(by first | (simp only [fo_bz, c2, c3, ↓reduceIte]; done) | (simp only [fo_bz, c2, c3, ↓reduceIte]; rfl) | rfl), rfl⟩ dF_isBusy_28
