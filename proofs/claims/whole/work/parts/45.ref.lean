theorem dF_fault_0 : decode cF_fault 0 = .ok (.iload_n 2, 1) := by decide +kernel
theorem dF_fault_1 : decode cF_fault 1 = .ok (.iconst 0, 1) := by decide +kernel
theorem dF_fault_2 : decode cF_fault 2 = .ok (.iconst 2, 1) := by decide +kernel
theorem dF_fault_3 : decode cF_fault 3 = .ok (.invokestatic 64, 3) := by decide +kernel
theorem dF_fault_6 : decode cF_fault 6 = .ok (.ifCond .ne 5, 3) := by decide +kernel
theorem dF_fault_9 : decode cF_fault 9 = .ok (.iconst 1, 1) := by decide +kernel
theorem dF_fault_10 : decode cF_fault 10 = .ok (.ireturn, 1) := by decide +kernel
theorem dF_fault_11 : decode cF_fault 11 = .ok (.iload_n 1, 1) := by decide +kernel
theorem dF_fault_12 : decode cF_fault 12 = .ok (.ifCond .ge 7, 3) := by decide +kernel
theorem dF_fault_15 : decode cF_fault 15 = .ok (.iconst 1, 1) := by decide +kernel
theorem dF_fault_16 : decode cF_fault 16 = .ok (.goto 7, 3) := by decide +kernel
theorem dF_fault_19 : decode cF_fault 19 = .ok (.iload_n 1, 1) := by decide +kernel
theorem dF_fault_20 : decode cF_fault 20 = .ok (.invokestatic 74, 3) := by decide +kernel
theorem dF_fault_23 : decode cF_fault 23 = .ok (.istore 5, 2) := by decide +kernel
theorem dF_fault_25 : decode cF_fault 25 = .ok (.iload_n 2, 1) := by decide +kernel
theorem dF_fault_26 : decode cF_fault 26 = .ok (.ifCond .le 19, 3) := by decide +kernel
theorem dF_fault_29 : decode cF_fault 29 = .ok (.iload_n 3, 1) := by decide +kernel
theorem dF_fault_30 : decode cF_fault 30 = .ok (.iconst 0, 1) := by decide +kernel
theorem dF_fault_31 : decode cF_fault 31 = .ok (.sipush 4000, 3) := by decide +kernel
theorem dF_fault_34 : decode cF_fault 34 = .ok (.iload 5, 2) := by decide +kernel
theorem dF_fault_36 : decode cF_fault 36 = .ok (.isub, 1) := by decide +kernel
theorem dF_fault_37 : decode cF_fault 37 = .ok (.invokestatic 64, 3) := by decide +kernel
theorem dF_fault_40 : decode cF_fault 40 = .ok (.ifCond .ne 5, 3) := by decide +kernel
theorem dF_fault_43 : decode cF_fault 43 = .ok (.iconst 2, 1) := by decide +kernel
theorem dF_fault_44 : decode cF_fault 44 = .ok (.ireturn, 1) := by decide +kernel
theorem dF_fault_45 : decode cF_fault 45 = .ok (.iload_n 1, 1) := by decide +kernel
theorem dF_fault_46 : decode cF_fault 46 = .ok (.ifCond .lt 12, 3) := by decide +kernel
theorem dF_fault_49 : decode cF_fault 49 = .ok (.iload_n 1, 1) := by decide +kernel
theorem dF_fault_50 : decode cF_fault 50 = .ok (.iload_n 2, 1) := by decide +kernel
theorem dF_fault_51 : decode cF_fault 51 = .ok (.iload_n 3, 1) := by decide +kernel
theorem dF_fault_52 : decode cF_fault 52 = .ok (.invokestatic 77, 3) := by decide +kernel
theorem dF_fault_55 : decode cF_fault 55 = .ok (.ifCond .ne 5, 3) := by decide +kernel
theorem dF_fault_58 : decode cF_fault 58 = .ok (.iconst 5, 1) := by decide +kernel
theorem dF_fault_59 : decode cF_fault 59 = .ok (.ireturn, 1) := by decide +kernel
theorem dF_fault_60 : decode cF_fault 60 = .ok (.iload_n 1, 1) := by decide +kernel
theorem dF_fault_61 : decode cF_fault 61 = .ok (.iconst 4, 1) := by decide +kernel
theorem dF_fault_62 : decode cF_fault 62 = .ok (.if_icmp .ge 26, 3) := by decide +kernel
theorem dF_fault_65 : decode cF_fault 65 = .ok (.iload_n 2, 1) := by decide +kernel
theorem dF_fault_66 : decode cF_fault 66 = .ok (.ifCond .le 18, 3) := by decide +kernel
theorem dF_fault_69 : decode cF_fault 69 = .ok (.aload_n 0, 1) := by decide +kernel
theorem dF_fault_70 : decode cF_fault 70 = .ok (.getfield 17, 3) := by decide +kernel
theorem dF_fault_73 : decode cF_fault 73 = .ok (.iload_n 1, 1) := by decide +kernel
theorem dF_fault_74 : decode cF_fault 74 = .ok (.iaload, 1) := by decide +kernel
theorem dF_fault_75 : decode cF_fault 75 = .ok (.bipush 64, 2) := by decide +kernel
theorem dF_fault_77 : decode cF_fault 77 = .ok (.if_icmp .ne 7, 3) := by decide +kernel
theorem dF_fault_80 : decode cF_fault 80 = .ok (.iconst 1, 1) := by decide +kernel
theorem dF_fault_81 : decode cF_fault 81 = .ok (.goto 50, 3) := by decide +kernel
theorem dF_fault_84 : decode cF_fault 84 = .ok (.iconst 0, 1) := by decide +kernel
theorem dF_fault_85 : decode cF_fault 85 = .ok (.goto 46, 3) := by decide +kernel
theorem dF_fault_88 : decode cF_fault 88 = .ok (.iload_n 1, 1) := by decide +kernel
theorem dF_fault_89 : decode cF_fault 89 = .ok (.bipush 6, 2) := by decide +kernel
theorem dF_fault_91 : decode cF_fault 91 = .ok (.if_icmp .ge 22, 3) := by decide +kernel
theorem dF_fault_94 : decode cF_fault 94 = .ok (.iload 4, 2) := by decide +kernel
theorem dF_fault_96 : decode cF_fault 96 = .ok (.iconst 0, 1) := by decide +kernel
theorem dF_fault_97 : decode cF_fault 97 = .ok (.bipush 63, 2) := by decide +kernel
theorem dF_fault_99 : decode cF_fault 99 = .ok (.invokestatic 64, 3) := by decide +kernel
theorem dF_fault_102 : decode cF_fault 102 = .ok (.ifCond .ne 7, 3) := by decide +kernel
theorem dF_fault_105 : decode cF_fault 105 = .ok (.iconst 1, 1) := by decide +kernel
theorem dF_fault_106 : decode cF_fault 106 = .ok (.goto 25, 3) := by decide +kernel
theorem dF_fault_109 : decode cF_fault 109 = .ok (.iconst 0, 1) := by decide +kernel
theorem dF_fault_110 : decode cF_fault 110 = .ok (.goto 21, 3) := by decide +kernel
theorem dF_fault_113 : decode cF_fault 113 = .ok (.iload_n 1, 1) := by decide +kernel
theorem dF_fault_114 : decode cF_fault 114 = .ok (.bipush 6, 2) := by decide +kernel
theorem dF_fault_116 : decode cF_fault 116 = .ok (.if_icmp .ne 14, 3) := by decide +kernel
theorem dF_fault_119 : decode cF_fault 119 = .ok (.aload_n 0, 1) := by decide +kernel
theorem dF_fault_120 : decode cF_fault 120 = .ok (.getfield 80, 3) := by decide +kernel
theorem dF_fault_123 : decode cF_fault 123 = .ok (.ifCond .ne 7, 3) := by decide +kernel
theorem dF_fault_126 : decode cF_fault 126 = .ok (.iconst 1, 1) := by decide +kernel
theorem dF_fault_127 : decode cF_fault 127 = .ok (.goto 4, 3) := by decide +kernel
theorem dF_fault_130 : decode cF_fault 130 = .ok (.iconst 0, 1) := by decide +kernel
theorem dF_fault_131 : decode cF_fault 131 = .ok (.istore 6, 2) := by decide +kernel
theorem dF_fault_133 : decode cF_fault 133 = .ok (.iload 6, 2) := by decide +kernel
theorem dF_fault_135 : decode cF_fault 135 = .ok (.ifCond .eq 8, 3) := by decide +kernel
theorem dF_fault_138 : decode cF_fault 138 = .ok (.bipush 6, 2) := by decide +kernel
theorem dF_fault_140 : decode cF_fault 140 = .ok (.goto 4, 3) := by decide +kernel
theorem dF_fault_143 : decode cF_fault 143 = .ok (.iconst 0, 1) := by decide +kernel
theorem dF_fault_144 : decode cF_fault 144 = .ok (.ireturn, 1) := by decide +kernel
abbrev rmkF_fault : Room := { frames := 1, cells := 0, slots := 0, locals := 22 }
set_option maxHeartbeats 4000000 in
set_option maxRecDepth 100000 in
theorem kF_fault (l : Launch) (D : va_G) (E : ur_Ev) (h : ur_M) (q : Nat) (b1 : Nat) (b2 : Nat) (b3 : Nat) (b4 : Nat) (b5 : Nat) (b6 : Nat) (b7 : Nat) (b8 : Nat) (b9 : Nat) (b10 : Nat) (b11 : Nat) (b12 : Nat) (b13 : Nat) (b14 : Nat) (ti : Int64) (ops : Int32) (cds : Int32) (tsz : Int32) (g_stands : Nat → Int32) (pp : Int32) (op : Int32) (mv : Int32) (x : Int32) (f0 : h q = some (.inr (7, [.ref b1, .ref b2, .ref b3, .long ti, .ref b4, .ref b5, .ref b6, .ref b7, .int ops, .ref b8, .int cds, .ref b9, .ref b10, .ref b11, .ref b12, .ref b13, .int tsz, .ref b14]))) (f1 : h b3 = some (.inl (E.1 0, 4, .inl g_stands)))  : ur_Mi l yF_fault wsF_fault rmkF_fault D vwCl (ur_v E) [.ref q, .int pp, .int op, .int mv, .int x] h (fun r h2 => r = fo_flt g_stands cds pp op mv x ∧ h2 = h) 0 0 := by
  intro sz
  refine ur_of (cc := cF_fault) (maxL := 7) (ret := (some .int)) (by decide) rfl (Nat.le_of_ble_eq_true rfl) ?_
  intro p e s m args below meth c ls Q hsz hx hb hml hr hlocks hnm hown hts hO hK hI hQ hl
  subst hsz
  have hV := hK.1
  have hts : ∀ w ∈ ur_G, w.before args s = true := fun w hw => hts w (List.mem_cons_of_mem _ hw)
  have hZ : ur_Z E (ur_A h s.heap.size) s s.heap := hO.1
  have hown : s.vm.findClass "UnitRoomModel" = some m.cls := hown
  have hl : lv_has ls 7 [(0, .ref q), (1, .int pp), (2, .int op), (3, .int mv), (4, .int x)] := hl
  refine lv_iload_n hx hb dF_fault_0 rfl (lv_at hl 2 rfl) ?_
  refine lv_iconst (v := 0) hx hb dF_fault_1 (by decide) ?_
  refine lv_iconst (v := 2) hx hb dF_fault_2 (by decide) ?_
  refine ur_xi (va_runS (As := [.int op, .int 0, .int 2]) (rest := []) ⟨hx, hb, hml, hown, hts⟩ (kF_in l D E h op 0 2 s.heap.size) (va_cwS 3 hts (ur_gT mw642 mw643 mw11 mw644) rfl rfl rfl (by decide +kernel) ⟨(Nat.le_of_ble_eq_true rfl), (Nat.le_of_ble_eq_true rfl)⟩) ⟨ur_blind, ur_pre hI hO hK (fun _ _ q => q)⟩ rfl rfl hl.1 rfl (lv_room (Nat.le_of_ble_eq_true rfl)) dF_fault_3 ⟨Nat.le_of_ble_eq_true rfl, Nat.le_of_ble_eq_true rfl⟩) hI (fun r1 h1 H locs p1 hI => ?_)
  obtain ⟨er1, eh1⟩ := p1
  replace eh1 := eh1.symm; subst eh1
  refine lv_if_ne (tgt := 11) hx hb dF_fault_6 (by decide) (fun c2 => ?_) (fun c2 => ?_)
  · have k3 : (fo_in op 0 2) = true := um_b1 er1 c2
    refine lv_iload_n hx hb dF_fault_11 rfl (lv_at hl 1 rfl) ?_
    refine lv_if_ge (tgt := 19) hx hb dF_fault_12 (by decide) (fun c4 => ?_) (fun c4 => ?_)
    · refine lv_iload_n hx hb dF_fault_19 rfl (lv_at hl 1 rfl) ?_
      refine ur_xi (va_runS (As := [.int pp]) (rest := []) ⟨hx, hb, hml, hown, hts⟩ (kF_wordsOf l D E h pp H.size) (va_cwS 1 hts (ur_gT mw676 mw677 mw11 mw678) rfl rfl rfl (by decide +kernel) ⟨(Nat.le_of_ble_eq_true rfl), (Nat.le_of_ble_eq_true rfl)⟩) ⟨ur_blind, ur_pre hI hO hK (fun _ _ q => q)⟩ rfl rfl hl.1 rfl (lv_room (Nat.le_of_ble_eq_true rfl)) dF_fault_20 ⟨Nat.le_of_ble_eq_true rfl, Nat.le_of_ble_eq_true rfl⟩) hI (fun r5 h5 H locs p5 hI => ?_)
      obtain ⟨er5, eh5⟩ := p5
      replace eh5 := eh5.symm; subst eh5
      replace er5 := er5.symm; subst er5
      refine lv_istore (lv' := [(5, .int (fo_ws pp)), (0, .ref q), (1, .int pp), (2, .int op), (3, .int mv), (4, .int x)]) hx hb dF_fault_23 hl (by decide) rfl (fun ls hl => ?_)
      refine lv_iload_n hx hb dF_fault_25 rfl (lv_at hl 3 rfl) ?_
      refine lv_if_le (tgt := 45) hx hb dF_fault_26 (by decide) (fun c6 => ?_) (fun c6 => ?_)
      · refine lv_iload_n hx hb dF_fault_45 rfl (lv_at hl 2 rfl) ?_
        refine lv_if_lt (tgt := 58) hx hb dF_fault_46 (by decide) (fun c7 => absurd c7 (Int32.not_lt.mpr c4)) (fun c7 => ?_)
        refine lv_iload_n hx hb dF_fault_49 rfl (lv_at hl 2 rfl) ?_
        refine lv_iload_n hx hb dF_fault_50 rfl (lv_at hl 3 rfl) ?_
        refine lv_iload_n hx hb dF_fault_51 rfl (lv_at hl 4 rfl) ?_
        refine ur_xi (va_runS (As := [.int pp, .int op, .int mv]) (rest := []) ⟨hx, hb, hml, hown, hts⟩ (kF_can l D E h pp op mv H.size) (va_cwS 3 hts (ur_gT mw679 mw680 mw11 mw681) rfl rfl rfl (by decide +kernel) ⟨(Nat.le_of_ble_eq_true rfl), (Nat.le_of_ble_eq_true rfl)⟩) ⟨ur_blind, ur_pre hI hO hK (fun _ _ q => q)⟩ rfl rfl hl.1 rfl (lv_room (Nat.le_of_ble_eq_true rfl)) dF_fault_52 ⟨Nat.le_of_ble_eq_true rfl, Nat.le_of_ble_eq_true rfl⟩) hI (fun r8 h8 H locs p8 hI => ?_)
        obtain ⟨er8, eh8⟩ := p8
        replace eh8 := eh8.symm; subst eh8
        refine lv_if_ne (tgt := 60) hx hb dF_fault_55 (by decide) (fun c9 => ?_) (fun c9 => ?_)
        · have k10 : (fo_can pp op mv) = true := um_b1 er8 c9
          refine lv_iload_n hx hb dF_fault_60 rfl (lv_at hl 2 rfl) ?_
          refine lv_iconst (v := 4) hx hb dF_fault_61 (by decide) ?_
          refine lv_icmp_ge (tgt := 88) hx hb dF_fault_62 (by decide) (fun c11 => ?_) (fun c11 => ?_)
          · refine lv_iload_n hx hb dF_fault_88 rfl (lv_at hl 2 rfl) ?_
            refine lv_bipush (v := 6) hx hb dF_fault_89 (by decide) ?_
            refine lv_icmp_ge (tgt := 113) hx hb dF_fault_91 (by decide) (fun c12 => ?_) (fun c12 => ?_)
            · refine lv_iload_n hx hb dF_fault_113 rfl (lv_at hl 2 rfl) ?_
              refine lv_bipush (v := 6) hx hb dF_fault_114 (by decide) ?_
              refine lv_icmp_ne (tgt := 130) hx hb dF_fault_116 (by decide) (fun c13 => ?_) (fun c13 => ?_)
              · refine lv_iconst (v := 0) hx hb dF_fault_130 (by decide) ?_
                refine lv_istore (lv' := [(6, .int 0), (5, .int (fo_ws pp)), (0, .ref q), (1, .int pp), (2, .int op), (3, .int mv), (4, .int x)]) hx hb dF_fault_131 hl (by decide) rfl (fun ls hl => ?_)
                refine lv_iload hx hb dF_fault_133 (lv_at hl 0 rfl) ?_
                refine lv_if_eq (tgt := 143) hx hb dF_fault_135 (by decide) (fun c14 => ?_) (fun c14 => absurd c14 (by decide))
                refine lv_iconst (v := 0) hx hb dF_fault_143 (by decide) ?_
                exact ur_ri hx hb hr hlocks hI hQ ⟨(by simp only [fo_flt, fo_fr, fo_fn, k3, c4, c6, c7, k10, c11, c12, c13, eq_true c14, Bool.false_eq_true, ↓reduceIte]), rfl⟩ dF_fault_144
              · refine lv_aload_n hx hb dF_fault_119 rfl (lv_at hl 1 rfl) ?_
                refine va_get (D := D) (ci := 7) (v := .int cds) (C := "UnitRoomModel") (T := TF) (N := 18) hx hb hts inF hown hV (ur_one hI.1 f0) 0 rfl rfl 10 (by decide) (hts _ mw587) (fun _ h9 => h9) rfl dF_fault_120 ?_
                refine lv_if_ne (tgt := 130) hx hb dF_fault_123 (by decide) (fun c15 => ?_) (fun c15 => ?_)
                · refine lv_iconst (v := 0) hx hb dF_fault_130 (by decide) ?_
                  refine lv_istore (lv' := [(6, .int 0), (5, .int (fo_ws pp)), (0, .ref q), (1, .int pp), (2, .int op), (3, .int mv), (4, .int x)]) hx hb dF_fault_131 hl (by decide) rfl (fun ls hl => ?_)
                  refine lv_iload hx hb dF_fault_133 (lv_at hl 0 rfl) ?_
                  refine lv_if_eq (tgt := 143) hx hb dF_fault_135 (by decide) (fun c16 => ?_) (fun c16 => absurd c16 (by decide))
                  refine lv_iconst (v := 0) hx hb dF_fault_143 (by decide) ?_
                  exact ur_ri hx hb hr hlocks hI hQ ⟨(by simp only [fo_flt, fo_fr, fo_fn, k3, c4, c6, c7, k10, c11, c12, eq_true c13, c15, eq_true c16, Bool.false_eq_true, ↓reduceIte]), rfl⟩ dF_fault_144
                · refine lv_iconst (v := 1) hx hb dF_fault_126 (by decide) ?_
                  refine lv_goto (tgt := 131) hx hb dF_fault_127 (by decide) ?_
                  refine lv_istore (lv' := [(6, .int 1), (5, .int (fo_ws pp)), (0, .ref q), (1, .int pp), (2, .int op), (3, .int mv), (4, .int x)]) hx hb dF_fault_131 hl (by decide) rfl (fun ls hl => ?_)
                  refine lv_iload hx hb dF_fault_133 (lv_at hl 0 rfl) ?_
                  refine lv_if_eq (tgt := 143) hx hb dF_fault_135 (by decide) (fun c17 => absurd c17 (by decide)) (fun c17 => ?_)
                  refine lv_bipush (v := 6) hx hb dF_fault_138 (by decide) ?_
                  refine lv_goto (tgt := 144) hx hb dF_fault_140 (by decide) ?_
                  exact ur_ri hx hb hr hlocks hI hQ ⟨(by simp only [fo_flt, fo_fr, fo_fn, k3, c4, c6, c7, k10, c11, c12, eq_true c13, eq_true c15, c17, Bool.false_eq_true, ↓reduceIte]), rfl⟩ dF_fault_144
            · refine lv_iload hx hb dF_fault_94 (lv_at hl 5 rfl) ?_
              refine lv_iconst (v := 0) hx hb dF_fault_96 (by decide) ?_
              refine lv_bipush (v := 63) hx hb dF_fault_97 (by decide) ?_
              refine ur_xi (va_runS (As := [.int x, .int 0, .int 63]) (rest := []) ⟨hx, hb, hml, hown, hts⟩ (kF_in l D E h x 0 63 H.size) (va_cwS 3 hts (ur_gT mw642 mw643 mw11 mw644) rfl rfl rfl (by decide +kernel) ⟨(Nat.le_of_ble_eq_true rfl), (Nat.le_of_ble_eq_true rfl)⟩) ⟨ur_blind, ur_pre hI hO hK (fun _ _ q => q)⟩ rfl rfl hl.1 rfl (lv_room (Nat.le_of_ble_eq_true rfl)) dF_fault_99 ⟨Nat.le_of_ble_eq_true rfl, Nat.le_of_ble_eq_true rfl⟩) hI (fun r18 h18 H locs p18 hI => ?_)
              obtain ⟨er18, eh18⟩ := p18
              replace eh18 := eh18.symm; subst eh18
              refine lv_if_ne (tgt := 109) hx hb dF_fault_102 (by decide) (fun c19 => ?_) (fun c19 => ?_)
              · have k20 : (fo_in x 0 63) = true := um_b1 er18 c19
                refine lv_iconst (v := 0) hx hb dF_fault_109 (by decide) ?_
                refine lv_goto (tgt := 131) hx hb dF_fault_110 (by decide) ?_
                refine lv_istore (lv' := [(6, .int 0), (5, .int (fo_ws pp)), (0, .ref q), (1, .int pp), (2, .int op), (3, .int mv), (4, .int x)]) hx hb dF_fault_131 hl (by decide) rfl (fun ls hl => ?_)
                refine lv_iload hx hb dF_fault_133 (lv_at hl 0 rfl) ?_
                refine lv_if_eq (tgt := 143) hx hb dF_fault_135 (by decide) (fun c21 => ?_) (fun c21 => absurd c21 (by decide))
                refine lv_iconst (v := 0) hx hb dF_fault_143 (by decide) ?_
                exact ur_ri hx hb hr hlocks hI hQ ⟨(by simp only [fo_flt, fo_fr, fo_fn, k3, c4, c6, c7, k10, c11, c12, k20, eq_true c21, Bool.false_eq_true, ↓reduceIte]), rfl⟩ dF_fault_144
              · have k22 : (fo_in x 0 63) = false := um_b0 er18 c19
                refine lv_iconst (v := 1) hx hb dF_fault_105 (by decide) ?_
                refine lv_goto (tgt := 131) hx hb dF_fault_106 (by decide) ?_
                refine lv_istore (lv' := [(6, .int 1), (5, .int (fo_ws pp)), (0, .ref q), (1, .int pp), (2, .int op), (3, .int mv), (4, .int x)]) hx hb dF_fault_131 hl (by decide) rfl (fun ls hl => ?_)
                refine lv_iload hx hb dF_fault_133 (lv_at hl 0 rfl) ?_
                refine lv_if_eq (tgt := 143) hx hb dF_fault_135 (by decide) (fun c23 => absurd c23 (by decide)) (fun c23 => ?_)
                refine lv_bipush (v := 6) hx hb dF_fault_138 (by decide) ?_
                refine lv_goto (tgt := 144) hx hb dF_fault_140 (by decide) ?_
                exact ur_ri hx hb hr hlocks hI hQ ⟨(by simp only [fo_flt, fo_fr, fo_fn, k3, c4, c6, c7, k10, c11, c12, k22, c23, Bool.false_eq_true, ↓reduceIte]), rfl⟩ dF_fault_144
          · refine lv_iload_n hx hb dF_fault_65 rfl (lv_at hl 3 rfl) ?_
            refine lv_if_le (tgt := 84) hx hb dF_fault_66 (by decide) (fun c24 => ?_) (fun c24 => absurd c24 (not_not_intro c6))
            refine lv_iconst (v := 0) hx hb dF_fault_84 (by decide) ?_
            refine lv_goto (tgt := 131) hx hb dF_fault_85 (by decide) ?_
            refine lv_istore (lv' := [(6, .int 0), (5, .int (fo_ws pp)), (0, .ref q), (1, .int pp), (2, .int op), (3, .int mv), (4, .int x)]) hx hb dF_fault_131 hl (by decide) rfl (fun ls hl => ?_)
            refine lv_iload hx hb dF_fault_133 (lv_at hl 0 rfl) ?_
            refine lv_if_eq (tgt := 143) hx hb dF_fault_135 (by decide) (fun c25 => ?_) (fun c25 => absurd c25 (by decide))
            refine lv_iconst (v := 0) hx hb dF_fault_143 (by decide) ?_
            exact ur_ri hx hb hr hlocks hI hQ ⟨(by simp only [fo_flt, fo_fr, fo_fn, k3, c4, c6, c7, k10, c11, c24, eq_true c25, Bool.false_eq_true, ↓reduceIte]), rfl⟩ dF_fault_144
        · have k26 : (fo_can pp op mv) = false := um_b0 er8 c9
          refine lv_iconst (v := 5) hx hb dF_fault_58 (by decide) ?_
          exact ur_ri hx hb hr hlocks hI hQ ⟨(by simp only [fo_flt, fo_fr, fo_fn, k3, c4, c6, c7, k26, Bool.false_eq_true, ↓reduceIte]), rfl⟩ dF_fault_59
      · refine lv_iload_n hx hb dF_fault_29 rfl (lv_at hl 4 rfl) ?_
        refine lv_iconst (v := 0) hx hb dF_fault_30 (by decide) ?_
        refine lv_sipush (v := 4000) hx hb dF_fault_31 (by decide) ?_
        refine lv_iload hx hb dF_fault_34 (lv_at hl 0 rfl) ?_
        refine lv_isub hx hb dF_fault_36 ?_
        refine ur_xi (va_runS (As := [.int mv, .int 0, .int (4000 - (fo_ws pp))]) (rest := []) ⟨hx, hb, hml, hown, hts⟩ (kF_in l D E h mv 0 (4000 - (fo_ws pp)) H.size) (va_cwS 3 hts (ur_gT mw642 mw643 mw11 mw644) rfl rfl rfl (by decide +kernel) ⟨(Nat.le_of_ble_eq_true rfl), (Nat.le_of_ble_eq_true rfl)⟩) ⟨ur_blind, ur_pre hI hO hK (fun _ _ q => q)⟩ rfl rfl hl.1 rfl (lv_room (Nat.le_of_ble_eq_true rfl)) dF_fault_37 ⟨Nat.le_of_ble_eq_true rfl, Nat.le_of_ble_eq_true rfl⟩) hI (fun r27 h27 H locs p27 hI => ?_)
        obtain ⟨er27, eh27⟩ := p27
        replace eh27 := eh27.symm; subst eh27
        refine lv_if_ne (tgt := 45) hx hb dF_fault_40 (by decide) (fun c28 => ?_) (fun c28 => ?_)
        · have k29 : (fo_in mv 0 (4000 - (fo_ws pp))) = true := um_b1 er27 c28
          refine lv_iload_n hx hb dF_fault_45 rfl (lv_at hl 2 rfl) ?_
          refine lv_if_lt (tgt := 58) hx hb dF_fault_46 (by decide) (fun c30 => absurd c30 (Int32.not_lt.mpr c4)) (fun c30 => ?_)
          refine lv_iload_n hx hb dF_fault_49 rfl (lv_at hl 2 rfl) ?_
          refine lv_iload_n hx hb dF_fault_50 rfl (lv_at hl 3 rfl) ?_
          refine lv_iload_n hx hb dF_fault_51 rfl (lv_at hl 4 rfl) ?_
          refine ur_xi (va_runS (As := [.int pp, .int op, .int mv]) (rest := []) ⟨hx, hb, hml, hown, hts⟩ (kF_can l D E h pp op mv H.size) (va_cwS 3 hts (ur_gT mw679 mw680 mw11 mw681) rfl rfl rfl (by decide +kernel) ⟨(Nat.le_of_ble_eq_true rfl), (Nat.le_of_ble_eq_true rfl)⟩) ⟨ur_blind, ur_pre hI hO hK (fun _ _ q => q)⟩ rfl rfl hl.1 rfl (lv_room (Nat.le_of_ble_eq_true rfl)) dF_fault_52 ⟨Nat.le_of_ble_eq_true rfl, Nat.le_of_ble_eq_true rfl⟩) hI (fun r31 h31 H locs p31 hI => ?_)
          obtain ⟨er31, eh31⟩ := p31
          replace eh31 := eh31.symm; subst eh31
          refine lv_if_ne (tgt := 60) hx hb dF_fault_55 (by decide) (fun c32 => ?_) (fun c32 => ?_)
          · have k33 : (fo_can pp op mv) = true := um_b1 er31 c32
            refine lv_iload_n hx hb dF_fault_60 rfl (lv_at hl 2 rfl) ?_
            refine lv_iconst (v := 4) hx hb dF_fault_61 (by decide) ?_
            refine lv_icmp_ge (tgt := 88) hx hb dF_fault_62 (by decide) (fun c34 => ?_) (fun c34 => ?_)
            · refine lv_iload_n hx hb dF_fault_88 rfl (lv_at hl 2 rfl) ?_
              refine lv_bipush (v := 6) hx hb dF_fault_89 (by decide) ?_
              refine lv_icmp_ge (tgt := 113) hx hb dF_fault_91 (by decide) (fun c35 => ?_) (fun c35 => ?_)
              · refine lv_iload_n hx hb dF_fault_113 rfl (lv_at hl 2 rfl) ?_
                refine lv_bipush (v := 6) hx hb dF_fault_114 (by decide) ?_
                refine lv_icmp_ne (tgt := 130) hx hb dF_fault_116 (by decide) (fun c36 => ?_) (fun c36 => ?_)
                · refine lv_iconst (v := 0) hx hb dF_fault_130 (by decide) ?_
                  refine lv_istore (lv' := [(6, .int 0), (5, .int (fo_ws pp)), (0, .ref q), (1, .int pp), (2, .int op), (3, .int mv), (4, .int x)]) hx hb dF_fault_131 hl (by decide) rfl (fun ls hl => ?_)
                  refine lv_iload hx hb dF_fault_133 (lv_at hl 0 rfl) ?_
                  refine lv_if_eq (tgt := 143) hx hb dF_fault_135 (by decide) (fun c37 => ?_) (fun c37 => absurd c37 (by decide))
                  refine lv_iconst (v := 0) hx hb dF_fault_143 (by decide) ?_
                  exact ur_ri hx hb hr hlocks hI hQ ⟨(by simp only [fo_flt, fo_fr, fo_fn, k3, c4, c6, k29, c30, k33, c34, c35, c36, eq_true c37, Bool.false_eq_true, ↓reduceIte]), rfl⟩ dF_fault_144
                · refine lv_aload_n hx hb dF_fault_119 rfl (lv_at hl 1 rfl) ?_
                  refine va_get (D := D) (ci := 7) (v := .int cds) (C := "UnitRoomModel") (T := TF) (N := 18) hx hb hts inF hown hV (ur_one hI.1 f0) 0 rfl rfl 10 (by decide) (hts _ mw587) (fun _ h9 => h9) rfl dF_fault_120 ?_
                  refine lv_if_ne (tgt := 130) hx hb dF_fault_123 (by decide) (fun c38 => ?_) (fun c38 => ?_)
                  · refine lv_iconst (v := 0) hx hb dF_fault_130 (by decide) ?_
                    refine lv_istore (lv' := [(6, .int 0), (5, .int (fo_ws pp)), (0, .ref q), (1, .int pp), (2, .int op), (3, .int mv), (4, .int x)]) hx hb dF_fault_131 hl (by decide) rfl (fun ls hl => ?_)
                    refine lv_iload hx hb dF_fault_133 (lv_at hl 0 rfl) ?_
                    refine lv_if_eq (tgt := 143) hx hb dF_fault_135 (by decide) (fun c39 => ?_) (fun c39 => absurd c39 (by decide))
                    refine lv_iconst (v := 0) hx hb dF_fault_143 (by decide) ?_
                    exact ur_ri hx hb hr hlocks hI hQ ⟨(by simp only [fo_flt, fo_fr, fo_fn, k3, c4, c6, k29, c30, k33, c34, c35, eq_true c36, c38, eq_true c39, Bool.false_eq_true, ↓reduceIte]), rfl⟩ dF_fault_144
                  · refine lv_iconst (v := 1) hx hb dF_fault_126 (by decide) ?_
                    refine lv_goto (tgt := 131) hx hb dF_fault_127 (by decide) ?_
                    refine lv_istore (lv' := [(6, .int 1), (5, .int (fo_ws pp)), (0, .ref q), (1, .int pp), (2, .int op), (3, .int mv), (4, .int x)]) hx hb dF_fault_131 hl (by decide) rfl (fun ls hl => ?_)
                    refine lv_iload hx hb dF_fault_133 (lv_at hl 0 rfl) ?_
                    refine lv_if_eq (tgt := 143) hx hb dF_fault_135 (by decide) (fun c40 => absurd c40 (by decide)) (fun c40 => ?_)
                    refine lv_bipush (v := 6) hx hb dF_fault_138 (by decide) ?_
                    refine lv_goto (tgt := 144) hx hb dF_fault_140 (by decide) ?_
                    exact ur_ri hx hb hr hlocks hI hQ ⟨(by simp only [fo_flt, fo_fr, fo_fn, k3, c4, c6, k29, c30, k33, c34, c35, eq_true c36, eq_true c38, c40, Bool.false_eq_true, ↓reduceIte]), rfl⟩ dF_fault_144
              · refine lv_iload hx hb dF_fault_94 (lv_at hl 5 rfl) ?_
                refine lv_iconst (v := 0) hx hb dF_fault_96 (by decide) ?_
                refine lv_bipush (v := 63) hx hb dF_fault_97 (by decide) ?_
                refine ur_xi (va_runS (As := [.int x, .int 0, .int 63]) (rest := []) ⟨hx, hb, hml, hown, hts⟩ (kF_in l D E h x 0 63 H.size) (va_cwS 3 hts (ur_gT mw642 mw643 mw11 mw644) rfl rfl rfl (by decide +kernel) ⟨(Nat.le_of_ble_eq_true rfl), (Nat.le_of_ble_eq_true rfl)⟩) ⟨ur_blind, ur_pre hI hO hK (fun _ _ q => q)⟩ rfl rfl hl.1 rfl (lv_room (Nat.le_of_ble_eq_true rfl)) dF_fault_99 ⟨Nat.le_of_ble_eq_true rfl, Nat.le_of_ble_eq_true rfl⟩) hI (fun r41 h41 H locs p41 hI => ?_)
                obtain ⟨er41, eh41⟩ := p41
                replace eh41 := eh41.symm; subst eh41
                refine lv_if_ne (tgt := 109) hx hb dF_fault_102 (by decide) (fun c42 => ?_) (fun c42 => ?_)
                · have k43 : (fo_in x 0 63) = true := um_b1 er41 c42
                  refine lv_iconst (v := 0) hx hb dF_fault_109 (by decide) ?_
                  refine lv_goto (tgt := 131) hx hb dF_fault_110 (by decide) ?_
                  refine lv_istore (lv' := [(6, .int 0), (5, .int (fo_ws pp)), (0, .ref q), (1, .int pp), (2, .int op), (3, .int mv), (4, .int x)]) hx hb dF_fault_131 hl (by decide) rfl (fun ls hl => ?_)
                  refine lv_iload hx hb dF_fault_133 (lv_at hl 0 rfl) ?_
                  refine lv_if_eq (tgt := 143) hx hb dF_fault_135 (by decide) (fun c44 => ?_) (fun c44 => absurd c44 (by decide))
                  refine lv_iconst (v := 0) hx hb dF_fault_143 (by decide) ?_
                  exact ur_ri hx hb hr hlocks hI hQ ⟨(by simp only [fo_flt, fo_fr, fo_fn, k3, c4, c6, k29, c30, k33, c34, c35, k43, eq_true c44, Bool.false_eq_true, ↓reduceIte]), rfl⟩ dF_fault_144
                · have k45 : (fo_in x 0 63) = false := um_b0 er41 c42
                  refine lv_iconst (v := 1) hx hb dF_fault_105 (by decide) ?_
                  refine lv_goto (tgt := 131) hx hb dF_fault_106 (by decide) ?_
                  refine lv_istore (lv' := [(6, .int 1), (5, .int (fo_ws pp)), (0, .ref q), (1, .int pp), (2, .int op), (3, .int mv), (4, .int x)]) hx hb dF_fault_131 hl (by decide) rfl (fun ls hl => ?_)
                  refine lv_iload hx hb dF_fault_133 (lv_at hl 0 rfl) ?_
                  refine lv_if_eq (tgt := 143) hx hb dF_fault_135 (by decide) (fun c46 => absurd c46 (by decide)) (fun c46 => ?_)
                  refine lv_bipush (v := 6) hx hb dF_fault_138 (by decide) ?_
                  refine lv_goto (tgt := 144) hx hb dF_fault_140 (by decide) ?_
                  exact ur_ri hx hb hr hlocks hI hQ ⟨(by simp only [fo_flt, fo_fr, fo_fn, k3, c4, c6, k29, c30, k33, c34, c35, k45, c46, Bool.false_eq_true, ↓reduceIte]), rfl⟩ dF_fault_144
            · refine lv_iload_n hx hb dF_fault_65 rfl (lv_at hl 3 rfl) ?_
              refine lv_if_le (tgt := 84) hx hb dF_fault_66 (by decide) (fun c47 => absurd c47 c6) (fun c47 => ?_)
              refine lv_aload_n hx hb dF_fault_69 rfl (lv_at hl 1 rfl) ?_
              refine va_get (D := D) (ci := 7) (v := .ref b3) (C := "UnitRoomModel") (T := TF) (N := 18) hx hb hts inF hown hV (ur_one hI.1 f0) 0 rfl rfl 2 (by decide) (hts _ mw579) (fun _ h9 => h9) rfl dF_fault_70 ?_
              refine lv_iload_n hx hb dF_fault_73 rfl (lv_at hl 2 rfl) ?_
              refine va_iald hx hb hV (ur_one hI.1 f1) 0 0 rfl rfl (um_in' (n := 4) (Int32.not_lt.mpr c4) c34 (by decide)) dF_fault_74 ?_
              refine lv_bipush (v := 64) hx hb dF_fault_75 (by decide) ?_
              refine lv_icmp_ne (tgt := 84) hx hb dF_fault_77 (by decide) (fun c48 => ?_) (fun c48 => ?_)
              · refine lv_iconst (v := 0) hx hb dF_fault_84 (by decide) ?_
                refine lv_goto (tgt := 131) hx hb dF_fault_85 (by decide) ?_
                refine lv_istore (lv' := [(6, .int 0), (5, .int (fo_ws pp)), (0, .ref q), (1, .int pp), (2, .int op), (3, .int mv), (4, .int x)]) hx hb dF_fault_131 hl (by decide) rfl (fun ls hl => ?_)
                refine lv_iload hx hb dF_fault_133 (lv_at hl 0 rfl) ?_
                refine lv_if_eq (tgt := 143) hx hb dF_fault_135 (by decide) (fun c49 => ?_) (fun c49 => absurd c49 (by decide))
                refine lv_iconst (v := 0) hx hb dF_fault_143 (by decide) ?_
                exact ur_ri hx hb hr hlocks hI hQ ⟨(by simp only [fo_flt, fo_fr, fo_fn, k3, c4, c6, k29, c30, k33, c34, c47, c48, eq_true c49, Bool.false_eq_true, ↓reduceIte]), rfl⟩ dF_fault_144
              · refine lv_iconst (v := 1) hx hb dF_fault_80 (by decide) ?_
                refine lv_goto (tgt := 131) hx hb dF_fault_81 (by decide) ?_
                refine lv_istore (lv' := [(6, .int 1), (5, .int (fo_ws pp)), (0, .ref q), (1, .int pp), (2, .int op), (3, .int mv), (4, .int x)]) hx hb dF_fault_131 hl (by decide) rfl (fun ls hl => ?_)
                refine lv_iload hx hb dF_fault_133 (lv_at hl 0 rfl) ?_
                refine lv_if_eq (tgt := 143) hx hb dF_fault_135 (by decide) (fun c50 => absurd c50 (by decide)) (fun c50 => ?_)
                refine lv_bipush (v := 6) hx hb dF_fault_138 (by decide) ?_
                refine lv_goto (tgt := 144) hx hb dF_fault_140 (by decide) ?_
                exact ur_ri hx hb hr hlocks hI hQ ⟨(by simp only [fo_flt, fo_fr, fo_fn, k3, c4, c6, k29, c30, k33, c34, c47, eq_true c48, c50, Bool.false_eq_true, ↓reduceIte]), rfl⟩ dF_fault_144
          · have k51 : (fo_can pp op mv) = false := um_b0 er31 c32
            refine lv_iconst (v := 5) hx hb dF_fault_58 (by decide) ?_
            exact ur_ri hx hb hr hlocks hI hQ ⟨(by simp only [fo_flt, fo_fr, fo_fn, k3, c4, c6, k29, c30, k51, Bool.false_eq_true, ↓reduceIte]), rfl⟩ dF_fault_59
        · have k52 : (fo_in mv 0 (4000 - (fo_ws pp))) = false := um_b0 er27 c28
          refine lv_iconst (v := 2) hx hb dF_fault_43 (by decide) ?_
          exact ur_ri hx hb hr hlocks hI hQ ⟨(by simp only [fo_flt, fo_fr, fo_fn, k3, c4, c6, k52, Bool.false_eq_true, ↓reduceIte]), rfl⟩ dF_fault_44
    · refine lv_iconst (v := 1) hx hb dF_fault_15 (by decide) ?_
      refine lv_goto (tgt := 23) hx hb dF_fault_16 (by decide) ?_
      refine lv_istore (lv' := [(5, .int 1), (0, .ref q), (1, .int pp), (2, .int op), (3, .int mv), (4, .int x)]) hx hb dF_fault_23 hl (by decide) rfl (fun ls hl => ?_)
      refine lv_iload_n hx hb dF_fault_25 rfl (lv_at hl 3 rfl) ?_
      refine lv_if_le (tgt := 45) hx hb dF_fault_26 (by decide) (fun c53 => ?_) (fun c53 => ?_)
      · refine lv_iload_n hx hb dF_fault_45 rfl (lv_at hl 2 rfl) ?_
        refine lv_if_lt (tgt := 58) hx hb dF_fault_46 (by decide) (fun c54 => ?_) (fun c54 => absurd c54 (not_not_intro (Int32.not_le.mp c4)))
        refine lv_iconst (v := 5) hx hb dF_fault_58 (by decide) ?_
        exact ur_ri hx hb hr hlocks hI hQ ⟨(by simp only [fo_flt, fo_fr, fo_fn, k3, c4, c53, c54, Bool.false_eq_true, ↓reduceIte]), rfl⟩ dF_fault_59
      · refine lv_iload_n hx hb dF_fault_29 rfl (lv_at hl 4 rfl) ?_
        refine lv_iconst (v := 0) hx hb dF_fault_30 (by decide) ?_
        refine lv_sipush (v := 4000) hx hb dF_fault_31 (by decide) ?_
        refine lv_iload hx hb dF_fault_34 (lv_at hl 0 rfl) ?_
        refine lv_isub hx hb dF_fault_36 ?_
        refine ur_xi (va_runS (As := [.int mv, .int 0, .int (4000 - 1)]) (rest := []) ⟨hx, hb, hml, hown, hts⟩ (kF_in l D E h mv 0 (4000 - 1) H.size) (va_cwS 3 hts (ur_gT mw642 mw643 mw11 mw644) rfl rfl rfl (by decide +kernel) ⟨(Nat.le_of_ble_eq_true rfl), (Nat.le_of_ble_eq_true rfl)⟩) ⟨ur_blind, ur_pre hI hO hK (fun _ _ q => q)⟩ rfl rfl hl.1 rfl (lv_room (Nat.le_of_ble_eq_true rfl)) dF_fault_37 ⟨Nat.le_of_ble_eq_true rfl, Nat.le_of_ble_eq_true rfl⟩) hI (fun r55 h55 H locs p55 hI => ?_)
        obtain ⟨er55, eh55⟩ := p55
        replace eh55 := eh55.symm; subst eh55
        refine lv_if_ne (tgt := 45) hx hb dF_fault_40 (by decide) (fun c56 => ?_) (fun c56 => ?_)
        · have k57 : (fo_in mv 0 (4000 - 1)) = true := um_b1 er55 c56
          refine lv_iload_n hx hb dF_fault_45 rfl (lv_at hl 2 rfl) ?_
          refine lv_if_lt (tgt := 58) hx hb dF_fault_46 (by decide) (fun c58 => ?_) (fun c58 => absurd c58 (not_not_intro (Int32.not_le.mp c4)))
          refine lv_iconst (v := 5) hx hb dF_fault_58 (by decide) ?_
          exact ur_ri hx hb hr hlocks hI hQ ⟨(by simp only [fo_flt, fo_fr, fo_fn, k3, c4, c53, k57, c58, Bool.false_eq_true, ↓reduceIte]), rfl⟩ dF_fault_59
        · have k59 : (fo_in mv 0 (4000 - 1)) = false := um_b0 er55 c56
          refine lv_iconst (v := 2) hx hb dF_fault_43 (by decide) ?_
          exact ur_ri hx hb hr hlocks hI hQ ⟨(by simp only [fo_flt, fo_fr, fo_fn, k3, c4, c53, k59, Bool.false_eq_true, ↓reduceIte]), rfl⟩ dF_fault_44
  · have k60 : (fo_in op 0 2) = false := um_b0 er1 c2
    refine lv_iconst (v := 1) hx hb dF_fault_9 (by decide) ?_
    exact ur_ri hx hb hr hlocks hI hQ ⟨(by simp only [fo_flt, fo_fr, fo_fn, k60, Bool.false_eq_true, ↓reduceIte]), rfl⟩ dF_fault_10
theorem dF_unit_0 : decode cF_unit 0 = .ok (.iload_n 1, 1) := by decide +kernel
theorem dF_unit_1 : decode cF_unit 1 = .ok (.invokestatic 102, 3) := by decide +kernel
theorem dF_unit_4 : decode cF_unit 4 = .ok (.istore_n 2, 1) := by decide +kernel
theorem dF_unit_5 : decode cF_unit 5 = .ok (.iload_n 2, 1) := by decide +kernel
theorem dF_unit_6 : decode cF_unit 6 = .ok (.ifCond .lt 13, 3) := by decide +kernel
theorem dF_unit_9 : decode cF_unit 9 = .ok (.iload_n 2, 1) := by decide +kernel
theorem dF_unit_10 : decode cF_unit 10 = .ok (.iconst 4, 1) := by decide +kernel
theorem dF_unit_11 : decode cF_unit 11 = .ok (.if_icmp .eq 8, 3) := by decide +kernel
theorem dF_unit_14 : decode cF_unit 14 = .ok (.iload_n 2, 1) := by decide +kernel
theorem dF_unit_15 : decode cF_unit 15 = .ok (.iconst 5, 1) := by decide +kernel
theorem dF_unit_16 : decode cF_unit 16 = .ok (.if_icmp .ne 5, 3) := by decide +kernel
theorem dF_unit_19 : decode cF_unit 19 = .ok (.iconst (-1), 1) := by decide +kernel
theorem dF_unit_20 : decode cF_unit 20 = .ok (.ireturn, 1) := by decide +kernel
theorem dF_unit_21 : decode cF_unit 21 = .ok (.iload_n 2, 1) := by decide +kernel
theorem dF_unit_22 : decode cF_unit 22 = .ok (.iconst 4, 1) := by decide +kernel
theorem dF_unit_23 : decode cF_unit 23 = .ok (.if_icmp .ge 12, 3) := by decide +kernel
theorem dF_unit_26 : decode cF_unit 26 = .ok (.aload_n 0, 1) := by decide +kernel
theorem dF_unit_27 : decode cF_unit 27 = .ok (.getfield 17, 3) := by decide +kernel
theorem dF_unit_30 : decode cF_unit 30 = .ok (.iload_n 2, 1) := by decide +kernel
theorem dF_unit_31 : decode cF_unit 31 = .ok (.iaload, 1) := by decide +kernel
theorem dF_unit_32 : decode cF_unit 32 = .ok (.goto 25, 3) := by decide +kernel
theorem dF_unit_35 : decode cF_unit 35 = .ok (.iload_n 2, 1) := by decide +kernel
theorem dF_unit_36 : decode cF_unit 36 = .ok (.bipush 6, 2) := by decide +kernel
theorem dF_unit_38 : decode cF_unit 38 = .ok (.if_icmp .ne 10, 3) := by decide +kernel
theorem dF_unit_41 : decode cF_unit 41 = .ok (.aload_n 0, 1) := by decide +kernel
theorem dF_unit_42 : decode cF_unit 42 = .ok (.getfield 80, 3) := by decide +kernel
theorem dF_unit_45 : decode cF_unit 45 = .ok (.goto 12, 3) := by decide +kernel
theorem dF_unit_48 : decode cF_unit 48 = .ok (.aload_n 0, 1) := by decide +kernel
theorem dF_unit_49 : decode cF_unit 49 = .ok (.getfield 40, 3) := by decide +kernel
theorem dF_unit_52 : decode cF_unit 52 = .ok (.iload_n 2, 1) := by decide +kernel
theorem dF_unit_53 : decode cF_unit 53 = .ok (.bipush 7, 2) := by decide +kernel
theorem dF_unit_55 : decode cF_unit 55 = .ok (.isub, 1) := by decide +kernel
theorem dF_unit_56 : decode cF_unit 56 = .ok (.iaload, 1) := by decide +kernel
theorem dF_unit_57 : decode cF_unit 57 = .ok (.ireturn, 1) := by decide +kernel
abbrev rmkF_unit : Room := { frames := 2, cells := 0, slots := 0, locals := 42 }
set_option maxHeartbeats 4000000 in
set_option maxRecDepth 100000 in
theorem kF_unit (l : Launch) (D : va_G) (E : ur_Ev) (h : ur_M) (q : Nat) (b1 : Nat) (b2 : Nat) (b3 : Nat) (b4 : Nat) (b5 : Nat) (b6 : Nat) (b7 : Nat) (b8 : Nat) (b9 : Nat) (b10 : Nat) (b11 : Nat) (b12 : Nat) (b13 : Nat) (b14 : Nat) (ti : Int64) (ops : Int32) (cds : Int32) (tsz : Int32) (g_stands : Nat → Int32) (g_lines : Nat → Int32) (u : Int32) (f0 : h q = some (.inr (7, [.ref b1, .ref b2, .ref b3, .long ti, .ref b4, .ref b5, .ref b6, .ref b7, .int ops, .ref b8, .int cds, .ref b9, .ref b10, .ref b11, .ref b12, .ref b13, .int tsz, .ref b14]))) (f1 : h b3 = some (.inl (E.1 0, 4, .inl g_stands))) (f2 : h b10 = some (.inl (E.1 0, 3, .inl g_lines)))  : ur_Mi l yF_unit wsF_unit rmkF_unit D vwCl (ur_v E) [.ref q, .int u] h (fun r h2 => r = fo_un g_stands g_lines cds (fo_pl u) ∧ h2 = h) 0 0 := by
  intro sz
  refine ur_of (cc := cF_unit) (maxL := 3) (ret := (some .int)) (by decide) rfl (Nat.le_of_ble_eq_true rfl) ?_
  intro p e s m args below meth c ls Q hsz hx hb hml hr hlocks hnm hown hts hO hK hI hQ hl
  subst hsz
  have hV := hK.1
  have hts : ∀ w ∈ ur_G, w.before args s = true := fun w hw => hts w (List.mem_cons_of_mem _ hw)
  have hZ : ur_Z E (ur_A h s.heap.size) s s.heap := hO.1
  have hown : s.vm.findClass "UnitRoomModel" = some m.cls := hown
  have hl : lv_has ls 3 [(0, .ref q), (1, .int u)] := hl
  refine lv_iload_n hx hb dF_unit_0 rfl (lv_at hl 1 rfl) ?_
  refine ur_xi (va_runS (As := [.int u]) (rest := []) ⟨hx, hb, hml, hown, hts⟩ (kF_placeOf l D E h u s.heap.size) (va_cwS 1 hts (ur_gT mw669 mw670 mw11 mw671) rfl rfl rfl (by decide +kernel) ⟨(Nat.le_of_ble_eq_true rfl), (Nat.le_of_ble_eq_true rfl)⟩) ⟨ur_blind, ur_pre hI hO hK (fun _ _ q => q)⟩ rfl rfl hl.1 rfl (lv_room (Nat.le_of_ble_eq_true rfl)) dF_unit_1 ⟨Nat.le_of_ble_eq_true rfl, Nat.le_of_ble_eq_true rfl⟩) hI (fun r1 h1 H locs p1 hI => ?_)
  obtain ⟨er1, eh1⟩ := p1
  replace eh1 := eh1.symm; subst eh1
  replace er1 := er1.symm; subst er1
  refine lv_istore_n (lv' := [(2, .int (fo_pl u)), (0, .ref q), (1, .int u)]) hx hb dF_unit_4 rfl hl (by decide) rfl (fun ls hl => ?_)
  refine lv_iload_n hx hb dF_unit_5 rfl (lv_at hl 0 rfl) ?_
  refine lv_if_lt (tgt := 19) hx hb dF_unit_6 (by decide) (fun c2 => ?_) (fun c2 => ?_)
  · refine lv_iconst (v := (-1)) hx hb dF_unit_19 (by decide) ?_
    exact ur_ri hx hb hr hlocks hI hQ ⟨(by simp only [fo_un, c2, Bool.false_eq_true, ↓reduceIte]), rfl⟩ dF_unit_20
  · refine lv_iload_n hx hb dF_unit_9 rfl (lv_at hl 0 rfl) ?_
    refine lv_iconst (v := 4) hx hb dF_unit_10 (by decide) ?_
    refine lv_icmp_eq (tgt := 19) hx hb dF_unit_11 (by decide) (fun c3 => ?_) (fun c3 => ?_)
    · refine lv_iconst (v := (-1)) hx hb dF_unit_19 (by decide) ?_
      exact ur_ri hx hb hr hlocks hI hQ ⟨(by simp only [fo_un, c2, eq_true c3, Bool.false_eq_true, ↓reduceIte]), rfl⟩ dF_unit_20
    · refine lv_iload_n hx hb dF_unit_14 rfl (lv_at hl 0 rfl) ?_
      refine lv_iconst (v := 5) hx hb dF_unit_15 (by decide) ?_
      refine lv_icmp_ne (tgt := 21) hx hb dF_unit_16 (by decide) (fun c4 => ?_) (fun c4 => ?_)
      · refine lv_iload_n hx hb dF_unit_21 rfl (lv_at hl 0 rfl) ?_
        refine lv_iconst (v := 4) hx hb dF_unit_22 (by decide) ?_
        refine lv_icmp_ge (tgt := 35) hx hb dF_unit_23 (by decide) (fun c5 => ?_) (fun c5 => ?_)
        · refine lv_iload_n hx hb dF_unit_35 rfl (lv_at hl 0 rfl) ?_
          refine lv_bipush (v := 6) hx hb dF_unit_36 (by decide) ?_
          refine lv_icmp_ne (tgt := 48) hx hb dF_unit_38 (by decide) (fun c6 => ?_) (fun c6 => ?_)
          · refine lv_aload_n hx hb dF_unit_48 rfl (lv_at hl 1 rfl) ?_
            refine va_get (D := D) (ci := 7) (v := .ref b10) (C := "UnitRoomModel") (T := TF) (N := 18) hx hb hts inF hown hV (ur_one hI.1 f0) 0 rfl rfl 12 (by decide) (hts _ mw589) (fun _ h9 => h9) rfl dF_unit_49 ?_
            refine lv_iload_n hx hb dF_unit_52 rfl (lv_at hl 0 rfl) ?_
            refine lv_bipush (v := 7) hx hb dF_unit_53 (by decide) ?_
            refine lv_isub hx hb dF_unit_55 ?_
            refine va_iald hx hb hV (ur_one hI.1 f2) 0 0 rfl rfl (fo_un_in (fo_pl_in c2) c5 c3 c4 c6) dF_unit_56 ?_
            exact ur_ri hx hb hr hlocks hI hQ ⟨(by simp only [fo_un, c2, c3, c4, c5, c6, Bool.false_eq_true, ↓reduceIte]), rfl⟩ dF_unit_57
          · refine lv_aload_n hx hb dF_unit_41 rfl (lv_at hl 1 rfl) ?_
            refine va_get (D := D) (ci := 7) (v := .int cds) (C := "UnitRoomModel") (T := TF) (N := 18) hx hb hts inF hown hV (ur_one hI.1 f0) 0 rfl rfl 10 (by decide) (hts _ mw587) (fun _ h9 => h9) rfl dF_unit_42 ?_
            refine lv_goto (tgt := 57) hx hb dF_unit_45 (by decide) ?_
            exact ur_ri hx hb hr hlocks hI hQ ⟨(by simp only [fo_un, c2, c3, c4, c5, eq_true c6, Bool.false_eq_true, ↓reduceIte]), rfl⟩ dF_unit_57
        · refine lv_aload_n hx hb dF_unit_26 rfl (lv_at hl 1 rfl) ?_
          refine va_get (D := D) (ci := 7) (v := .ref b3) (C := "UnitRoomModel") (T := TF) (N := 18) hx hb hts inF hown hV (ur_one hI.1 f0) 0 rfl rfl 2 (by decide) (hts _ mw579) (fun _ h9 => h9) rfl dF_unit_27 ?_
          refine lv_iload_n hx hb dF_unit_30 rfl (lv_at hl 0 rfl) ?_
          refine va_iald hx hb hV (ur_one hI.1 f1) 0 0 rfl rfl (um_in' (n := 4) c2 c5 (by decide)) dF_unit_31 ?_
          refine lv_goto (tgt := 57) hx hb dF_unit_32 (by decide) ?_
          exact ur_ri hx hb hr hlocks hI hQ ⟨(by simp only [fo_un, c2, c3, c4, c5, Bool.false_eq_true, ↓reduceIte]), rfl⟩ dF_unit_57
      · refine lv_iconst (v := (-1)) hx hb dF_unit_19 (by decide) ?_
        exact ur_ri hx hb hr hlocks hI hQ ⟨(by simp only [fo_un, c2, c3, eq_true c4, Bool.false_eq_true, ↓reduceIte]), rfl⟩ dF_unit_20
theorem dF_block_0 : decode cF_block 0 = .ok (.iload_n 1, 1) := by decide +kernel
theorem dF_block_1 : decode cF_block 1 = .ok (.invokestatic 102, 3) := by decide +kernel
theorem dF_block_4 : decode cF_block 4 = .ok (.istore 4, 2) := by decide +kernel
theorem dF_block_6 : decode cF_block 6 = .ok (.iload 4, 2) := by decide +kernel
theorem dF_block_8 : decode cF_block 8 = .ok (.iconst 0, 1) := by decide +kernel
theorem dF_block_9 : decode cF_block 9 = .ok (.iconst 5, 1) := by decide +kernel
theorem dF_block_10 : decode cF_block 10 = .ok (.invokestatic 64, 3) := by decide +kernel
theorem dF_block_13 : decode cF_block 13 = .ok (.ifCond .eq 23, 3) := by decide +kernel
theorem dF_block_16 : decode cF_block 16 = .ok (.iload_n 2, 1) := by decide +kernel
theorem dF_block_17 : decode cF_block 17 = .ok (.iconst 0, 1) := by decide +kernel
theorem dF_block_18 : decode cF_block 18 = .ok (.bipush 63, 2) := by decide +kernel
theorem dF_block_20 : decode cF_block 20 = .ok (.invokestatic 64, 3) := by decide +kernel
theorem dF_block_23 : decode cF_block 23 = .ok (.ifCond .eq 13, 3) := by decide +kernel
theorem dF_block_26 : decode cF_block 26 = .ok (.iload_n 3, 1) := by decide +kernel
theorem dF_block_27 : decode cF_block 27 = .ok (.iconst 0, 1) := by decide +kernel
theorem dF_block_28 : decode cF_block 28 = .ok (.bipush 99, 2) := by decide +kernel
theorem dF_block_30 : decode cF_block 30 = .ok (.invokestatic 64, 3) := by decide +kernel
theorem dF_block_33 : decode cF_block 33 = .ok (.ifCond .ne 6, 3) := by decide +kernel
theorem dF_block_36 : decode cF_block 36 = .ok (.ldc 73, 2) := by decide +kernel
theorem dF_block_38 : decode cF_block 38 = .ok (.ireturn, 1) := by decide +kernel
theorem dF_block_39 : decode cF_block 39 = .ok (.aload_n 0, 1) := by decide +kernel
theorem dF_block_40 : decode cF_block 40 = .ok (.getfield 14, 3) := by decide +kernel
theorem dF_block_43 : decode cF_block 43 = .ok (.bipush 100, 2) := by decide +kernel
theorem dF_block_45 : decode cF_block 45 = .ok (.bipush 64, 2) := by decide +kernel
theorem dF_block_47 : decode cF_block 47 = .ok (.iload 4, 2) := by decide +kernel
theorem dF_block_49 : decode cF_block 49 = .ok (.imul, 1) := by decide +kernel
theorem dF_block_50 : decode cF_block 50 = .ok (.iload_n 2, 1) := by decide +kernel
theorem dF_block_51 : decode cF_block 51 = .ok (.iadd, 1) := by decide +kernel
theorem dF_block_52 : decode cF_block 52 = .ok (.imul, 1) := by decide +kernel
theorem dF_block_53 : decode cF_block 53 = .ok (.iload_n 3, 1) := by decide +kernel
theorem dF_block_54 : decode cF_block 54 = .ok (.iadd, 1) := by decide +kernel
theorem dF_block_55 : decode cF_block 55 = .ok (.iaload, 1) := by decide +kernel
theorem dF_block_56 : decode cF_block 56 = .ok (.invokestatic 69, 3) := by decide +kernel
theorem dF_block_59 : decode cF_block 59 = .ok (.ireturn, 1) := by decide +kernel
abbrev rmkF_block : Room := { frames := 2, cells := 0, slots := 0, locals := 42 }
set_option maxHeartbeats 4000000 in
set_option maxRecDepth 100000 in
theorem kF_block (l : Launch) (D : va_G) (E : ur_Ev) (h : ur_M) (q : Nat) (b1 : Nat) (b2 : Nat) (b3 : Nat) (b4 : Nat) (b5 : Nat) (b6 : Nat) (b7 : Nat) (b8 : Nat) (b9 : Nat) (b10 : Nat) (b11 : Nat) (b12 : Nat) (b13 : Nat) (b14 : Nat) (ti : Int64) (ops : Int32) (cds : Int32) (tsz : Int32) (g_blocks : Nat → Int32) (u : Int32) (b : Int32) (i : Int32) (f0 : h q = some (.inr (7, [.ref b1, .ref b2, .ref b3, .long ti, .ref b4, .ref b5, .ref b6, .ref b7, .int ops, .ref b8, .int cds, .ref b9, .ref b10, .ref b11, .ref b12, .ref b13, .int tsz, .ref b14]))) (f1 : h b2 = some (.inl (E.1 0, 38400, .inl g_blocks)))  : ur_Mi l yF_block wsF_block rmkF_block D vwCl (ur_v E) [.ref q, .int u, .int b, .int i] h (fun r h2 => r = fo_bl g_blocks (fo_pl u) b i ∧ h2 = h) 0 0 := by
  intro sz
  refine ur_of (cc := cF_block) (maxL := 5) (ret := (some .int)) (by decide) rfl (Nat.le_of_ble_eq_true rfl) ?_
  intro p e s m args below meth c ls Q hsz hx hb hml hr hlocks hnm hown hts hO hK hI hQ hl
  subst hsz
  have hV := hK.1
  have hts : ∀ w ∈ ur_G, w.before args s = true := fun w hw => hts w (List.mem_cons_of_mem _ hw)
  have hZ : ur_Z E (ur_A h s.heap.size) s s.heap := hO.1
  have hown : s.vm.findClass "UnitRoomModel" = some m.cls := hown
  have hl : lv_has ls 5 [(0, .ref q), (1, .int u), (2, .int b), (3, .int i)] := hl
  refine lv_iload_n hx hb dF_block_0 rfl (lv_at hl 1 rfl) ?_
  refine ur_xi (va_runS (As := [.int u]) (rest := []) ⟨hx, hb, hml, hown, hts⟩ (kF_placeOf l D E h u s.heap.size) (va_cwS 1 hts (ur_gT mw669 mw670 mw11 mw671) rfl rfl rfl (by decide +kernel) ⟨(Nat.le_of_ble_eq_true rfl), (Nat.le_of_ble_eq_true rfl)⟩) ⟨ur_blind, ur_pre hI hO hK (fun _ _ q => q)⟩ rfl rfl hl.1 rfl (lv_room (Nat.le_of_ble_eq_true rfl)) dF_block_1 ⟨Nat.le_of_ble_eq_true rfl, Nat.le_of_ble_eq_true rfl⟩) hI (fun r1 h1 H locs p1 hI => ?_)
  obtain ⟨er1, eh1⟩ := p1
  replace eh1 := eh1.symm; subst eh1
  replace er1 := er1.symm; subst er1
  refine lv_istore (lv' := [(4, .int (fo_pl u)), (0, .ref q), (1, .int u), (2, .int b), (3, .int i)]) hx hb dF_block_4 hl (by decide) rfl (fun ls hl => ?_)
  refine lv_iload hx hb dF_block_6 (lv_at hl 0 rfl) ?_
  refine lv_iconst (v := 0) hx hb dF_block_8 (by decide) ?_
  refine lv_iconst (v := 5) hx hb dF_block_9 (by decide) ?_
  refine ur_xi (va_runS (As := [.int (fo_pl u), .int 0, .int 5]) (rest := []) ⟨hx, hb, hml, hown, hts⟩ (kF_in l D E h (fo_pl u) 0 5 H.size) (va_cwS 3 hts (ur_gT mw642 mw643 mw11 mw644) rfl rfl rfl (by decide +kernel) ⟨(Nat.le_of_ble_eq_true rfl), (Nat.le_of_ble_eq_true rfl)⟩) ⟨ur_blind, ur_pre hI hO hK (fun _ _ q => q)⟩ rfl rfl hl.1 rfl (lv_room (Nat.le_of_ble_eq_true rfl)) dF_block_10 ⟨Nat.le_of_ble_eq_true rfl, Nat.le_of_ble_eq_true rfl⟩) hI (fun r2 h2 H locs p2 hI => ?_)
  obtain ⟨er2, eh2⟩ := p2
  replace eh2 := eh2.symm; subst eh2
  refine lv_if_eq (tgt := 36) hx hb dF_block_13 (by decide) (fun c3 => ?_) (fun c3 => ?_)
  · have k4 : (fo_in (fo_pl u) 0 5) = false := um_b0 er2 c3
    refine lv_ldc (v := 2147483647) hx hb hown (hts _ mw664) dF_block_36 ?_
    exact ur_ri hx hb hr hlocks hI hQ ⟨(by simp only [fo_bl, k4, Bool.false_eq_true, ↓reduceIte]), rfl⟩ dF_block_38
  · have k5 : (fo_in (fo_pl u) 0 5) = true := um_b1 er2 c3
    refine lv_iload_n hx hb dF_block_16 rfl (lv_at hl 3 rfl) ?_
    refine lv_iconst (v := 0) hx hb dF_block_17 (by decide) ?_
    refine lv_bipush (v := 63) hx hb dF_block_18 (by decide) ?_
    refine ur_xi (va_runS (As := [.int b, .int 0, .int 63]) (rest := []) ⟨hx, hb, hml, hown, hts⟩ (kF_in l D E h b 0 63 H.size) (va_cwS 3 hts (ur_gT mw642 mw643 mw11 mw644) rfl rfl rfl (by decide +kernel) ⟨(Nat.le_of_ble_eq_true rfl), (Nat.le_of_ble_eq_true rfl)⟩) ⟨ur_blind, ur_pre hI hO hK (fun _ _ q => q)⟩ rfl rfl hl.1 rfl (lv_room (Nat.le_of_ble_eq_true rfl)) dF_block_20 ⟨Nat.le_of_ble_eq_true rfl, Nat.le_of_ble_eq_true rfl⟩) hI (fun r6 h6 H locs p6 hI => ?_)
    obtain ⟨er6, eh6⟩ := p6
    replace eh6 := eh6.symm; subst eh6
    refine lv_if_eq (tgt := 36) hx hb dF_block_23 (by decide) (fun c7 => ?_) (fun c7 => ?_)
    · have k8 : (fo_in b 0 63) = false := um_b0 er6 c7
      refine lv_ldc (v := 2147483647) hx hb hown (hts _ mw664) dF_block_36 ?_
      exact ur_ri hx hb hr hlocks hI hQ ⟨(by simp only [fo_bl, k5, k8, Bool.false_eq_true, ↓reduceIte]), rfl⟩ dF_block_38
    · have k9 : (fo_in b 0 63) = true := um_b1 er6 c7
      refine lv_iload_n hx hb dF_block_26 rfl (lv_at hl 4 rfl) ?_
      refine lv_iconst (v := 0) hx hb dF_block_27 (by decide) ?_
      refine lv_bipush (v := 99) hx hb dF_block_28 (by decide) ?_
      refine ur_xi (va_runS (As := [.int i, .int 0, .int 99]) (rest := []) ⟨hx, hb, hml, hown, hts⟩ (kF_in l D E h i 0 99 H.size) (va_cwS 3 hts (ur_gT mw642 mw643 mw11 mw644) rfl rfl rfl (by decide +kernel) ⟨(Nat.le_of_ble_eq_true rfl), (Nat.le_of_ble_eq_true rfl)⟩) ⟨ur_blind, ur_pre hI hO hK (fun _ _ q => q)⟩ rfl rfl hl.1 rfl (lv_room (Nat.le_of_ble_eq_true rfl)) dF_block_30 ⟨Nat.le_of_ble_eq_true rfl, Nat.le_of_ble_eq_true rfl⟩) hI (fun r10 h10 H locs p10 hI => ?_)
      obtain ⟨er10, eh10⟩ := p10
      replace eh10 := eh10.symm; subst eh10
      refine lv_if_ne (tgt := 39) hx hb dF_block_33 (by decide) (fun c11 => ?_) (fun c11 => ?_)
      · have k12 : (fo_in i 0 99) = true := um_b1 er10 c11
        refine lv_aload_n hx hb dF_block_39 rfl (lv_at hl 1 rfl) ?_
        refine va_get (D := D) (ci := 7) (v := .ref b2) (C := "UnitRoomModel") (T := TF) (N := 18) hx hb hts inF hown hV (ur_one hI.1 f0) 0 rfl rfl 1 (by decide) (hts _ mw578) (fun _ h9 => h9) rfl dF_block_40 ?_
        refine lv_bipush (v := 100) hx hb dF_block_43 (by decide) ?_
        refine lv_bipush (v := 64) hx hb dF_block_45 (by decide) ?_
        refine lv_iload hx hb dF_block_47 (lv_at hl 0 rfl) ?_
        refine lv_imul hx hb dF_block_49 ?_
        refine lv_iload_n hx hb dF_block_50 rfl (lv_at hl 3 rfl) ?_
        refine lv_iadd hx hb dF_block_51 ?_
        refine lv_imul hx hb dF_block_52 ?_
        refine lv_iload_n hx hb dF_block_53 rfl (lv_at hl 4 rfl) ?_
        refine lv_iadd hx hb dF_block_54 ?_
        refine va_iald hx hb hV (ur_one hI.1 f1) 0 0 rfl rfl (fo_bl_in k5 k9 k12) dF_block_55 ?_
        refine ur_xi (va_runS (As := [.int (g_blocks (Int32.toNatClampNeg ((100 * ((64 * (fo_pl u)) + b)) + i)))]) (rest := []) ⟨hx, hb, hml, hown, hts⟩ (kF_told l D E h (g_blocks (Int32.toNatClampNeg ((100 * ((64 * (fo_pl u)) + b)) + i))) H.size) (va_cwS 1 hts (ur_gT mw660 mw661 mw11 mw662) rfl rfl rfl (by decide +kernel) ⟨(Nat.le_of_ble_eq_true rfl), (Nat.le_of_ble_eq_true rfl)⟩) ⟨ur_blind, ur_pre hI hO hK (fun _ _ q => q)⟩ rfl rfl hl.1 rfl (lv_room (Nat.le_of_ble_eq_true rfl)) dF_block_56 ⟨Nat.le_of_ble_eq_true rfl, Nat.le_of_ble_eq_true rfl⟩) hI (fun r13 h13 H locs p13 hI => ?_)
        obtain ⟨er13, eh13⟩ := p13
        replace eh13 := eh13.symm; subst eh13
        replace er13 := er13.symm; subst er13
        exact ur_ri hx hb hr hlocks hI hQ ⟨(by simp only [fo_bl, k5, k9, k12, Bool.false_eq_true, ↓reduceIte]), rfl⟩ dF_block_59
      · have k14 : (fo_in i 0 99) = false := um_b0 er10 c11
        refine lv_ldc (v := 2147483647) hx hb hown (hts _ mw664) dF_block_36 ?_
        exact ur_ri hx hb hr hlocks hI hQ ⟨(by simp only [fo_bl, k5, k9, k14, Bool.false_eq_true, ↓reduceIte]), rfl⟩ dF_block_38
