theorem dF_letter_0 : decode cF_letter 0 = .ok (.iload_n 1, 1) := by decide +kernel
theorem dF_letter_1 : decode cF_letter 1 = .ok (.bipush 17, 2) := by decide +kernel
theorem dF_letter_3 : decode cF_letter 3 = .ok (.bipush 19, 2) := by decide +kernel
theorem dF_letter_5 : decode cF_letter 5 = .ok (.invokestatic 64, 3) := by decide +kernel
theorem dF_letter_8 : decode cF_letter 8 = .ok (.ifCond .eq 27, 3) := by decide +kernel
theorem dF_letter_11 : decode cF_letter 11 = .ok (.iload_n 2, 1) := by decide +kernel
theorem dF_letter_12 : decode cF_letter 12 = .ok (.ifCond .lt 23, 3) := by decide +kernel
theorem dF_letter_15 : decode cF_letter 15 = .ok (.iload_n 2, 1) := by decide +kernel
theorem dF_letter_16 : decode cF_letter 16 = .ok (.aload_n 0, 1) := by decide +kernel
theorem dF_letter_17 : decode cF_letter 17 = .ok (.getfield 40, 3) := by decide +kernel
theorem dF_letter_20 : decode cF_letter 20 = .ok (.iload_n 1, 1) := by decide +kernel
theorem dF_letter_21 : decode cF_letter 21 = .ok (.bipush 17, 2) := by decide +kernel
theorem dF_letter_23 : decode cF_letter 23 = .ok (.isub, 1) := by decide +kernel
theorem dF_letter_24 : decode cF_letter 24 = .ok (.iaload, 1) := by decide +kernel
theorem dF_letter_25 : decode cF_letter 25 = .ok (.if_icmp .ge 10, 3) := by decide +kernel
theorem dF_letter_28 : decode cF_letter 28 = .ok (.iload_n 2, 1) := by decide +kernel
theorem dF_letter_29 : decode cF_letter 29 = .ok (.sipush 300, 3) := by decide +kernel
theorem dF_letter_32 : decode cF_letter 32 = .ok (.if_icmp .lt 5, 3) := by decide +kernel
theorem dF_letter_35 : decode cF_letter 35 = .ok (.iconst (-1), 1) := by decide +kernel
theorem dF_letter_36 : decode cF_letter 36 = .ok (.ireturn, 1) := by decide +kernel
theorem dF_letter_37 : decode cF_letter 37 = .ok (.sipush 300, 3) := by decide +kernel
theorem dF_letter_40 : decode cF_letter 40 = .ok (.iload_n 1, 1) := by decide +kernel
theorem dF_letter_41 : decode cF_letter 41 = .ok (.bipush 17, 2) := by decide +kernel
theorem dF_letter_43 : decode cF_letter 43 = .ok (.isub, 1) := by decide +kernel
theorem dF_letter_44 : decode cF_letter 44 = .ok (.imul, 1) := by decide +kernel
theorem dF_letter_45 : decode cF_letter 45 = .ok (.iload_n 2, 1) := by decide +kernel
theorem dF_letter_46 : decode cF_letter 46 = .ok (.iadd, 1) := by decide +kernel
theorem dF_letter_47 : decode cF_letter 47 = .ok (.istore 4, 2) := by decide +kernel
theorem dF_letter_49 : decode cF_letter 49 = .ok (.iload_n 3, 1) := by decide +kernel
theorem dF_letter_50 : decode cF_letter 50 = .ok (.ifCond .lt 29, 3) := by decide +kernel
theorem dF_letter_53 : decode cF_letter 53 = .ok (.iload_n 3, 1) := by decide +kernel
theorem dF_letter_54 : decode cF_letter 54 = .ok (.aload_n 0, 1) := by decide +kernel
theorem dF_letter_55 : decode cF_letter 55 = .ok (.getfield 43, 3) := by decide +kernel
theorem dF_letter_58 : decode cF_letter 58 = .ok (.iload 4, 2) := by decide +kernel
theorem dF_letter_60 : decode cF_letter 60 = .ok (.iaload, 1) := by decide +kernel
theorem dF_letter_61 : decode cF_letter 61 = .ok (.if_icmp .ge 18, 3) := by decide +kernel
theorem dF_letter_64 : decode cF_letter 64 = .ok (.aload_n 0, 1) := by decide +kernel
theorem dF_letter_65 : decode cF_letter 65 = .ok (.getfield 47, 3) := by decide +kernel
theorem dF_letter_68 : decode cF_letter 68 = .ok (.bipush 120, 2) := by decide +kernel
theorem dF_letter_70 : decode cF_letter 70 = .ok (.iload 4, 2) := by decide +kernel
theorem dF_letter_72 : decode cF_letter 72 = .ok (.imul, 1) := by decide +kernel
theorem dF_letter_73 : decode cF_letter 73 = .ok (.iload_n 3, 1) := by decide +kernel
theorem dF_letter_74 : decode cF_letter 74 = .ok (.iadd, 1) := by decide +kernel
theorem dF_letter_75 : decode cF_letter 75 = .ok (.baload, 1) := by decide +kernel
theorem dF_letter_76 : decode cF_letter 76 = .ok (.goto 4, 3) := by decide +kernel
theorem dF_letter_79 : decode cF_letter 79 = .ok (.iconst (-1), 1) := by decide +kernel
theorem dF_letter_80 : decode cF_letter 80 = .ok (.ireturn, 1) := by decide +kernel
abbrev rmkF_letter : Room := { frames := 1, cells := 0, slots := 0, locals := 22 }
set_option maxHeartbeats 4000000 in
set_option maxRecDepth 100000 in
theorem kF_letter (l : Launch) (D : va_G) (E : ur_Ev) (h : ur_M) (q : Nat) (b1 : Nat) (b2 : Nat) (b3 : Nat) (b4 : Nat) (b5 : Nat) (b6 : Nat) (b7 : Nat) (b8 : Nat) (b9 : Nat) (b10 : Nat) (b11 : Nat) (b12 : Nat) (b13 : Nat) (b14 : Nat) (ti : Int64) (ops : Int32) (cds : Int32) (tsz : Int32) (g_lines : Nat → Int32) (g_lengths : Nat → Int32) (g_letters : Nat → Int32) (u : Int32) (k : Int32) (i : Int32) (f0 : h q = some (.inr (7, [.ref b1, .ref b2, .ref b3, .long ti, .ref b4, .ref b5, .ref b6, .ref b7, .int ops, .ref b8, .int cds, .ref b9, .ref b10, .ref b11, .ref b12, .ref b13, .int tsz, .ref b14]))) (f1 : h b10 = some (.inl (E.1 0, 3, .inl g_lines))) (f2 : h b11 = some (.inl (E.1 0, 900, .inl g_lengths))) (f3 : h b12 = some (.inl (E.1 1, 108000, .inl g_letters))) (hle : ∀ j, j < 900 → g_lengths j ≤ 120) : ur_Mi l yF_letter wsF_letter rmkF_letter D vwCl (ur_v E) [.ref q, .int u, .int k, .int i] h (fun r h2 => r = fo_lr g_lines g_lengths g_letters u k i ∧ h2 = h) 0 0 := by
  intro sz
  refine ur_of (cc := cF_letter) (maxL := 5) (ret := (some .int)) (by decide) rfl (Nat.le_of_ble_eq_true rfl) ?_
  intro p e s m args below meth c ls Q hsz hx hb hml hr hlocks hnm hown hts hO hK hI hQ hl
  subst hsz
  have hV := hK.1
  have hts : ∀ w ∈ ur_G, w.before args s = true := fun w hw => hts w (List.mem_cons_of_mem _ hw)
  have hZ : ur_Z E (ur_A h s.heap.size) s s.heap := hO.1
  have hown : s.vm.findClass "UnitRoomModel" = some m.cls := hown
  have hl : lv_has ls 5 [(0, .ref q), (1, .int u), (2, .int k), (3, .int i)] := hl
  refine lv_iload_n hx hb dF_letter_0 rfl (lv_at hl 1 rfl) ?_
  refine lv_bipush (v := 17) hx hb dF_letter_1 (by decide) ?_
  refine lv_bipush (v := 19) hx hb dF_letter_3 (by decide) ?_
  refine ur_xi (va_runS (As := [.int u, .int 17, .int 19]) (rest := []) ⟨hx, hb, hml, hown, hts⟩ (kF_in l D E h u 17 19 s.heap.size) (va_cwS 3 hts (ur_gT mw642 mw643 mw11 mw644) rfl rfl rfl (by decide +kernel) ⟨(Nat.le_of_ble_eq_true rfl), (Nat.le_of_ble_eq_true rfl)⟩) ⟨ur_blind, ur_pre hI hO hK (fun _ _ q => q)⟩ rfl rfl hl.1 rfl (lv_room (Nat.le_of_ble_eq_true rfl)) dF_letter_5 ⟨Nat.le_of_ble_eq_true rfl, Nat.le_of_ble_eq_true rfl⟩) hI (fun r1 h1 H locs p1 hI => ?_)
  obtain ⟨er1, eh1⟩ := p1
  replace eh1 := eh1.symm; subst eh1
  refine lv_if_eq (tgt := 35) hx hb dF_letter_8 (by decide) (fun c2 => ?_) (fun c2 => ?_)
  · have k3 : (fo_in u 17 19) = false := um_b0 er1 c2
    refine lv_iconst (v := (-1)) hx hb dF_letter_35 (by decide) ?_
    exact ur_ri hx hb hr hlocks hI hQ ⟨(by simp only [fo_lr, k3, Bool.false_eq_true, ↓reduceIte]), rfl⟩ dF_letter_36
  · have k4 : (fo_in u 17 19) = true := um_b1 er1 c2
    refine lv_iload_n hx hb dF_letter_11 rfl (lv_at hl 2 rfl) ?_
    refine lv_if_lt (tgt := 35) hx hb dF_letter_12 (by decide) (fun c5 => ?_) (fun c5 => ?_)
    · refine lv_iconst (v := (-1)) hx hb dF_letter_35 (by decide) ?_
      exact ur_ri hx hb hr hlocks hI hQ ⟨(by simp only [fo_lr, k4, c5, Bool.false_eq_true, ↓reduceIte]), rfl⟩ dF_letter_36
    · refine lv_iload_n hx hb dF_letter_15 rfl (lv_at hl 2 rfl) ?_
      refine lv_aload_n hx hb dF_letter_16 rfl (lv_at hl 0 rfl) ?_
      refine va_get (D := D) (ci := 7) (v := .ref b10) (C := "UnitRoomModel") (T := TF) (N := 18) hx hb hts inF hown hV (ur_one hI.1 f0) 0 rfl rfl 12 (by decide) (hts _ mw589) (fun _ h9 => h9) rfl dF_letter_17 ?_
      refine lv_iload_n hx hb dF_letter_20 rfl (lv_at hl 1 rfl) ?_
      refine lv_bipush (v := 17) hx hb dF_letter_21 (by decide) ?_
      refine lv_isub hx hb dF_letter_23 ?_
      refine va_iald hx hb hV (ur_one hI.1 f1) 0 0 rfl rfl (fo_lr_1 k4) dF_letter_24 ?_
      refine lv_icmp_ge (tgt := 35) hx hb dF_letter_25 (by decide) (fun c6 => ?_) (fun c6 => ?_)
      · refine lv_iconst (v := (-1)) hx hb dF_letter_35 (by decide) ?_
        exact ur_ri hx hb hr hlocks hI hQ ⟨(by simp only [fo_lr, k4, c5, c6, Bool.false_eq_true, ↓reduceIte]), rfl⟩ dF_letter_36
      · refine lv_iload_n hx hb dF_letter_28 rfl (lv_at hl 2 rfl) ?_
        refine lv_sipush (v := 300) hx hb dF_letter_29 (by decide) ?_
        refine lv_icmp_lt (tgt := 37) hx hb dF_letter_32 (by decide) (fun c7 => ?_) (fun c7 => ?_)
        · refine lv_sipush (v := 300) hx hb dF_letter_37 (by decide) ?_
          refine lv_iload_n hx hb dF_letter_40 rfl (lv_at hl 1 rfl) ?_
          refine lv_bipush (v := 17) hx hb dF_letter_41 (by decide) ?_
          refine lv_isub hx hb dF_letter_43 ?_
          refine lv_imul hx hb dF_letter_44 ?_
          refine lv_iload_n hx hb dF_letter_45 rfl (lv_at hl 2 rfl) ?_
          refine lv_iadd hx hb dF_letter_46 ?_
          refine lv_istore (lv' := [(4, .int ((300 * (u - 17)) + k)), (0, .ref q), (1, .int u), (2, .int k), (3, .int i)]) hx hb dF_letter_47 hl (by decide) rfl (fun ls hl => ?_)
          refine lv_iload_n hx hb dF_letter_49 rfl (lv_at hl 4 rfl) ?_
          refine lv_if_lt (tgt := 79) hx hb dF_letter_50 (by decide) (fun c8 => ?_) (fun c8 => ?_)
          · refine lv_iconst (v := (-1)) hx hb dF_letter_79 (by decide) ?_
            exact ur_ri hx hb hr hlocks hI hQ ⟨(by simp only [fo_lr, k4, c5, c6, c7, c8, Bool.false_eq_true, ↓reduceIte]), rfl⟩ dF_letter_80
          · refine lv_iload_n hx hb dF_letter_53 rfl (lv_at hl 4 rfl) ?_
            refine lv_aload_n hx hb dF_letter_54 rfl (lv_at hl 1 rfl) ?_
            refine va_get (D := D) (ci := 7) (v := .ref b11) (C := "UnitRoomModel") (T := TF) (N := 18) hx hb hts inF hown hV (ur_one hI.1 f0) 0 rfl rfl 13 (by decide) (hts _ mw590) (fun _ h9 => h9) rfl dF_letter_55 ?_
            refine lv_iload hx hb dF_letter_58 (lv_at hl 0 rfl) ?_
            refine va_iald hx hb hV (ur_one hI.1 f2) 0 0 rfl rfl (by obtain ⟨j9, hj9, e9⟩ := fo_lr_2 k4 c5 c7; rw [e9]; exact vp_in_nI hj9 (by decide)) dF_letter_60 ?_
            refine lv_icmp_ge (tgt := 79) hx hb dF_letter_61 (by decide) (fun c9 => ?_) (fun c9 => ?_)
            · refine lv_iconst (v := (-1)) hx hb dF_letter_79 (by decide) ?_
              exact ur_ri hx hb hr hlocks hI hQ ⟨(by simp only [fo_lr, k4, c5, c6, c7, c8, c9, Bool.false_eq_true, ↓reduceIte]), rfl⟩ dF_letter_80
            · refine lv_aload_n hx hb dF_letter_64 rfl (lv_at hl 1 rfl) ?_
              refine va_get (D := D) (ci := 7) (v := .ref b12) (C := "UnitRoomModel") (T := TF) (N := 18) hx hb hts inF hown hV (ur_one hI.1 f0) 0 rfl rfl 14 (by decide) (hts _ mw591) (fun _ h9 => h9) rfl dF_letter_65 ?_
              refine lv_bipush (v := 120) hx hb dF_letter_68 (by decide) ?_
              refine lv_iload hx hb dF_letter_70 (lv_at hl 0 rfl) ?_
              refine lv_imul hx hb dF_letter_72 ?_
              refine lv_iload_n hx hb dF_letter_73 rfl (lv_at hl 4 rfl) ?_
              refine lv_iadd hx hb dF_letter_74 ?_
              refine va_bald hx hb hV (ur_one hI.1 f3) 0 1 rfl rfl (fo_lr_3 hle k4 c5 c7 c8 c9) dF_letter_75 ?_
              refine lv_goto (tgt := 80) hx hb dF_letter_76 (by decide) ?_
              exact ur_ri hx hb hr hlocks hI hQ ⟨(by simp only [fo_lr, k4, c5, c6, c7, c8, c9, Bool.false_eq_true, ↓reduceIte]), rfl⟩ dF_letter_80
        · refine lv_iconst (v := (-1)) hx hb dF_letter_35 (by decide) ?_
          exact ur_ri hx hb hr hlocks hI hQ ⟨(by simp only [fo_lr, k4, c5, c6, c7, Bool.false_eq_true, ↓reduceIte]), rfl⟩ dF_letter_36
theorem dF_card_0 : decode cF_card 0 = .ok (.aload_n 0, 1) := by decide +kernel
theorem dF_card_1 : decode cF_card 1 = .ok (.getfield 60, 3) := by decide +kernel
theorem dF_card_4 : decode cF_card 4 = .ok (.istore_n 1, 1) := by decide +kernel
theorem dF_card_5 : decode cF_card 5 = .ok (.aload_n 0, 1) := by decide +kernel
theorem dF_card_6 : decode cF_card 6 = .ok (.iconst 0, 1) := by decide +kernel
theorem dF_card_7 : decode cF_card 7 = .ok (.putfield 60, 3) := by decide +kernel
theorem dF_card_10 : decode cF_card 10 = .ok (.aload_n 0, 1) := by decide +kernel
theorem dF_card_11 : decode cF_card 11 = .ok (.getfield 80, 3) := by decide +kernel
theorem dF_card_14 : decode cF_card 14 = .ok (.bipush 100, 2) := by decide +kernel
theorem dF_card_16 : decode cF_card 16 = .ok (.if_icmp .ne 5, 3) := by decide +kernel
theorem dF_card_19 : decode cF_card 19 = .ok (.iconst (-1), 1) := by decide +kernel
theorem dF_card_20 : decode cF_card 20 = .ok (.ireturn, 1) := by decide +kernel
theorem dF_card_21 : decode cF_card 21 = .ok (.iconst 0, 1) := by decide +kernel
theorem dF_card_22 : decode cF_card 22 = .ok (.istore_n 2, 1) := by decide +kernel
theorem dF_card_23 : decode cF_card 23 = .ok (.iload_n 2, 1) := by decide +kernel
theorem dF_card_24 : decode cF_card 24 = .ok (.bipush 80, 2) := by decide +kernel
theorem dF_card_26 : decode cF_card 26 = .ok (.if_icmp .ge 39, 3) := by decide +kernel
theorem dF_card_29 : decode cF_card 29 = .ok (.aload_n 0, 1) := by decide +kernel
theorem dF_card_30 : decode cF_card 30 = .ok (.getfield 37, 3) := by decide +kernel
theorem dF_card_33 : decode cF_card 33 = .ok (.bipush 80, 2) := by decide +kernel
theorem dF_card_35 : decode cF_card 35 = .ok (.aload_n 0, 1) := by decide +kernel
theorem dF_card_36 : decode cF_card 36 = .ok (.getfield 80, 3) := by decide +kernel
theorem dF_card_39 : decode cF_card 39 = .ok (.imul, 1) := by decide +kernel
theorem dF_card_40 : decode cF_card 40 = .ok (.iload_n 2, 1) := by decide +kernel
theorem dF_card_41 : decode cF_card 41 = .ok (.iadd, 1) := by decide +kernel
theorem dF_card_42 : decode cF_card 42 = .ok (.iload_n 2, 1) := by decide +kernel
theorem dF_card_43 : decode cF_card 43 = .ok (.iload_n 1, 1) := by decide +kernel
theorem dF_card_44 : decode cF_card 44 = .ok (.if_icmp .ge 12, 3) := by decide +kernel
theorem dF_card_47 : decode cF_card 47 = .ok (.aload_n 0, 1) := by decide +kernel
theorem dF_card_48 : decode cF_card 48 = .ok (.getfield 51, 3) := by decide +kernel
theorem dF_card_51 : decode cF_card 51 = .ok (.iload_n 2, 1) := by decide +kernel
theorem dF_card_52 : decode cF_card 52 = .ok (.iaload, 1) := by decide +kernel
theorem dF_card_53 : decode cF_card 53 = .ok (.goto 5, 3) := by decide +kernel
theorem dF_card_56 : decode cF_card 56 = .ok (.bipush 32, 2) := by decide +kernel
theorem dF_card_58 : decode cF_card 58 = .ok (.iastore, 1) := by decide +kernel
theorem dF_card_59 : decode cF_card 59 = .ok (.iinc 2 1, 3) := by decide +kernel
theorem dF_card_62 : decode cF_card 62 = .ok (.goto (-39), 3) := by decide +kernel
theorem dF_card_65 : decode cF_card 65 = .ok (.aload_n 0, 1) := by decide +kernel
theorem dF_card_66 : decode cF_card 66 = .ok (.dup, 1) := by decide +kernel
theorem dF_card_67 : decode cF_card 67 = .ok (.getfield 80, 3) := by decide +kernel
theorem dF_card_70 : decode cF_card 70 = .ok (.iconst 1, 1) := by decide +kernel
theorem dF_card_71 : decode cF_card 71 = .ok (.iadd, 1) := by decide +kernel
theorem dF_card_72 : decode cF_card 72 = .ok (.putfield 80, 3) := by decide +kernel
theorem dF_card_75 : decode cF_card 75 = .ok (.aload_n 0, 1) := by decide +kernel
theorem dF_card_76 : decode cF_card 76 = .ok (.getfield 80, 3) := by decide +kernel
theorem dF_card_79 : decode cF_card 79 = .ok (.ireturn, 1) := by decide +kernel
abbrev rmkF_card : Room := { frames := 0, cells := 0, slots := 0, locals := 0 }
set_option maxHeartbeats 4000000 in
set_option maxRecDepth 100000 in
theorem kF_card (l : Launch) (D : va_G) (E : ur_Ev) (h : ur_M) (q : Nat) (b1 : Nat) (b2 : Nat) (b3 : Nat) (b4 : Nat) (b5 : Nat) (b6 : Nat) (b7 : Nat) (b8 : Nat) (b9 : Nat) (b10 : Nat) (b11 : Nat) (b12 : Nat) (b13 : Nat) (b14 : Nat) (ti : Int64) (ops : Int32) (cn : Nat) (n : Nat) (g_cardBytes : Nat → Int32) (g_tape : Nat → Int32) (f0 : h q = some (.inr (7, [.ref b1, .ref b2, .ref b3, .long ti, .ref b4, .ref b5, .ref b6, .ref b7, .int ops, .ref b8, .int (nI cn), .ref b9, .ref b10, .ref b11, .ref b12, .ref b13, .int (nI n), .ref b14]))) (f1 : h b9 = some (.inl (E.1 0, 8000, .inl g_cardBytes))) (f2 : h b13 = some (.inl (E.1 0, 400, .inl g_tape))) (hc : cn < 100) (hn : n ≤ 400) : ur_Mi l yF_card wsF_card rmkF_card D vwCl (ur_v E) [.ref q] h (fun r h2 => r = nI (cn + 1) ∧ h2 = va_up (va_up h b9 (some (.inl (E.1 0, 8000, .inl (fo_cb g_cardBytes g_tape n (80 * cn) 80))))) q (some (.inr (7, [.ref b1, .ref b2, .ref b3, .long ti, .ref b4, .ref b5, .ref b6, .ref b7, .int ops, .ref b8, .int (nI (cn + 1)), .ref b9, .ref b10, .ref b11, .ref b12, .ref b13, .int 0, .ref b14])))) 0 0 := by
  intro sz
  refine ur_of (cc := cF_card) (maxL := 3) (ret := (some .int)) (by decide) rfl (Nat.le_of_ble_eq_true rfl) ?_
  intro p e s m args below meth c ls Q hsz hx hb hml hr hlocks hnm hown hts hO hK hI hQ hl
  subst hsz
  have hV := hK.1
  have hts : ∀ w ∈ ur_G, w.before args s = true := fun w hw => hts w (List.mem_cons_of_mem _ hw)
  have hZ : ur_Z E (ur_A h s.heap.size) s s.heap := hO.1
  have hown : s.vm.findClass "UnitRoomModel" = some m.cls := hown
  have hl : lv_has ls 3 [(0, .ref q)] := hl
  refine lv_aload_n hx hb dF_card_0 rfl (lv_at hl 0 rfl) ?_
  refine va_get (D := D) (ci := 7) (v := .int (nI n)) (C := "UnitRoomModel") (T := TF) (N := 18) hx hb hts inF hown hV (ur_one hI.1 f0) 0 rfl rfl 16 (by decide) (hts _ mw593) (fun _ h9 => h9) rfl dF_card_1 ?_
  refine lv_istore_n (lv' := [(1, .int (nI n)), (0, .ref q)]) hx hb dF_card_4 rfl hl (by decide) rfl (fun ls hl => ?_)
  refine lv_aload_n hx hb dF_card_5 rfl (lv_at hl 1 rfl) ?_
  refine lv_iconst (v := 0) hx hb dF_card_6 (by decide) ?_
  refine ur_put (D := D) (ci := 7) (v := .int 0) (ty := .int) (C := "UnitRoomModel") (T := TF) (N := 18) hx hb hts inF tyF tyF_ok nmF hown hV hI f0 rfl 16 (by decide) (hts _ mw593) (fun _ h9 => h9) rfl (by decide +kernel) rfl rfl (Nat.le_of_ble_eq_true rfl) dF_card_7 (fun H locs hI => ?_)
  obtain ⟨h1, eh1⟩ : ∃ z : ur_M, z = va_up h q (some (.inr (7, [.ref b1, .ref b2, .ref b3, .long ti, .ref b4, .ref b5, .ref b6, .ref b7, .int ops, .ref b8, .int (nI cn), .ref b9, .ref b10, .ref b11, .ref b12, .ref b13, .int 0, .ref b14]))) := ⟨_, rfl⟩
  replace hI : ur_I D vwCl (ur_A h s.heap.size) s.heap h1 H locs := by rw [eh1]; exact hI
  have fq2 : h1 q = some (.inr (7, [.ref b1, .ref b2, .ref b3, .long ti, .ref b4, .ref b5, .ref b6, .ref b7, .int ops, .ref b8, .int (nI cn), .ref b9, .ref b10, .ref b11, .ref b12, .ref b13, .int 0, .ref b14])) := by rw [eh1]; exact (va_up_self _ _ _)
  have fq3 : h1 b9 = some (.inl (E.1 0, 8000, .inl g_cardBytes)) := by rw [eh1]; exact ((va_up_ne _ _ (ur_ne f1 f0 (by intro z; simp at z))).trans f1)
  have fq4 : h1 b13 = some (.inl (E.1 0, 400, .inl g_tape)) := by rw [eh1]; exact ((va_up_ne _ _ (ur_ne f2 f0 (by intro z; simp at z))).trans f2)
  refine lv_aload_n hx hb dF_card_10 rfl (lv_at hl 1 rfl) ?_
  refine va_get (D := D) (ci := 7) (v := .int (nI cn)) (C := "UnitRoomModel") (T := TF) (N := 18) hx hb hts inF hown hV (ur_one hI.1 fq2) 0 rfl rfl 10 (by decide) (hts _ mw587) (fun _ h9 => h9) rfl dF_card_11 ?_
  refine lv_bipush (v := 100) hx hb dF_card_14 (by decide) ?_
  refine lv_icmp_ne (tgt := 21) hx hb dF_card_16 (by decide) (fun c5 => ?_) (fun c5 => absurd c5 (fun z9 => absurd ((nI_eq (a := cn) (b := 100) (by omega) (by decide)).mp z9) (by omega)))
  refine lv_iconst (v := 0) hx hb dF_card_21 (by decide) ?_
  refine lv_istore_n (lv' := [(2, .int 0), (1, .int (nI n)), (0, .ref q)]) hx hb dF_card_22 rfl hl (by decide) rfl (fun ls hl => ?_)
  have hq9 : q ≠ b9 := ur_ne f0 f1 (by intro z; simp at z)
  have hq8 : q ≠ b13 := ur_ne f0 f2 (by intro z; simp at z)
  have hcb9 : b9 ≠ b13 := ur_ne f1 f2 (by intro z; simp at z)
  subst eh1
  have lpn6 : ∀ (n6 : Nat) (k : Nat) (hn6 : ur_M) (H : Heap) (locs : List Loc) (ls : Array Slot), 80 - k < n6 → (k ≤ 80) → hn6 = va_up (va_up h q (some (.inr (7, [.ref b1, .ref b2, .ref b3, .long ti, .ref b4, .ref b5, .ref b6, .ref b7, .int ops, .ref b8, .int (nI cn), .ref b9, .ref b10, .ref b11, .ref b12, .ref b13, .int 0, .ref b14])))) b9 (some (.inl (E.1 0, 8000, .inl (fo_cb g_cardBytes g_tape n (80 * cn) k)))) → ur_I D vwCl (ur_A h s.heap.size) s.heap hn6 H locs → lv_has ls 3 [(0, .ref q), (1, .int (nI n)), (2, .int (nI k))] → W p l e rmkF_card s m args below meth c H locs 0 0 Q (F0 m 23 ls []) := by
    intro n6
    induction n6 with
    | zero => intro k hn6 H locs ls hnn6; exact absurd hnn6 (Nat.not_lt_zero _)
    | succ n6 ihn6 =>
      intro k hn6 H locs ls hnn6 hk ehn6 hI hl
      have fq7 : hn6 q = some (.inr (7, [.ref b1, .ref b2, .ref b3, .long ti, .ref b4, .ref b5, .ref b6, .ref b7, .int ops, .ref b8, .int (nI cn), .ref b9, .ref b10, .ref b11, .ref b12, .ref b13, .int 0, .ref b14])) := by rw [ehn6]; exact (va_up_ne _ _ hq9).trans (va_up_self _ _ _)
      have fq8 : hn6 b9 = some (.inl (E.1 0, 8000, .inl (fo_cb g_cardBytes g_tape n (80 * cn) k))) := by rw [ehn6]; exact va_up_self _ _ _
      have fq9 : hn6 b13 = some (.inl (E.1 0, 400, .inl g_tape)) := by rw [ehn6]; exact (va_up_ne _ _ (Ne.symm hcb9)).trans ((va_up_ne _ _ (Ne.symm hq8)).trans f2)
      refine lv_iload_n hx hb dF_card_23 rfl (lv_at hl 2 rfl) ?_
      refine lv_bipush (v := 80) hx hb dF_card_24 (by decide) ?_
      refine lv_icmp_ge (tgt := 65) hx hb dF_card_26 (by decide) (fun c10 => ?_) (fun c10 => ?_)
      · have he9 : k = 80 := Nat.le_antisymm hk (Nat.not_lt.mp (fun z9 => nI_ge (b := 80) z9 (by decide) c10))
        refine lv_aload_n hx hb dF_card_65 rfl (lv_at hl 0 rfl) ?_
        refine lv_dup hx hb dF_card_66 rfl ?_
        refine va_get (D := D) (ci := 7) (v := .int (nI cn)) (C := "UnitRoomModel") (T := TF) (N := 18) hx hb hts inF hown hV (ur_one hI.1 fq7) 0 rfl rfl 10 (by decide) (hts _ mw587) (fun _ h9 => h9) rfl dF_card_67 ?_
        refine lv_iconst (v := 1) hx hb dF_card_70 (by decide) ?_
        refine lv_iadd hx hb dF_card_71 ?_
        refine ur_put (D := D) (ci := 7) (v := .int ((nI cn) + 1)) (ty := .int) (C := "UnitRoomModel") (T := TF) (N := 18) hx hb hts inF tyF tyF_ok nmF hown hV hI fq7 rfl 10 (by decide) (hts _ mw587) (fun _ h9 => h9) rfl (by decide +kernel) rfl rfl (Nat.le_of_ble_eq_true rfl) dF_card_72 (fun H locs hI => ?_)
        obtain ⟨h11, eh11⟩ : ∃ z : ur_M, z = va_up hn6 q (some (.inr (7, [.ref b1, .ref b2, .ref b3, .long ti, .ref b4, .ref b5, .ref b6, .ref b7, .int ops, .ref b8, .int ((nI cn) + 1), .ref b9, .ref b10, .ref b11, .ref b12, .ref b13, .int 0, .ref b14]))) := ⟨_, rfl⟩
        replace hI : ur_I D vwCl (ur_A h s.heap.size) s.heap h11 H locs := by rw [eh11]; exact hI
        have fq12 : h11 q = some (.inr (7, [.ref b1, .ref b2, .ref b3, .long ti, .ref b4, .ref b5, .ref b6, .ref b7, .int ops, .ref b8, .int ((nI cn) + 1), .ref b9, .ref b10, .ref b11, .ref b12, .ref b13, .int 0, .ref b14])) := by rw [eh11]; exact (va_up_self _ _ _)
        have fq13 : h11 b9 = some (.inl (E.1 0, 8000, .inl (fo_cb g_cardBytes g_tape n (80 * cn) k))) := by rw [eh11]; exact ((va_up_ne _ _ (ur_ne fq8 fq7 (by intro z; simp at z))).trans fq8)
        have fq14 : h11 b13 = some (.inl (E.1 0, 400, .inl g_tape)) := by rw [eh11]; exact ((va_up_ne _ _ (ur_ne fq9 fq7 (by intro z; simp at z))).trans fq9)
        refine lv_aload_n hx hb dF_card_75 rfl (lv_at hl 0 rfl) ?_
        refine va_get (D := D) (ci := 7) (v := .int ((nI cn) + 1)) (C := "UnitRoomModel") (T := TF) (N := 18) hx hb hts inF hown hV (ur_one hI.1 fq12) 0 rfl rfl 10 (by decide) (hts _ mw587) (fun _ h9 => h9) rfl dF_card_76 ?_
        exact ur_ri hx hb hr hlocks hI hQ ⟨(nI_1 cn), (by rw [eh11, ehn6, he9, ur_sw hq9, ur_com hq9, nI_1])⟩ dF_card_79
      · have hlt : k < 80 := Nat.not_le.mp (fun z9 => c10 (nI_le z9 (by omega)))
        refine lv_aload_n hx hb dF_card_29 rfl (lv_at hl 0 rfl) ?_
        refine va_get (D := D) (ci := 7) (v := .ref b9) (C := "UnitRoomModel") (T := TF) (N := 18) hx hb hts inF hown hV (ur_one hI.1 fq7) 0 rfl rfl 11 (by decide) (hts _ mw588) (fun _ h9 => h9) rfl dF_card_30 ?_
        refine lv_bipush (v := 80) hx hb dF_card_33 (by decide) ?_
        refine lv_aload_n hx hb dF_card_35 rfl (lv_at hl 0 rfl) ?_
        refine va_get (D := D) (ci := 7) (v := .int (nI cn)) (C := "UnitRoomModel") (T := TF) (N := 18) hx hb hts inF hown hV (ur_one hI.1 fq7) 0 rfl rfl 10 (by decide) (hts _ mw587) (fun _ h9 => h9) rfl dF_card_36 ?_
        refine lv_imul hx hb dF_card_39 ?_
        refine lv_iload_n hx hb dF_card_40 rfl (lv_at hl 2 rfl) ?_
        refine lv_iadd hx hb dF_card_41 ?_
        refine lv_iload_n hx hb dF_card_42 rfl (lv_at hl 2 rfl) ?_
        refine lv_iload_n hx hb dF_card_43 rfl (lv_at hl 1 rfl) ?_
        refine lv_icmp_ge (tgt := 56) hx hb dF_card_44 (by decide) (fun c15 => ?_) (fun c15 => ?_)
        · have hkn : ¬ k < n := fun z9 => nI_ge z9 (by omega) c15
          refine lv_bipush (v := 32) hx hb dF_card_56 (by decide) ?_
          refine ur_iast hx hb hV hI 0 fq8 rfl (by rw [fo_80]; exact vp_in_nI (by omega) (by decide)) dF_card_58 (fun H locs hI => ?_)
          obtain ⟨h16, eh16⟩ : ∃ z : ur_M, z = va_up hn6 b9 (some (.inl (E.1 0, 8000, .inl (upd (fo_cb g_cardBytes g_tape n (80 * cn) k) (Int32.toNatClampNeg ((80 * (nI cn)) + (nI k))) 32)))) := ⟨_, rfl⟩
          replace hI : ur_I D vwCl (ur_A h s.heap.size) s.heap h16 H locs := by rw [eh16]; exact hI
          have fq17 : h16 q = some (.inr (7, [.ref b1, .ref b2, .ref b3, .long ti, .ref b4, .ref b5, .ref b6, .ref b7, .int ops, .ref b8, .int (nI cn), .ref b9, .ref b10, .ref b11, .ref b12, .ref b13, .int 0, .ref b14])) := by rw [eh16]; exact ((va_up_ne _ _ (ur_ne fq7 fq8 (by intro z; simp at z))).trans fq7)
          have fq18 : h16 b9 = some (.inl (E.1 0, 8000, .inl (upd (fo_cb g_cardBytes g_tape n (80 * cn) k) (Int32.toNatClampNeg ((80 * (nI cn)) + (nI k))) 32))) := by rw [eh16]; exact (va_up_self _ _ _)
          have fq19 : h16 b13 = some (.inl (E.1 0, 400, .inl g_tape)) := by rw [eh16]; exact ((va_up_ne _ _ (ur_ne fq9 fq8 (by intro z; simp at z))).trans fq9)
          refine lv_iinc (v := ((nI k) + 1)) (lv' := [(2, .int ((nI k) + 1)), (0, .ref q), (1, .int (nI n))]) hx hb dF_card_59 hl (k := 2) rfl rfl (by decide) rfl (fun ls hl => ?_)
          refine lv_goto (tgt := 23) hx hb dF_card_62 (by decide) ?_
          rw [nI_1] at hl
          exact ihn6 (k + 1) h16 H locs ls (by omega) hlt (by rw [eh16, ehn6, bx_uu, fo_80, nI_clamp (show 80 * cn + k < 2 ^ 31 by omega), ← fo_cb_succ, if_neg hkn]) hI (lv_sub hl [1, 2, 0] rfl)
        · have hkn : k < n := Nat.not_le.mp (fun z9 => c15 (nI_le z9 (by omega)))
          refine lv_aload_n hx hb dF_card_47 rfl (lv_at hl 0 rfl) ?_
          refine va_get (D := D) (ci := 7) (v := .ref b13) (C := "UnitRoomModel") (T := TF) (N := 18) hx hb hts inF hown hV (ur_one hI.1 fq7) 0 rfl rfl 15 (by decide) (hts _ mw592) (fun _ h9 => h9) rfl dF_card_48 ?_
          refine lv_iload_n hx hb dF_card_51 rfl (lv_at hl 2 rfl) ?_
          refine va_iald hx hb hV (ur_one hI.1 fq9) 0 0 rfl rfl (vp_in_nI (by omega) (by decide)) dF_card_52 ?_
          refine lv_goto (tgt := 58) hx hb dF_card_53 (by decide) ?_
          refine ur_iast hx hb hV hI 0 fq8 rfl (by rw [fo_80]; exact vp_in_nI (by omega) (by decide)) dF_card_58 (fun H locs hI => ?_)
          obtain ⟨h20, eh20⟩ : ∃ z : ur_M, z = va_up hn6 b9 (some (.inl (E.1 0, 8000, .inl (upd (fo_cb g_cardBytes g_tape n (80 * cn) k) (Int32.toNatClampNeg ((80 * (nI cn)) + (nI k))) (g_tape (Int32.toNatClampNeg (nI k))))))) := ⟨_, rfl⟩
          replace hI : ur_I D vwCl (ur_A h s.heap.size) s.heap h20 H locs := by rw [eh20]; exact hI
          have fq21 : h20 q = some (.inr (7, [.ref b1, .ref b2, .ref b3, .long ti, .ref b4, .ref b5, .ref b6, .ref b7, .int ops, .ref b8, .int (nI cn), .ref b9, .ref b10, .ref b11, .ref b12, .ref b13, .int 0, .ref b14])) := by rw [eh20]; exact ((va_up_ne _ _ (ur_ne fq7 fq8 (by intro z; simp at z))).trans fq7)
          have fq22 : h20 b9 = some (.inl (E.1 0, 8000, .inl (upd (fo_cb g_cardBytes g_tape n (80 * cn) k) (Int32.toNatClampNeg ((80 * (nI cn)) + (nI k))) (g_tape (Int32.toNatClampNeg (nI k)))))) := by rw [eh20]; exact (va_up_self _ _ _)
          have fq23 : h20 b13 = some (.inl (E.1 0, 400, .inl g_tape)) := by rw [eh20]; exact ((va_up_ne _ _ (ur_ne fq9 fq8 (by intro z; simp at z))).trans fq9)
          refine lv_iinc (v := ((nI k) + 1)) (lv' := [(2, .int ((nI k) + 1)), (0, .ref q), (1, .int (nI n))]) hx hb dF_card_59 hl (k := 2) rfl rfl (by decide) rfl (fun ls hl => ?_)
          refine lv_goto (tgt := 23) hx hb dF_card_62 (by decide) ?_
          rw [nI_1] at hl
          exact ihn6 (k + 1) h20 H locs ls (by omega) hlt (by rw [eh20, ehn6, bx_uu, fo_80, nI_clamp (show 80 * cn + k < 2 ^ 31 by omega), ← fo_cb_succ, if_pos hkn]; rw [nI_clamp (show k < 2 ^ 31 by omega)]) hI (lv_sub hl [1, 2, 0] rfl)
  exact lpn6 _ 0 (va_up h q (some (.inr (7, [.ref b1, .ref b2, .ref b3, .long ti, .ref b4, .ref b5, .ref b6, .ref b7, .int ops, .ref b8, .int (nI cn), .ref b9, .ref b10, .ref b11, .ref b12, .ref b13, .int 0, .ref b14])))) _ _ ls (Nat.lt_succ_self _) (by decide) ((by rw [fo_cb_0]; exact (ur_same ((va_up_ne _ _ (Ne.symm hq9)).trans f1)).symm)) hI (lv_sub hl [2, 1, 0] rfl)
abbrev rmkF_cardF : Room := { frames := 0, cells := 0, slots := 0, locals := 0 }
set_option maxHeartbeats 4000000 in
set_option maxRecDepth 100000 in
theorem kF_cardF (l : Launch) (D : va_G) (E : ur_Ev) (h : ur_M) (q : Nat) (b1 : Nat) (b2 : Nat) (b3 : Nat) (b4 : Nat) (b5 : Nat) (b6 : Nat) (b7 : Nat) (b8 : Nat) (b9 : Nat) (b10 : Nat) (b11 : Nat) (b12 : Nat) (b13 : Nat) (b14 : Nat) (ti : Int64) (ops : Int32) (cn : Nat) (n : Nat) (g_cardBytes : Nat → Int32) (g_tape : Nat → Int32) (f0 : h q = some (.inr (7, [.ref b1, .ref b2, .ref b3, .long ti, .ref b4, .ref b5, .ref b6, .ref b7, .int ops, .ref b8, .int (nI cn), .ref b9, .ref b10, .ref b11, .ref b12, .ref b13, .int (nI n), .ref b14]))) (f1 : h b9 = some (.inl (E.1 0, 8000, .inl g_cardBytes))) (f2 : h b13 = some (.inl (E.1 0, 400, .inl g_tape))) (hc : cn = 100) : ur_Mi l yF_card wsF_card rmkF_cardF D vwCl (ur_v E) [.ref q] h (fun r h2 => r = (-1) ∧ h2 = va_up h q (some (.inr (7, [.ref b1, .ref b2, .ref b3, .long ti, .ref b4, .ref b5, .ref b6, .ref b7, .int ops, .ref b8, .int (nI cn), .ref b9, .ref b10, .ref b11, .ref b12, .ref b13, .int 0, .ref b14])))) 0 0 := by
  intro sz
  refine ur_of (cc := cF_card) (maxL := 3) (ret := (some .int)) (by decide) rfl (Nat.le_of_ble_eq_true rfl) ?_
  intro p e s m args below meth c ls Q hsz hx hb hml hr hlocks hnm hown hts hO hK hI hQ hl
  subst hsz
  have hV := hK.1
  have hts : ∀ w ∈ ur_G, w.before args s = true := fun w hw => hts w (List.mem_cons_of_mem _ hw)
  have hZ : ur_Z E (ur_A h s.heap.size) s s.heap := hO.1
  have hown : s.vm.findClass "UnitRoomModel" = some m.cls := hown
  have hl : lv_has ls 3 [(0, .ref q)] := hl
  refine lv_aload_n hx hb dF_card_0 rfl (lv_at hl 0 rfl) ?_
  refine va_get (D := D) (ci := 7) (v := .int (nI n)) (C := "UnitRoomModel") (T := TF) (N := 18) hx hb hts inF hown hV (ur_one hI.1 f0) 0 rfl rfl 16 (by decide) (hts _ mw593) (fun _ h9 => h9) rfl dF_card_1 ?_
  refine lv_istore_n (lv' := [(1, .int (nI n)), (0, .ref q)]) hx hb dF_card_4 rfl hl (by decide) rfl (fun ls hl => ?_)
  refine lv_aload_n hx hb dF_card_5 rfl (lv_at hl 1 rfl) ?_
  refine lv_iconst (v := 0) hx hb dF_card_6 (by decide) ?_
  refine ur_put (D := D) (ci := 7) (v := .int 0) (ty := .int) (C := "UnitRoomModel") (T := TF) (N := 18) hx hb hts inF tyF tyF_ok nmF hown hV hI f0 rfl 16 (by decide) (hts _ mw593) (fun _ h9 => h9) rfl (by decide +kernel) rfl rfl (Nat.le_of_ble_eq_true rfl) dF_card_7 (fun H locs hI => ?_)
  obtain ⟨h1, eh1⟩ : ∃ z : ur_M, z = va_up h q (some (.inr (7, [.ref b1, .ref b2, .ref b3, .long ti, .ref b4, .ref b5, .ref b6, .ref b7, .int ops, .ref b8, .int (nI cn), .ref b9, .ref b10, .ref b11, .ref b12, .ref b13, .int 0, .ref b14]))) := ⟨_, rfl⟩
  replace hI : ur_I D vwCl (ur_A h s.heap.size) s.heap h1 H locs := by rw [eh1]; exact hI
  have fq2 : h1 q = some (.inr (7, [.ref b1, .ref b2, .ref b3, .long ti, .ref b4, .ref b5, .ref b6, .ref b7, .int ops, .ref b8, .int (nI cn), .ref b9, .ref b10, .ref b11, .ref b12, .ref b13, .int 0, .ref b14])) := by rw [eh1]; exact (va_up_self _ _ _)
  have fq3 : h1 b9 = some (.inl (E.1 0, 8000, .inl g_cardBytes)) := by rw [eh1]; exact ((va_up_ne _ _ (ur_ne f1 f0 (by intro z; simp at z))).trans f1)
  have fq4 : h1 b13 = some (.inl (E.1 0, 400, .inl g_tape)) := by rw [eh1]; exact ((va_up_ne _ _ (ur_ne f2 f0 (by intro z; simp at z))).trans f2)
  refine lv_aload_n hx hb dF_card_10 rfl (lv_at hl 1 rfl) ?_
  refine va_get (D := D) (ci := 7) (v := .int (nI cn)) (C := "UnitRoomModel") (T := TF) (N := 18) hx hb hts inF hown hV (ur_one hI.1 fq2) 0 rfl rfl 10 (by decide) (hts _ mw587) (fun _ h9 => h9) rfl dF_card_11 ?_
  refine lv_bipush (v := 100) hx hb dF_card_14 (by decide) ?_
  refine lv_icmp_ne (tgt := 21) hx hb dF_card_16 (by decide) (fun c5 => absurd c5 (not_not_intro (by rw [hc]; rfl))) (fun c5 => ?_)
  refine lv_iconst (v := (-1)) hx hb dF_card_19 (by decide) ?_
  exact ur_ri hx hb hr hlocks hI hQ ⟨(by first | (simp only [c5, ↓reduceIte]; done) | (simp only [c5, ↓reduceIte]; rfl) | rfl), (by first | rfl | rw [eh1])⟩ dF_card_20
