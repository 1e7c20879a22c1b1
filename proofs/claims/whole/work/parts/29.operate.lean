theorem dU_operate_0 : decode cU_operate 0 = .ok (.aload_n 0, 1) := by decide +kernel
theorem dU_operate_1 : decode cU_operate 1 = .ok (.iload_n 1, 1) := by decide +kernel
theorem dU_operate_2 : decode cU_operate 2 = .ok (.invokevirtual 83, 3) := by decide +kernel
theorem dU_operate_5 : decode cU_operate 5 = .ok (.astore 5, 2) := by decide +kernel
theorem dU_operate_7 : decode cU_operate 7 = .ok (.aload_n 0, 1) := by decide +kernel
theorem dU_operate_8 : decode cU_operate 8 = .ok (.aload 5, 2) := by decide +kernel
theorem dU_operate_10 : decode cU_operate 10 = .ok (.iload_n 2, 1) := by decide +kernel
theorem dU_operate_11 : decode cU_operate 11 = .ok (.iload_n 3, 1) := by decide +kernel
theorem dU_operate_12 : decode cU_operate 12 = .ok (.iload 4, 2) := by decide +kernel
theorem dU_operate_14 : decode cU_operate 14 = .ok (.invokevirtual 87, 3) := by decide +kernel
theorem dU_operate_17 : decode cU_operate 17 = .ok (.istore 6, 2) := by decide +kernel
theorem dU_operate_19 : decode cU_operate 19 = .ok (.iload 6, 2) := by decide +kernel
theorem dU_operate_21 : decode cU_operate 21 = .ok (.ifCond .ne 8, 3) := by decide +kernel
theorem dU_operate_24 : decode cU_operate 24 = .ok (.aload 5, 2) := by decide +kernel
theorem dU_operate_26 : decode cU_operate 26 = .ok (.ifnonnull 6, 3) := by decide +kernel
theorem dU_operate_29 : decode cU_operate 29 = .ok (.iload 6, 2) := by decide +kernel
theorem dU_operate_31 : decode cU_operate 31 = .ok (.ireturn, 1) := by decide +kernel
theorem dU_operate_32 : decode cU_operate 32 = .ok (.aload_n 0, 1) := by decide +kernel
theorem dU_operate_33 : decode cU_operate 33 = .ok (.aload_n 0, 1) := by decide +kernel
theorem dU_operate_34 : decode cU_operate 34 = .ok (.getfield 47, 3) := by decide +kernel
theorem dU_operate_37 : decode cU_operate 37 = .ok (.aload 5, 2) := by decide +kernel
theorem dU_operate_39 : decode cU_operate 39 = .ok (.getfield 91, 3) := by decide +kernel
theorem dU_operate_42 : decode cU_operate 42 = .ok (.invokestatic 94, 3) := by decide +kernel
theorem dU_operate_45 : decode cU_operate 45 = .ok (.invokevirtual 100, 3) := by decide +kernel
theorem dU_operate_48 : decode cU_operate 48 = .ok (.aload_n 0, 1) := by decide +kernel
theorem dU_operate_49 : decode cU_operate 49 = .ok (.dup, 1) := by decide +kernel
theorem dU_operate_50 : decode cU_operate 50 = .ok (.getfield 51, 3) := by decide +kernel
theorem dU_operate_53 : decode cU_operate 53 = .ok (.iconst 1, 1) := by decide +kernel
theorem dU_operate_54 : decode cU_operate 54 = .ok (.iadd, 1) := by decide +kernel
theorem dU_operate_55 : decode cU_operate 55 = .ok (.putfield 51, 3) := by decide +kernel
theorem dU_operate_58 : decode cU_operate 58 = .ok (.aload 5, 2) := by decide +kernel
theorem dU_operate_60 : decode cU_operate 60 = .ok (.aload_n 0, 1) := by decide +kernel
theorem dU_operate_61 : decode cU_operate 61 = .ok (.getfield 47, 3) := by decide +kernel
theorem dU_operate_64 : decode cU_operate 64 = .ok (.aload_n 0, 1) := by decide +kernel
theorem dU_operate_65 : decode cU_operate 65 = .ok (.getfield 51, 3) := by decide +kernel
theorem dU_operate_68 : decode cU_operate 68 = .ok (.invokevirtual 104, 3) := by decide +kernel
theorem dU_operate_71 : decode cU_operate 71 = .ok (.aload 5, 2) := by decide +kernel
theorem dU_operate_73 : decode cU_operate 73 = .ok (.iload_n 2, 1) := by decide +kernel
theorem dU_operate_74 : decode cU_operate 74 = .ok (.iload_n 3, 1) := by decide +kernel
theorem dU_operate_75 : decode cU_operate 75 = .ok (.iload 4, 2) := by decide +kernel
theorem dU_operate_77 : decode cU_operate 77 = .ok (.aload_n 0, 1) := by decide +kernel
theorem dU_operate_78 : decode cU_operate 78 = .ok (.getfield 10, 3) := by decide +kernel
theorem dU_operate_81 : decode cU_operate 81 = .ok (.invokevirtual 108, 3) := by decide +kernel
theorem dU_operate_84 : decode cU_operate 84 = .ok (.iconst 0, 1) := by decide +kernel
theorem dU_operate_85 : decode cU_operate 85 = .ok (.ireturn, 1) := by decide +kernel
abbrev rmkU_op : Room := { frames := 7, cells := 1, slots := 120, locals := 153 }
set_option maxHeartbeats 4000000 in
set_option maxRecDepth 100000 in
theorem kU_op (l : Launch) (D : va_G) (E : ur_Ev) (h : ur_M) (a : um_Ad) (S : um_S) (u : Int32) (op : Int32) (mv : Int32) (x : Int32)  (hR : um_R E a S h) (hB : um_Bd S) (hA : um_A a S) (hOk : um_Ok S) (hnow : ∀ d, S.1 d 4 < 2 ^ 30) (hnow2 : S.1 20 2 < 2 ^ 30) : ur_Mi l yU_operate wsU_operate rmkU_op D vwCl (ur_v E) [.ref (a.1 20 0), .int u, .int op, .int mv, .int x] h (fun r h2 => r = um_opr S u op mv x ∧ ∃ a' : um_Ad, a'.1 20 0 = a.1 20 0 ∧ um_A a' (um_opS S u op mv x) ∧ um_R E a' (um_opS S u op mv x) h2) 1 120 := by
  intro sz
  refine ur_of (cc := cU_operate) (maxL := 7) (ret := (some .int)) (by decide) rfl (Nat.le_of_ble_eq_true rfl) ?_
  intro p e s m args below meth c ls Q hsz hx hb hml hr hlocks hnm hown hts hO hK hI hQ hl
  subst hsz
  have hV := hK.1
  have hts : ∀ w ∈ ur_G, w.before args s = true := fun w hw => hts w (List.mem_cons_of_mem _ hw)
  have hZ : ur_Z E (ur_A h s.heap.size) s s.heap := hO.1
  have hown : s.vm.findClass "UnitRoom" = some m.cls := hown
  have hl : lv_has ls 7 [(0, .ref (a.1 20 0)), (1, .int u), (2, .int op), (3, .int mv), (4, .int x)] := hl
  have g0 : h (a.1 20 0) = some (.inr (0, [.ref (a.1 20 1), .ref (a.1 20 3), .ref (a.1 16 0), .ref (a.1 20 5), .long (lN (S.1 20 2)), .int (nI (S.1 20 0))])) := hR.core rfl
  have g5 : h (a.1 20 5) = some (.inl (E.1 2, 20, .inr (.inr (.inr (.inr (um_devs a)))))) := hR.core rfl
  refine lv_aload_n hx hb dU_operate_0 rfl (lv_at hl 0 rfl) ?_
  refine lv_iload_n hx hb dU_operate_1 rfl (lv_at hl 1 rfl) ?_
  refine ur_xq (va_runV (As := [.int u]) (rest := []) ⟨hx, hb, hml, hown, hts⟩ (kU_dev l D E h (a.1 20 0) (a.1 20 1) (a.1 20 3) (a.1 16 0) (a.1 20 5) (lN (S.1 20 2)) (nI (S.1 20 0)) (um_devs a) u g0 g5 s.heap.size) (cwV 1 hts (ur_gV mw243 mw245 ms0 mw1 mw246) rfl rfl rfl (by decide +kernel) ⟨(Nat.le_of_ble_eq_true rfl), (Nat.le_of_ble_eq_true rfl)⟩) ⟨ur_blind, va_recv hV (ur_one hI.1 g0) (ci := 0) (q0 := 0) rfl rfl, ur_pre hI hO hK (fun _ _ q => q)⟩ rfl rfl hl.1 rfl (lv_room (Nat.le_of_ble_eq_true rfl)) dU_operate_2 ⟨Nat.le_of_ble_eq_true rfl, Nat.le_of_ble_eq_true rfl⟩) hI (fun r1 h1 H locs p1 hI => ?_)
  obtain ⟨er1, eh1⟩ := p1
  replace eh1 := eh1.symm; subst eh1
  replace er1 := er1.symm; subst er1
  rw [um_dvo_un]
  rcases hun : um_un u with _ | d
  · refine lv_astoreN (lv' := [(5, .null), (0, .ref (a.1 20 0)), (1, .int u), (2, .int op), (3, .int mv), (4, .int x)]) hx hb dU_operate_5 hl (by decide) rfl (fun ls hl => ?_)
    refine lv_aload_n hx hb dU_operate_7 rfl (lv_at hl 1 rfl) ?_
    refine lv_aloadN hx hb dU_operate_8 (lv_at hl 0 rfl) ?_
    refine lv_iload_n hx hb dU_operate_10 rfl (lv_at hl 3 rfl) ?_
    refine lv_iload_n hx hb dU_operate_11 rfl (lv_at hl 4 rfl) ?_
    refine lv_iload hx hb dU_operate_12 (lv_at hl 5 rfl) ?_
    refine ur_xi (va_runV (As := [.null, .int op, .int mv, .int x]) (rest := []) ⟨hx, hb, hml, hown, hts⟩ (kU_fltN l D E h a S op mv x (by first | assumption | omega | decide) (by first | assumption | omega | decide) H.size) (cwV 4 hts (ur_gV mw247 mw249 ms1 mw1 mw250) rfl rfl rfl (by decide +kernel) ⟨(Nat.le_of_ble_eq_true rfl), (Nat.le_of_ble_eq_true rfl)⟩) ⟨ur_blind, va_recv hV (ur_one hI.1 g0) (ci := 0) (q0 := 0) rfl rfl, ur_pre hI hO hK (fun _ _ q => q)⟩ rfl rfl hl.1 rfl (lv_room (Nat.le_of_ble_eq_true rfl)) dU_operate_14 ⟨Nat.le_of_ble_eq_true rfl, Nat.le_of_ble_eq_true rfl⟩) hI (fun r2 h2 H locs p2 hI => ?_)
    obtain ⟨er2, eh2⟩ := p2
    replace eh2 := eh2.symm; subst eh2
    replace er2 := er2.symm; subst er2
    refine lv_istore (lv' := [(6, .int (um_fltN op mv)), (5, .null), (0, .ref (a.1 20 0)), (1, .int u), (2, .int op), (3, .int mv), (4, .int x)]) hx hb dU_operate_17 hl (by decide) rfl (fun ls hl => ?_)
    refine lv_iload hx hb dU_operate_19 (lv_at hl 0 rfl) ?_
    refine lv_if_ne (tgt := 29) hx hb dU_operate_21 (by decide) (fun c3 => ?_) (fun c3 => ?_)
    · refine lv_iload hx hb dU_operate_29 (lv_at hl 0 rfl) ?_
      refine W.widen (k := 1) (n := 120) (by omega) (by omega) ?_
      exact ur_ri hx hb hr hlocks hI hQ ⟨(um_opr_none hun).symm, a, rfl, (by rw [um_opS_none hun]; exact ⟨hA, hR⟩)⟩ dU_operate_31
    · refine lv_aloadN hx hb dU_operate_24 (lv_at hl 1 rfl) ?_
      refine lv_ifnonnullN hx hb dU_operate_26 ?_
      refine lv_iload hx hb dU_operate_29 (lv_at hl 0 rfl) ?_
      refine W.widen (k := 1) (n := 120) (by omega) (by omega) ?_
      exact ur_ri hx hb hr hlocks hI hQ ⟨(um_opr_none hun).symm, a, rfl, (by rw [um_opS_none hun]; exact ⟨hA, hR⟩)⟩ dU_operate_31
  · obtain ⟨hk9, hu9⟩ := um_un_k hun
    have gu : h (a.1 d 0) = some (.inr ((um_ci d), .int (nI (um_words d)) :: .ref (a.1 d 1) :: .int (nI (um_dur d)) :: .long (lN (S.1 d 4)) :: .int (nI (S.1 d 0)) :: .int (nI (S.1 d 1)) :: .int (nI (S.1 d 5)) :: um_tl a S d)) := hR.dev hk9
    refine lv_astore (lv' := [(5, .ref (a.1 d 0)), (0, .ref (a.1 20 0)), (1, .int u), (2, .int op), (3, .int mv), (4, .int x)]) hx hb dU_operate_5 hl (by decide) rfl (fun ls hl => ?_)
    refine lv_aload_n hx hb dU_operate_7 rfl (lv_at hl 1 rfl) ?_
    refine lv_aload hx hb dU_operate_8 (lv_at hl 0 rfl) ?_
    refine lv_iload_n hx hb dU_operate_10 rfl (lv_at hl 3 rfl) ?_
    refine lv_iload_n hx hb dU_operate_11 rfl (lv_at hl 4 rfl) ?_
    refine lv_iload hx hb dU_operate_12 (lv_at hl 5 rfl) ?_
    refine ur_xi (va_runV (As := [.ref (a.1 d 0), .int op, .int mv, .int x]) (rest := []) ⟨hx, hb, hml, hown, hts⟩ (kU_flt l D E h a S d op mv x (by first | assumption | omega | decide) (by first | assumption | omega | decide) hk9 H.size) (cwV 4 hts (ur_gV mw247 mw249 ms1 mw1 mw250) rfl rfl rfl (by decide +kernel) ⟨(Nat.le_of_ble_eq_true rfl), (Nat.le_of_ble_eq_true rfl)⟩) ⟨ur_blind, va_recv hV (ur_one hI.1 g0) (ci := 0) (q0 := 0) rfl rfl, ur_pre hI hO hK (fun _ _ q => q)⟩ rfl rfl hl.1 rfl (lv_room (Nat.le_of_ble_eq_true rfl)) dU_operate_14 ⟨Nat.le_of_ble_eq_true rfl, Nat.le_of_ble_eq_true rfl⟩) hI (fun r4 h4 H locs p4 hI => ?_)
    obtain ⟨er4, eh4⟩ := p4
    replace eh4 := eh4.symm; subst eh4
    replace er4 := er4.symm; subst er4
    refine lv_istore (lv' := [(6, .int (um_flt S d op mv x)), (5, .ref (a.1 d 0)), (0, .ref (a.1 20 0)), (1, .int u), (2, .int op), (3, .int mv), (4, .int x)]) hx hb dU_operate_17 hl (by decide) rfl (fun ls hl => ?_)
    refine lv_iload hx hb dU_operate_19 (lv_at hl 0 rfl) ?_
    refine lv_if_ne (tgt := 29) hx hb dU_operate_21 (by decide) (fun c5 => ?_) (fun c5 => ?_)
    · refine lv_iload hx hb dU_operate_29 (lv_at hl 0 rfl) ?_
      refine W.widen (k := 1) (n := 120) (by omega) (by omega) ?_
      exact ur_ri hx hb hr hlocks hI hQ ⟨(um_opr_some hun).symm, a, rfl, (by rw [um_opS_some hun, if_neg c5]; exact ⟨hA, hR⟩)⟩ dU_operate_31
    · refine lv_aload hx hb dU_operate_24 (lv_at hl 1 rfl) ?_
      refine lv_ifnonnull (tgt := 32) hx hb dU_operate_26 (by decide) ?_
      have hf0 := c5
      obtain ⟨hop, hho, hdf⟩ := um_flt_0 hf0
      refine lv_aload_n hx hb dU_operate_32 rfl (lv_at hl 2 rfl) ?_
      refine lv_aload_n hx hb dU_operate_33 rfl (lv_at hl 2 rfl) ?_
      refine va_get (D := D) (ci := 0) (v := .long (lN (S.1 20 2))) (C := "UnitRoom") (T := TU) (N := 6) hx hb hts inU hown hV (ur_one hI.1 g0) 0 rfl rfl 4 (by decide) (hts _ mw174) (fun _ h9 => h9) rfl dU_operate_34 ?_
      refine lv_aload hx hb dU_operate_37 (lv_at hl 1 rfl) ?_
      refine ur_gD3 hx hb hts hown hV hI (um_ci_D d) gu (hts _ mw77) (fun _ h9 => h9) dU_operate_39 ?_
      refine va_mmax_long hx hb (hml.trans hl.1.symm) hown (hts _ mw266) (hts _ mw267) (hts _ mw6) (hts _ mw268) (Nat.le_of_ble_eq_true rfl) (Nat.le_of_ble_eq_true rfl) (Nat.le_of_ble_eq_true rfl) (Nat.le_of_ble_eq_true rfl) dU_operate_42 ?_
      rw [um_max (hB 20 2) (hB d 4)]
      have hmx : max (S.1 20 2) (S.1 d 4) < 2 ^ 30 := Nat.max_lt.mpr ⟨hnow2, hnow d⟩
      refine ur_xv (va_runV (As := [.long (lN (max (S.1 20 2) (S.1 d 4)))]) (rest := []) ⟨hx, hb, hml, hown, hts⟩ (kU_go l D E h a S (max (S.1 20 2) (S.1 d 4)) (by first | assumption | omega | decide) (by first | assumption | omega | decide) (by omega) H.size) (cwV 1 hts (ur_gV mw269 mw271 ms2 mw1 mw272) rfl rfl rfl (by decide +kernel) ⟨(Nat.le_of_ble_eq_true rfl), (Nat.le_of_ble_eq_true rfl)⟩) ⟨ur_blind, va_recv hV (ur_one hI.1 g0) (ci := 0) (q0 := 0) rfl rfl, ur_pre hI hO hK (fun _ _ q => q)⟩ rfl rfl hl.1 rfl (lv_room (Nat.le_of_ble_eq_true rfl)) dU_operate_45 ⟨Nat.le_of_ble_eq_true rfl, Nat.le_of_ble_eq_true rfl⟩) hI (fun h6 H locs p6 hI => ?_)
      have hT : um_R E a (um_goTo S (max (S.1 20 2) (S.1 d 4))) h6 := p6
      generalize hTe : um_goTo S (max (S.1 20 2) (S.1 d 4)) = T at hT
      have g0 : h6 (a.1 20 0) = some (.inr (0, [.ref (a.1 20 1), .ref (a.1 20 3), .ref (a.1 16 0), .ref (a.1 20 5), .long (lN (T.1 20 2)), .int (nI (T.1 20 0))])) := hT.core rfl
      refine lv_aload_n hx hb dU_operate_48 rfl (lv_at hl 2 rfl) ?_
      refine lv_dup hx hb dU_operate_49 rfl ?_
      refine va_get (D := D) (ci := 0) (v := .int (nI (T.1 20 0))) (C := "UnitRoom") (T := TU) (N := 6) hx hb hts inU hown hV (ur_one hI.1 g0) 0 rfl rfl 5 (by decide) (hts _ mw175) (fun _ h9 => h9) rfl dU_operate_50 ?_
      refine lv_iconst (v := 1) hx hb dU_operate_53 (by decide) ?_
      refine lv_iadd hx hb dU_operate_54 ?_
      refine ur_put (D := D) (ci := 0) (v := .int ((nI (T.1 20 0)) + 1)) (ty := .int) (C := "UnitRoom") (T := TU) (N := 6) hx hb hts inU tyU tyU_ok nmU hown hV hI g0 rfl 5 (by decide) (hts _ mw175) (fun _ h9 => h9) rfl (by decide +kernel) rfl rfl (Nat.le_of_ble_eq_true rfl) dU_operate_55 (fun H locs hI => ?_)
      obtain ⟨h7, eh7⟩ : ∃ z : ur_M, z = va_up h6 (a.1 20 0) (some (.inr (0, [.ref (a.1 20 1), .ref (a.1 20 3), .ref (a.1 16 0), .ref (a.1 20 5), .long (lN (T.1 20 2)), .int ((nI (T.1 20 0)) + 1)]))) := ⟨_, rfl⟩
      replace hI : ur_I D vwCl (ur_A h s.heap.size) s.heap h7 H locs := by rw [eh7]; exact hI
      have fq8 : h7 (a.1 20 0) = some (.inr (0, [.ref (a.1 20 1), .ref (a.1 20 3), .ref (a.1 16 0), .ref (a.1 20 5), .long (lN (T.1 20 2)), .int ((nI (T.1 20 0)) + 1)])) := by rw [eh7]; exact (va_up_self _ _ _)
      have hT2 : um_R E a (um_sA T 20 0 (T.1 20 0 + 1)) h7 := by rw [eh7]; exact hT.time (by decide) (by show some _ = some _; simp [um_sA, nI_succ])
      have g0 : h7 (a.1 20 0) = some (.inr (0, [.ref (a.1 20 1), .ref (a.1 20 3), .ref (a.1 16 0), .ref (a.1 20 5), .long (lN ((um_sA T 20 0 (T.1 20 0 + 1)).1 20 2)), .int (nI ((um_sA T 20 0 (T.1 20 0 + 1)).1 20 0))])) := hT2.core rfl
      have gu : h7 (a.1 d 0) = some (.inr ((um_ci d), .int (nI (um_words d)) :: .ref (a.1 d 1) :: .int (nI (um_dur d)) :: .long (lN ((um_sA T 20 0 (T.1 20 0 + 1)).1 d 4)) :: .int (nI ((um_sA T 20 0 (T.1 20 0 + 1)).1 d 0)) :: .int (nI ((um_sA T 20 0 (T.1 20 0 + 1)).1 d 1)) :: .int (nI ((um_sA T 20 0 (T.1 20 0 + 1)).1 d 5)) :: um_tl a (um_sA T 20 0 (T.1 20 0 + 1)) d)) := hT2.dev hk9
      refine lv_aload hx hb dU_operate_58 (lv_at hl 1 rfl) ?_
      refine lv_aload_n hx hb dU_operate_60 rfl (lv_at hl 2 rfl) ?_
      refine va_get (D := D) (ci := 0) (v := .long (lN ((um_sA T 20 0 (T.1 20 0 + 1)).1 20 2))) (C := "UnitRoom") (T := TU) (N := 6) hx hb hts inU hown hV (ur_one hI.1 g0) 0 rfl rfl 4 (by decide) (hts _ mw174) (fun _ h9 => h9) rfl dU_operate_61 ?_
      refine lv_aload_n hx hb dU_operate_64 rfl (lv_at hl 2 rfl) ?_
      refine va_get (D := D) (ci := 0) (v := .int (nI ((um_sA T 20 0 (T.1 20 0 + 1)).1 20 0))) (C := "UnitRoom") (T := TU) (N := 6) hx hb hts inU hown hV (ur_one hI.1 g0) 0 rfl rfl 5 (by decide) (hts _ mw175) (fun _ h9 => h9) rfl dU_operate_65 ?_
      obtain ⟨qc9, hqc9, hcw9⟩ := cu_begin (R := rmkU_op) hts (um_ci_D d) ⟨(Nat.le_of_ble_eq_true rfl), (Nat.le_of_ble_eq_true rfl)⟩
      refine ur_xv (va_runU (As := [.long (lN ((um_sA T 20 0 (T.1 20 0 + 1)).1 20 2)), .int (nI ((um_sA T 20 0 (T.1 20 0 + 1)).1 20 0))]) (rest := []) ⟨hx, hb, hml, hown, hts⟩ (kD_begin l D E h7 (a.1 d 0) (um_ci d) (a.1 d 1) (nI (um_words d)) (nI (um_dur d)) (nI ((um_sA T 20 0 (T.1 20 0 + 1)).1 d 0)) (nI ((um_sA T 20 0 (T.1 20 0 + 1)).1 d 1)) (nI ((um_sA T 20 0 (T.1 20 0 + 1)).1 d 5)) (lN ((um_sA T 20 0 (T.1 20 0 + 1)).1 d 4)) (um_tl a (um_sA T 20 0 (T.1 20 0 + 1)) d) (lN ((um_sA T 20 0 (T.1 20 0 + 1)).1 20 2)) (nI ((um_sA T 20 0 (T.1 20 0 + 1)).1 20 0)) gu (um_ci_D d) H.size) hcw9 ⟨ur_blind, va_recv hV (ur_one hI.1 gu) (q0 := 0) hqc9 rfl, ur_pre hI hO hK (fun _ _ q => q)⟩ rfl rfl hl.1 rfl (lv_room (Nat.le_of_ble_eq_true rfl)) dU_operate_68 ⟨Nat.le_of_ble_eq_true rfl, Nat.le_of_ble_eq_true rfl⟩) hI (fun h10 H locs p10 hI => ?_)
      have hG : um_R E a (um_bgn S d) h10 := um_R.begin hT2 hk9 hTe p10
      have g0 : h10 (a.1 20 0) = some (.inr (0, [.ref (a.1 20 1), .ref (a.1 20 3), .ref (a.1 16 0), .ref (a.1 20 5), .long (lN ((um_bgn S d).1 20 2)), .int (nI ((um_bgn S d).1 20 0))])) := hG.core rfl
      have gm : h10 (a.1 20 1) = some (.inr (1, [.ref (a.1 20 2)])) := hG.core rfl
      have gc : h10 (a.1 20 2) = some (.inl (E.1 0, 4000, .inl ((um_bgn S d).2 20 2))) := hG.core rfl
      have hAG : um_A a (um_bgn S d) := um_bgn_A hA
      have hq2 : (um_bgn S d).1 d 2 = S.1 d 2 := um_bgn_k (um_d20 hk9) (by decide)
      have hq3 : (um_bgn S d).1 d 3 = S.1 d 3 := um_bgn_k (um_d20 hk9) (by decide)
      refine lv_aload hx hb dU_operate_71 (lv_at hl 1 rfl) ?_
      refine lv_iload_n hx hb dU_operate_73 rfl (lv_at hl 4 rfl) ?_
      refine lv_iload_n hx hb dU_operate_74 rfl (lv_at hl 5 rfl) ?_
      refine lv_iload hx hb dU_operate_75 (lv_at hl 6 rfl) ?_
      refine lv_aload_n hx hb dU_operate_77 rfl (lv_at hl 2 rfl) ?_
      refine va_get (D := D) (ci := 0) (v := .ref (a.1 20 1)) (C := "UnitRoom") (T := TU) (N := 6) hx hb hts inU hown hV (ur_one hI.1 g0) 0 rfl rfl 0 (by decide) (hts _ mw170) (fun _ h9 => h9) rfl dU_operate_78 ?_
      rcases um_kinds hk9 with hkk | hkk | hkk | hkk
      · have gk : h10 (a.1 d 0) = some (.inr (3, [.int 100, .ref (a.1 d 1), .int (nI (um_dur d)), .long (lN ((um_bgn S d).1 d 4)), .int (nI ((um_bgn S d).1 d 0)), .int (nI ((um_bgn S d).1 d 1)), .int (nI ((um_bgn S d).1 d 5)), .int (nI ((um_bgn S d).1 d 2)), .ref (a.1 d 2)])) := (um_R.dev hG hk9).trans (by rw [um_devT hkk])
        have gl : h10 (a.1 d 2) = some (.inl (E.1 3, 64, .inr (.inr (.inr (.inr (um_rows a d)))))) := (um_R.two hG hk9).trans (by rw [um_twoB (by omega)])
        have gb : h10 (a.1 d 1) = some (.inl (E.1 0, 100, .inl ((um_bgn S d).2 d 1))) := (um_R.br hG hk9).trans (by rw [(um_kd d (um_k20' hk9)).1 hkk])
        have hrow := um_R.rowsAt hG (show um_kind d ≤ 1 by omega)
        have hrb : ∀ j, j < 64 → um_rows a d j ≠ some (a.1 d 1) := fun j _ z9 => by obtain ⟨z1, z2⟩ := um_rows_some z9; exact hG.apart (um_ct_br hk9) (by rw [um_ct_row hk9, if_pos z1]) (by omega) z2
        have hrq : ∀ j, j < 64 → um_rows a d j ≠ some (a.1 20 2) := fun j _ z9 => by obtain ⟨z1, z2⟩ := um_rows_some z9; exact hG.apart (um_ct_core 2) (by rw [um_ct_row hk9, if_pos z1]) (fun z3 => um_d20 hk9 z3.1.symm) z2
        have hp64 := hOk.1 d hkk
        rcases hop with rfl | rfl | rfl
        · refine ur_xv (va_runU (As := [.int 0, .int mv, .int x, .ref (a.1 20 1)]) (rest := []) ⟨hx, hb, hml, hown, hts⟩ (kT_work0 l D E h10 (a.1 d 0) (a.1 d 1) (a.1 d 2) (nI (um_dur d)) (nI ((um_bgn S d).1 d 0)) (nI ((um_bgn S d).1 d 1)) (nI ((um_bgn S d).1 d 5)) (nI ((um_bgn S d).1 d 2)) (lN ((um_bgn S d).1 d 4)) (a.1 20 1) mv x gk H.size) (va_cwA (owner := "UnitRoom$Device") 4 hts (ur_gU mw308 mw310 mw350 mw351 mw8 mw352) rfl rfl rfl (hK.2.1.2.1 ⟨"UnitRoom$Device", "work", "(IIILUnitRoom$Memory;)V"⟩ (by decide +kernel)) (by decide +kernel) ⟨(Nat.le_of_ble_eq_true rfl), (Nat.le_of_ble_eq_true rfl)⟩) ⟨ur_blind, va_recv hV (ur_one hI.1 gk) (ci := 3) (q0 := 0) rfl rfl, ur_pre hI hO hK (fun _ _ q => q)⟩ rfl rfl hl.1 rfl (lv_room (Nat.le_of_ble_eq_true rfl)) dU_operate_81 ⟨Nat.le_of_ble_eq_true rfl, Nat.le_of_ble_eq_true rfl⟩) hI (fun h11 H locs p11 hI => ?_)
          refine lv_iconst (v := 0) hx hb dU_operate_84 (by decide) ?_
          refine W.widen (k := 1) (n := 120) (by omega) (by omega) ?_
          exact ur_ri hx hb hr hlocks hI hQ ⟨(by rw [um_opr_some hun, hf0]), ⟨a, rfl, (by rw [um_opS_some hun, if_pos hf0]; exact ⟨um_A_same hAG (fun _ _ _ => rfl) (um_wk_2 (by omega) hk9), um_R.T0 hG hkk (by rw [hq2]; exact hp64) p11⟩)⟩⟩ dU_operate_85
        · refine ur_xv (va_runU (As := [.int 1, .int mv, .int x, .ref (a.1 20 1)]) (rest := []) ⟨hx, hb, hml, hown, hts⟩ (kT_work1 l D E h10 (a.1 d 0) (a.1 d 1) (a.1 d 2) (nI (um_dur d)) (nI ((um_bgn S d).1 d 0)) (nI ((um_bgn S d).1 d 1)) (nI ((um_bgn S d).1 d 5)) (nI ((um_bgn S d).1 d 2)) (lN ((um_bgn S d).1 d 4)) (a.1 20 1) (a.1 20 2) (um_rows a d) (fun b => (um_bgn S d).2 d (3 + b)) ((um_bgn S d).2 20 2) ((um_bgn S d).2 d 1) mv x gk gl gb gm gc hrow hrb H.size) (va_cwA (owner := "UnitRoom$Device") 4 hts (ur_gU mw308 mw310 mw350 mw351 mw8 mw352) rfl rfl rfl (hK.2.1.2.1 ⟨"UnitRoom$Device", "work", "(IIILUnitRoom$Memory;)V"⟩ (by decide +kernel)) (by decide +kernel) ⟨(Nat.le_of_ble_eq_true rfl), (Nat.le_of_ble_eq_true rfl)⟩) ⟨ur_blind, va_recv hV (ur_one hI.1 gk) (ci := 3) (q0 := 0) rfl rfl, ur_pre hI hO hK (fun _ _ q => q)⟩ rfl rfl hl.1 rfl (lv_room (Nat.le_of_ble_eq_true rfl)) dU_operate_81 ⟨Nat.le_of_ble_eq_true rfl, Nat.le_of_ble_eq_true rfl⟩) hI (fun h12 H locs p12 hI => ?_)
          refine lv_iconst (v := 0) hx hb dU_operate_84 (by decide) ?_
          refine W.widen (k := 1) (n := 120) (by omega) (by omega) ?_
          exact ur_ri hx hb hr hlocks hI hQ ⟨(by rw [um_opr_some hun, hf0]), ⟨a, rfl, (by rw [um_opS_some hun, if_pos hf0]; exact ⟨um_A_same hAG (fun _ _ _ => rfl) (um_wk_2 (by omega) hk9), um_R.T1 hG hkk (um_nn (um_holds_of (hho (by decide))).1) p12⟩)⟩⟩ dU_operate_85
        · refine ur_xv (va_runU (As := [.int 2, .int mv, .int x, .ref (a.1 20 1)]) (rest := []) ⟨hx, hb, hml, hown, hts⟩ (kT_work2 l D E h10 (a.1 d 0) (a.1 d 1) (a.1 d 2) (nI (um_dur d)) (nI ((um_bgn S d).1 d 0)) (nI ((um_bgn S d).1 d 1)) (nI ((um_bgn S d).1 d 5)) (nI ((um_bgn S d).1 d 2)) (lN ((um_bgn S d).1 d 4)) (a.1 20 1) (a.1 20 2) (um_rows a d) (fun b => (um_bgn S d).2 d (3 + b)) ((um_bgn S d).2 20 2) ((um_bgn S d).2 d 1) mv x gk gl gb gm gc hrow hrq (nI_pos (by omega)) (nI_lt (b := 64) (by rw [hq2]; exact um_df_T hkk hdf (by decide) hp64) (by decide)) H.size) (va_cwA (owner := "UnitRoom$Device") 4 hts (ur_gU mw308 mw310 mw350 mw351 mw8 mw352) rfl rfl rfl (hK.2.1.2.1 ⟨"UnitRoom$Device", "work", "(IIILUnitRoom$Memory;)V"⟩ (by decide +kernel)) (by decide +kernel) ⟨(Nat.le_of_ble_eq_true rfl), (Nat.le_of_ble_eq_true rfl)⟩) ⟨ur_blind, va_recv hV (ur_one hI.1 gk) (ci := 3) (q0 := 0) rfl rfl, ur_pre hI hO hK (fun _ _ q => q)⟩ rfl rfl hl.1 rfl (lv_room (Nat.le_of_ble_eq_true rfl)) dU_operate_81 ⟨Nat.le_of_ble_eq_true rfl, Nat.le_of_ble_eq_true rfl⟩) hI (fun h13 H locs p13 hI => ?_)
          obtain ⟨h39, hw9, e9⟩ := p13
          refine lv_iconst (v := 0) hx hb dU_operate_84 (by decide) ?_
          refine W.widen (k := 1) (n := 120) (by omega) (by omega) ?_
          exact ur_ri hx hb hr hlocks hI hQ ⟨(by rw [um_opr_some hun, hf0]), (by rw [um_opS_some hun, if_pos hf0]; obtain ⟨a9, ha9, hb9, hc9⟩ := um_R.T2 hG hkk (by rw [hq2]; exact um_df_T hkk hdf (by decide) hp64) hw9 e9; exact ⟨a9, ha9, um_A_same hAG hb9 (um_wk_2 (by omega) hk9), hc9⟩)⟩ dU_operate_85
      · have gk : h10 (a.1 d 0) = some (.inr (4, [.int 100, .ref (a.1 d 1), .int (nI (um_dur d)), .long (lN ((um_bgn S d).1 d 4)), .int (nI ((um_bgn S d).1 d 0)), .int (nI ((um_bgn S d).1 d 1)), .int (nI ((um_bgn S d).1 d 5)), .ref (a.1 d 2)])) := (um_R.dev hG hk9).trans (by rw [um_devK hkk])
        have gl : h10 (a.1 d 2) = some (.inl (E.1 3, 64, .inr (.inr (.inr (.inr (um_rows a d)))))) := (um_R.two hG hk9).trans (by rw [um_twoB (by omega)])
        have gb : h10 (a.1 d 1) = some (.inl (E.1 0, 100, .inl ((um_bgn S d).2 d 1))) := (um_R.br hG hk9).trans (by rw [(um_kd d (um_k20' hk9)).2.1 hkk])
        have hrow := um_R.rowsAt hG (show um_kind d ≤ 1 by omega)
        have hrb : ∀ j, j < 64 → um_rows a d j ≠ some (a.1 d 1) := fun j _ z9 => by obtain ⟨z1, z2⟩ := um_rows_some z9; exact hG.apart (um_ct_br hk9) (by rw [um_ct_row hk9, if_pos z1]) (by omega) z2
        have hrq : ∀ j, j < 64 → um_rows a d j ≠ some (a.1 20 2) := fun j _ z9 => by obtain ⟨z1, z2⟩ := um_rows_some z9; exact hG.apart (um_ct_core 2) (by rw [um_ct_row hk9, if_pos z1]) (fun z3 => um_d20 hk9 z3.1.symm) z2
        obtain ⟨hx0, hx1⟩ := um_df_K hkk hdf
        rcases hop with rfl | rfl | rfl
        · refine ur_xv (va_runU (As := [.int 0, .int mv, .int x, .ref (a.1 20 1)]) (rest := []) ⟨hx, hb, hml, hown, hts⟩ (kK_work0 l D E h10 (a.1 d 0) (a.1 d 1) (a.1 d 2) (nI (um_dur d)) (nI ((um_bgn S d).1 d 0)) (nI ((um_bgn S d).1 d 1)) (nI ((um_bgn S d).1 d 5)) (lN ((um_bgn S d).1 d 4)) (a.1 20 1) mv x gk H.size) (va_cwA (owner := "UnitRoom$Device") 4 hts (ur_gU mw308 mw310 mw311 mw312 mw9 mw313) rfl rfl rfl (hK.2.1.2.1 ⟨"UnitRoom$Device", "work", "(IIILUnitRoom$Memory;)V"⟩ (by decide +kernel)) (by decide +kernel) ⟨(Nat.le_of_ble_eq_true rfl), (Nat.le_of_ble_eq_true rfl)⟩) ⟨ur_blind, va_recv hV (ur_one hI.1 gk) (ci := 4) (q0 := 0) rfl rfl, ur_pre hI hO hK (fun _ _ q => q)⟩ rfl rfl hl.1 rfl (lv_room (Nat.le_of_ble_eq_true rfl)) dU_operate_81 ⟨Nat.le_of_ble_eq_true rfl, Nat.le_of_ble_eq_true rfl⟩) hI (fun h14 H locs p14 hI => ?_)
          refine lv_iconst (v := 0) hx hb dU_operate_84 (by decide) ?_
          refine W.widen (k := 1) (n := 120) (by omega) (by omega) ?_
          exact ur_ri hx hb hr hlocks hI hQ ⟨(by rw [um_opr_some hun, hf0]), ⟨a, rfl, (by rw [um_opS_some hun, if_pos hf0]; exact ⟨um_A_same hAG (fun _ _ _ => rfl) (um_wk_2 (by omega) hk9), (by rw [p14]; unfold um_wk um_wK; rw [if_neg (show ¬ um_kind d = 0 by omega), if_pos hkk, if_pos rfl]; exact hG)⟩)⟩⟩ dU_operate_85
        · refine ur_xv (va_runU (As := [.int 1, .int mv, .int x, .ref (a.1 20 1)]) (rest := []) ⟨hx, hb, hml, hown, hts⟩ (kK_work1 l D E h10 (a.1 d 0) (a.1 d 1) (a.1 d 2) (nI (um_dur d)) (nI ((um_bgn S d).1 d 0)) (nI ((um_bgn S d).1 d 1)) (nI ((um_bgn S d).1 d 5)) (lN ((um_bgn S d).1 d 4)) (a.1 20 1) (a.1 20 2) (um_rows a d) (fun b => (um_bgn S d).2 d (3 + b)) ((um_bgn S d).2 20 2) ((um_bgn S d).2 d 1) mv x gk gl gb gm gc hrow hrb H.size) (va_cwA (owner := "UnitRoom$Device") 4 hts (ur_gU mw308 mw310 mw311 mw312 mw9 mw313) rfl rfl rfl (hK.2.1.2.1 ⟨"UnitRoom$Device", "work", "(IIILUnitRoom$Memory;)V"⟩ (by decide +kernel)) (by decide +kernel) ⟨(Nat.le_of_ble_eq_true rfl), (Nat.le_of_ble_eq_true rfl)⟩) ⟨ur_blind, va_recv hV (ur_one hI.1 gk) (ci := 4) (q0 := 0) rfl rfl, ur_pre hI hO hK (fun _ _ q => q)⟩ rfl rfl hl.1 rfl (lv_room (Nat.le_of_ble_eq_true rfl)) dU_operate_81 ⟨Nat.le_of_ble_eq_true rfl, Nat.le_of_ble_eq_true rfl⟩) hI (fun h15 H locs p15 hI => ?_)
          refine lv_iconst (v := 0) hx hb dU_operate_84 (by decide) ?_
          refine W.widen (k := 1) (n := 120) (by omega) (by omega) ?_
          exact ur_ri hx hb hr hlocks hI hQ ⟨(by rw [um_opr_some hun, hf0]), ⟨a, rfl, (by rw [um_opS_some hun, if_pos hf0]; exact ⟨um_A_same hAG (fun _ _ _ => rfl) (um_wk_2 (by omega) hk9), um_R.K1 hG hkk (um_nn (um_holds_of (hho (by decide))).1) p15⟩)⟩⟩ dU_operate_85
        · refine ur_xv (va_runU (As := [.int 2, .int mv, .int x, .ref (a.1 20 1)]) (rest := []) ⟨hx, hb, hml, hown, hts⟩ (kK_work2 l D E h10 (a.1 d 0) (a.1 d 1) (a.1 d 2) (nI (um_dur d)) (nI ((um_bgn S d).1 d 0)) (nI ((um_bgn S d).1 d 1)) (nI ((um_bgn S d).1 d 5)) (lN ((um_bgn S d).1 d 4)) (a.1 20 1) (a.1 20 2) (um_rows a d) (fun b => (um_bgn S d).2 d (3 + b)) ((um_bgn S d).2 20 2) ((um_bgn S d).2 d 1) mv x gk gl gb gm gc hrow hrq hx0 hx1 H.size) (va_cwA (owner := "UnitRoom$Device") 4 hts (ur_gU mw308 mw310 mw311 mw312 mw9 mw313) rfl rfl rfl (hK.2.1.2.1 ⟨"UnitRoom$Device", "work", "(IIILUnitRoom$Memory;)V"⟩ (by decide +kernel)) (by decide +kernel) ⟨(Nat.le_of_ble_eq_true rfl), (Nat.le_of_ble_eq_true rfl)⟩) ⟨ur_blind, va_recv hV (ur_one hI.1 gk) (ci := 4) (q0 := 0) rfl rfl, ur_pre hI hO hK (fun _ _ q => q)⟩ rfl rfl hl.1 rfl (lv_room (Nat.le_of_ble_eq_true rfl)) dU_operate_81 ⟨Nat.le_of_ble_eq_true rfl, Nat.le_of_ble_eq_true rfl⟩) hI (fun h16 H locs p16 hI => ?_)
          refine lv_iconst (v := 0) hx hb dU_operate_84 (by decide) ?_
          refine W.widen (k := 1) (n := 120) (by omega) (by omega) ?_
          exact ur_ri hx hb hr hlocks hI hQ ⟨(by rw [um_opr_some hun, hf0]), (by rw [um_opS_some hun, if_pos hf0]; obtain ⟨a9, ha9, hb9, hc9⟩ := um_R.K2 hG hkk p16; exact ⟨a9, ha9, um_A_same hAG hb9 (um_wk_2 (by omega) hk9), hc9⟩)⟩ dU_operate_85
      · have gk : h10 (a.1 d 0) = some (.inr (5, [.int 16, .ref (a.1 d 1), .int (nI (um_dur d)), .long (lN ((um_bgn S d).1 d 4)), .int (nI ((um_bgn S d).1 d 0)), .int (nI ((um_bgn S d).1 d 1)), .int (nI ((um_bgn S d).1 d 5)), .ref (a.1 d 2), .int (nI ((um_bgn S d).1 d 2)), .int (nI ((um_bgn S d).1 d 3))])) := (um_R.dev hG hk9).trans (by rw [um_devR hkk])
        obtain ⟨rfl, hlf⟩ := um_df_R hkk hdf
        have hd16 : d = 16 := (um_kd d (um_k20' hk9)).2.2.1 hkk
        have gl : h10 (a.1 d 2) = some (.inl (E.1 0, 1600, .inl ((um_bgn S d).2 d 2))) := (um_R.two hG hk9).trans (by rw [um_twoR hkk])
        have gb : h10 (a.1 d 1) = some (.inl (E.1 0, 16, .inl ((um_bgn S d).2 d 1))) := (um_R.br hG hk9).trans (by rw [show um_words d = 16 by rw [hd16]; rfl])
        refine ur_xv (va_runU (As := [.int 1, .int mv, .int x, .ref (a.1 20 1)]) (rest := []) ⟨hx, hb, hml, hown, hts⟩ (kR_work l D E h10 (a.1 d 0) (a.1 d 1) (a.1 d 2) ((um_bgn S d).1 d 2) ((um_bgn S d).1 d 3) (nI (um_dur d)) (nI ((um_bgn S d).1 d 0)) (nI ((um_bgn S d).1 d 1)) (nI ((um_bgn S d).1 d 5)) (lN ((um_bgn S d).1 d 4)) (a.1 20 1) ((um_bgn S d).2 d 2) ((um_bgn S d).2 d 1) 1 mv x gk gl gb (by rw [hq2, hd16]; exact hOk.2.2.1) (by rw [hq3]; exact hlf) H.size) (va_cwA (owner := "UnitRoom$Device") 4 hts (ur_gU mw308 mw310 mw344 mw345 mw5 mw346) rfl rfl rfl (hK.2.1.2.1 ⟨"UnitRoom$Device", "work", "(IIILUnitRoom$Memory;)V"⟩ (by decide +kernel)) (by decide +kernel) ⟨(Nat.le_of_ble_eq_true rfl), (Nat.le_of_ble_eq_true rfl)⟩) ⟨ur_blind, va_recv hV (ur_one hI.1 gk) (ci := 5) (q0 := 0) rfl rfl, ur_pre hI hO hK (fun _ _ q => q)⟩ rfl rfl hl.1 rfl (lv_room (Nat.le_of_ble_eq_true rfl)) dU_operate_81 ⟨Nat.le_of_ble_eq_true rfl, Nat.le_of_ble_eq_true rfl⟩) hI (fun h17 H locs p17 hI => ?_)
        refine lv_iconst (v := 0) hx hb dU_operate_84 (by decide) ?_
        refine W.widen (k := 1) (n := 120) (by omega) (by omega) ?_
        exact ur_ri hx hb hr hlocks hI hQ ⟨(by rw [um_opr_some hun, hf0]), ⟨a, rfl, (by rw [um_opS_some hun, if_pos hf0]; exact ⟨um_A_same hAG (fun _ _ _ => rfl) (um_wk_2 (by omega) hk9), um_R.R1 hG hkk (um_nn (um_holds_of (hho (by decide))).1) p17⟩)⟩⟩ dU_operate_85
      · have gk : h10 (a.1 d 0) = some (.inr (6, [.int (nI (um_words d)), .ref (a.1 d 1), .int (nI (um_dur d)), .long (lN ((um_bgn S d).1 d 4)), .int (nI ((um_bgn S d).1 d 0)), .int (nI ((um_bgn S d).1 d 1)), .int (nI ((um_bgn S d).1 d 5)), .ref (a.1 d 2), .int (if d = 18 then 1 else 0), .int (nI ((um_bgn S d).1 d 2))])) := (um_R.dev hG hk9).trans (by rw [um_devW hkk])
        obtain ⟨-, hw0, hw1⟩ := (um_kd d (um_k20' hk9)).2.2.2 hkk
        have hw3 := hOk.2.1 d hkk
        have gl : h10 (a.1 d 2) = some (.inl (E.1 4, 300, .inr (.inr (.inr (.inr (um_rows a d)))))) := (um_R.two hG hk9).trans (by rw [um_twoW hkk])
        by_cases hfl : (um_bgn S d).1 d 2 = 300
        · refine ur_xv (va_runU (As := [.int op, .int mv, .int x, .ref (a.1 20 1)]) (rest := []) ⟨hx, hb, hml, hown, hts⟩ (kW_full l D E h10 (a.1 d 0) (a.1 d 1) (a.1 d 2) (um_words d) ((um_bgn S d).1 d 2) (nI (um_dur d)) (nI ((um_bgn S d).1 d 0)) (nI ((um_bgn S d).1 d 1)) (nI ((um_bgn S d).1 d 5)) (if d = 18 then 1 else 0) (lN ((um_bgn S d).1 d 4)) (um_rows a d) (a.1 20 1) op mv x gk gl hfl H.size) (va_cwA (owner := "UnitRoom$Device") 4 hts (ur_gU mw308 mw310 mw368 mw369 mw10 mw370) rfl rfl rfl (hK.2.1.2.1 ⟨"UnitRoom$Device", "work", "(IIILUnitRoom$Memory;)V"⟩ (by decide +kernel)) (by decide +kernel) ⟨(Nat.le_of_ble_eq_true rfl), (Nat.le_of_ble_eq_true rfl)⟩) ⟨ur_blind, va_recv hV (ur_one hI.1 gk) (ci := 6) (q0 := 0) rfl rfl, ur_pre hI hO hK (fun _ _ q => q)⟩ rfl rfl hl.1 rfl (lv_room (Nat.le_of_ble_eq_true rfl)) dU_operate_81 ⟨Nat.le_of_ble_eq_true rfl, Nat.le_of_ble_eq_true rfl⟩) hI (fun h18 H locs p18 hI => ?_)
          refine lv_iconst (v := 0) hx hb dU_operate_84 (by decide) ?_
          refine W.widen (k := 1) (n := 120) (by omega) (by omega) ?_
          exact ur_ri hx hb hr hlocks hI hQ ⟨(by rw [um_opr_some hun, hf0]), ⟨a, rfl, (by rw [um_opS_some hun, if_pos hf0]; exact ⟨(by unfold um_wk um_wW; rw [if_neg (show ¬ um_kind d = 0 by omega), if_neg (show ¬ um_kind d = 1 by omega), if_neg (show ¬ um_kind d = 2 by omega), if_pos hfl]; exact hAG), (by rw [p18]; unfold um_wk um_wW; rw [if_neg (show ¬ um_kind d = 0 by omega), if_neg (show ¬ um_kind d = 1 by omega), if_neg (show ¬ um_kind d = 2 by omega), if_pos hfl]; exact hG)⟩)⟩⟩ dU_operate_85
        · rcases um_df_W hkk hdf with rfl | ⟨rfl, -, rfl⟩
          · refine ur_xv (va_runU (As := [.int 2, .int mv, .int x, .ref (a.1 20 1)]) (rest := []) ⟨hx, hb, hml, hown, hts⟩ (kW_work2 l D E h10 (a.1 d 0) (a.1 d 1) (a.1 d 2) (um_words d) ((um_bgn S d).1 d 2) (nI (um_dur d)) (nI ((um_bgn S d).1 d 0)) (nI ((um_bgn S d).1 d 1)) (nI ((um_bgn S d).1 d 5)) (if d = 18 then 1 else 0) (lN ((um_bgn S d).1 d 4)) (a.1 20 1) (a.1 20 2) ((um_bgn S d).2 20 2) (um_rows a d) mv x gk gl gm gc (by omega) hw0 hw1 H.size) (va_cwA (owner := "UnitRoom$Device") 4 hts (ur_gU mw308 mw310 mw368 mw369 mw10 mw370) rfl rfl rfl (hK.2.1.2.1 ⟨"UnitRoom$Device", "work", "(IIILUnitRoom$Memory;)V"⟩ (by decide +kernel)) (by decide +kernel) ⟨(Nat.le_of_ble_eq_true rfl), (Nat.le_of_ble_eq_true rfl)⟩) ⟨ur_blind, va_recv hV (ur_one hI.1 gk) (ci := 6) (q0 := 0) rfl rfl, ur_pre hI hO hK (fun _ _ q => q)⟩ rfl rfl hl.1 rfl (lv_room (Nat.le_of_ble_eq_true rfl)) dU_operate_81 ⟨Nat.le_of_ble_eq_true rfl, Nat.le_of_ble_eq_true rfl⟩) hI (fun h19 H locs p19 hI => ?_)
            obtain ⟨y9, hy9, e9⟩ := p19
            refine lv_iconst (v := 0) hx hb dU_operate_84 (by decide) ?_
            exact ur_ri hx hb hr hlocks hI hQ ⟨(by rw [um_opr_some hun, hf0]), (by rw [um_opS_some hun, if_pos hf0]; exact (by unfold um_wk um_wW; rw [if_neg (show ¬ um_kind d = 0 by omega), if_neg (show ¬ um_kind d = 1 by omega), if_neg (show ¬ um_kind d = 2 by omega), if_neg hfl, if_neg (by decide)]; exact um_R.line hG hkk hy9 hAG (Nat.le_trans (um_len_le _ _ _) (by omega)) e9))⟩ dU_operate_85
          · refine ur_xv (va_runU (As := [.int 0, .int 0, .int x, .ref (a.1 20 1)]) (rest := []) ⟨hx, hb, hml, hown, hts⟩ (kW_work0 l D E h10 (a.1 d 0) (a.1 d 1) (a.1 d 2) (um_words d) ((um_bgn S d).1 d 2) (nI (um_dur d)) (nI ((um_bgn S d).1 d 0)) (nI ((um_bgn S d).1 d 1)) (nI ((um_bgn S d).1 d 5)) (if d = 18 then 1 else 0) (lN ((um_bgn S d).1 d 4)) (a.1 20 1) (a.1 20 2) ((um_bgn S d).2 20 2) (um_rows a d) 0 x gk gl gm gc (by omega) hw0 hw1 H.size) (va_cwA (owner := "UnitRoom$Device") 4 hts (ur_gU mw308 mw310 mw368 mw369 mw10 mw370) rfl rfl rfl (hK.2.1.2.1 ⟨"UnitRoom$Device", "work", "(IIILUnitRoom$Memory;)V"⟩ (by decide +kernel)) (by decide +kernel) ⟨(Nat.le_of_ble_eq_true rfl), (Nat.le_of_ble_eq_true rfl)⟩) ⟨ur_blind, va_recv hV (ur_one hI.1 gk) (ci := 6) (q0 := 0) rfl rfl, ur_pre hI hO hK (fun _ _ q => q)⟩ rfl rfl hl.1 rfl (lv_room (Nat.le_of_ble_eq_true rfl)) dU_operate_81 ⟨Nat.le_of_ble_eq_true rfl, Nat.le_of_ble_eq_true rfl⟩) hI (fun h20 H locs p20 hI => ?_)
            obtain ⟨y9, hy9, e9⟩ := p20
            refine lv_iconst (v := 0) hx hb dU_operate_84 (by decide) ?_
            exact ur_ri hx hb hr hlocks hI hQ ⟨(by rw [um_opr_some hun, hf0]), (by rw [um_opS_some hun, if_pos hf0]; exact (by unfold um_wk um_wW; rw [if_neg (show ¬ um_kind d = 0 by omega), if_neg (show ¬ um_kind d = 1 by omega), if_neg (show ¬ um_kind d = 2 by omega), if_neg hfl, if_pos rfl]; exact um_R.line hG hkk hy9 hAG (by decide) e9))⟩ dU_operate_85
