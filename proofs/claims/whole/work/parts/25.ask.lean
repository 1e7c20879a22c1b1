theorem dU_isBusy_0 : decode cU_isBusy 0 = .ok (.aload_n 0, 1) := by decide +kernel
theorem dU_isBusy_1 : decode cU_isBusy 1 = .ok (.iload_n 1, 1) := by decide +kernel
theorem dU_isBusy_2 : decode cU_isBusy 2 = .ok (.invokevirtual 83, 3) := by decide +kernel
theorem dU_isBusy_5 : decode cU_isBusy 5 = .ok (.astore_n 2, 1) := by decide +kernel
theorem dU_isBusy_6 : decode cU_isBusy 6 = .ok (.aload_n 2, 1) := by decide +kernel
theorem dU_isBusy_7 : decode cU_isBusy 7 = .ok (.ifnull 19, 3) := by decide +kernel
theorem dU_isBusy_10 : decode cU_isBusy 10 = .ok (.aload_n 2, 1) := by decide +kernel
theorem dU_isBusy_11 : decode cU_isBusy 11 = .ok (.getfield 91, 3) := by decide +kernel
theorem dU_isBusy_14 : decode cU_isBusy 14 = .ok (.aload_n 0, 1) := by decide +kernel
theorem dU_isBusy_15 : decode cU_isBusy 15 = .ok (.getfield 47, 3) := by decide +kernel
theorem dU_isBusy_18 : decode cU_isBusy 18 = .ok (.lcmp, 1) := by decide +kernel
theorem dU_isBusy_19 : decode cU_isBusy 19 = .ok (.ifCond .le 7, 3) := by decide +kernel
theorem dU_isBusy_22 : decode cU_isBusy 22 = .ok (.iconst 1, 1) := by decide +kernel
theorem dU_isBusy_23 : decode cU_isBusy 23 = .ok (.goto 4, 3) := by decide +kernel
theorem dU_isBusy_26 : decode cU_isBusy 26 = .ok (.iconst 0, 1) := by decide +kernel
theorem dU_isBusy_27 : decode cU_isBusy 27 = .ok (.ireturn, 1) := by decide +kernel
abbrev rmkU_busy : Room := { frames := 1, cells := 0, slots := 0, locals := 21 }
set_option maxHeartbeats 4000000 in
set_option maxRecDepth 100000 in
theorem kU_busy (l : Launch) (D : va_G) (E : ur_Ev) (h : ur_M) (a : um_Ad) (S : um_S) (u : Int32)  (hR : um_R E a S h) (hB : um_Bd S) : ur_Mi l yU_isBusy wsU_isBusy rmkU_busy D vwCl (ur_v E) [.ref (a.1 20 0), .int u] h (fun r h2 => r = um_b (um_busy S u) ∧ h2 = h) 0 0 := by
  intro sz
  refine ur_of (cc := cU_isBusy) (maxL := 3) (ret := (some .boolean)) (by decide) rfl (Nat.le_of_ble_eq_true rfl) ?_
  intro p e s m args below meth c ls Q hsz hx hb hml hr hlocks hnm hown hts hO hK hI hQ hl
  subst hsz
  have hV := hK.1
  have hts : ∀ w ∈ ur_G, w.before args s = true := fun w hw => hts w (List.mem_cons_of_mem _ hw)
  have hZ : ur_Z E (ur_A h s.heap.size) s s.heap := hO.1
  have hown : s.vm.findClass "UnitRoom" = some m.cls := hown
  have hl : lv_has ls 3 [(0, .ref (a.1 20 0)), (1, .int u)] := hl
  have g0 : h (a.1 20 0) = some (.inr (0, [.ref (a.1 20 1), .ref (a.1 20 3), .ref (a.1 16 0), .ref (a.1 20 5), .long (lN (S.1 20 2)), .int (nI (S.1 20 0))])) := hR.core rfl
  have g5 : h (a.1 20 5) = some (.inl (E.1 2, 20, .inr (.inr (.inr (.inr (um_devs a)))))) := hR.core rfl
  refine lv_aload_n hx hb dU_isBusy_0 rfl (lv_at hl 0 rfl) ?_
  refine lv_iload_n hx hb dU_isBusy_1 rfl (lv_at hl 1 rfl) ?_
  refine ur_xq (va_runV (As := [.int u]) (rest := []) ⟨hx, hb, hml, hown, hts⟩ (kU_dev l D E h (a.1 20 0) (a.1 20 1) (a.1 20 3) (a.1 16 0) (a.1 20 5) (lN (S.1 20 2)) (nI (S.1 20 0)) (um_devs a) u g0 g5 s.heap.size) (cwV 1 hts (ur_gV mw243 mw245 ms0 mw1 mw246) rfl rfl rfl (by decide +kernel) ⟨(Nat.le_of_ble_eq_true rfl), (Nat.le_of_ble_eq_true rfl)⟩) ⟨ur_blind, va_recv hV (ur_one hI.1 g0) (ci := 0) (q0 := 0) rfl rfl, ur_pre hI hO hK (fun _ _ q => q)⟩ rfl rfl hl.1 rfl (lv_room (Nat.le_of_ble_eq_true rfl)) dU_isBusy_2 ⟨Nat.le_of_ble_eq_true rfl, Nat.le_of_ble_eq_true rfl⟩) hI (fun r1 h1 H locs p1 hI => ?_)
  obtain ⟨er1, eh1⟩ := p1
  replace eh1 := eh1.symm; subst eh1
  replace er1 := er1.symm; subst er1
  rw [um_dvo_un]
  rcases hun : um_un u with _ | d
  · refine lv_astore_nN (lv' := [(2, .null), (0, .ref (a.1 20 0)), (1, .int u)]) hx hb dU_isBusy_5 rfl hl (by decide) rfl (fun ls hl => ?_)
    refine lv_aload_nN hx hb dU_isBusy_6 rfl (lv_at hl 0 rfl) ?_
    refine lv_ifnullN (tgt := 26) hx hb dU_isBusy_7 (by decide) ?_
    refine lv_iconst (v := 0) hx hb dU_isBusy_26 (by decide) ?_
    exact ur_rz hx hb hr hlocks hI hQ rfl ⟨(by unfold um_busy; rw [hun]; rfl), rfl⟩ dU_isBusy_27
  · obtain ⟨hk9, hu9⟩ := um_un_k hun
    have gu : h (a.1 d 0) = some (.inr ((um_ci d), .int (nI (um_words d)) :: .ref (a.1 d 1) :: .int (nI (um_dur d)) :: .long (lN (S.1 d 4)) :: .int (nI (S.1 d 0)) :: .int (nI (S.1 d 1)) :: .int (nI (S.1 d 5)) :: um_tl a S d)) := hR.dev hk9
    refine lv_astore_n (lv' := [(2, .ref (a.1 d 0)), (0, .ref (a.1 20 0)), (1, .int u)]) hx hb dU_isBusy_5 rfl hl (by decide) rfl (fun ls hl => ?_)
    refine lv_aload_n hx hb dU_isBusy_6 rfl (lv_at hl 0 rfl) ?_
    refine lv_ifnull hx hb dU_isBusy_7 ?_
    refine lv_aload_n hx hb dU_isBusy_10 rfl (lv_at hl 0 rfl) ?_
    refine ur_gD3 hx hb hts hown hV hI (um_ci_D d) gu (hts _ mw77) (fun _ h9 => h9) dU_isBusy_11 ?_
    refine lv_aload_n hx hb dU_isBusy_14 rfl (lv_at hl 1 rfl) ?_
    refine va_get (D := D) (ci := 0) (v := .long (lN (S.1 20 2))) (C := "UnitRoom") (T := TU) (N := 6) hx hb hts inU hown hV (ur_one hI.1 g0) 0 rfl rfl 4 (by decide) (hts _ mw174) (fun _ h9 => h9) rfl dU_isBusy_15 ?_
    refine W.lcmp hx hb dU_isBusy_18 ?_
    refine lv_if_le (tgt := 26) hx hb dU_isBusy_19 (by decide) (fun c2 => ?_) (fun c2 => ?_)
    · refine lv_iconst (v := 0) hx hb dU_isBusy_26 (by decide) ?_
      exact ur_rz hx hb hr hlocks hI hQ rfl ⟨(by unfold um_busy; rw [hun]; show (0 : Int32) = um_b (decide (S.1 20 2 < S.1 d 4)); rw [decide_eq_false (Nat.not_lt.mpr ((um_cmp_le (hB d 4) (hB 20 2)).mp c2))]; rfl), rfl⟩ dU_isBusy_27
    · refine lv_iconst (v := 1) hx hb dU_isBusy_22 (by decide) ?_
      refine lv_goto (tgt := 27) hx hb dU_isBusy_23 (by decide) ?_
      exact ur_rz hx hb hr hlocks hI hQ rfl ⟨(by unfold um_busy; rw [hun]; show (1 : Int32) = um_b (decide (S.1 20 2 < S.1 d 4)); rw [decide_eq_true (Nat.not_le.mp (fun z9 => c2 ((um_cmp_le (hB d 4) (hB 20 2)).mpr z9)))]; rfl), rfl⟩ dU_isBusy_27
theorem dU_pass_0 : decode cU_pass 0 = .ok (.aload_n 0, 1) := by decide +kernel
theorem dU_pass_1 : decode cU_pass 1 = .ok (.aload_n 0, 1) := by decide +kernel
theorem dU_pass_2 : decode cU_pass 2 = .ok (.getfield 47, 3) := by decide +kernel
theorem dU_pass_5 : decode cU_pass 5 = .ok (.iconst 0, 1) := by decide +kernel
theorem dU_pass_6 : decode cU_pass 6 = .ok (.sipush 10000, 3) := by decide +kernel
theorem dU_pass_9 : decode cU_pass 9 = .ok (.iload_n 1, 1) := by decide +kernel
theorem dU_pass_10 : decode cU_pass 10 = .ok (.invokestatic 112, 3) := by decide +kernel
theorem dU_pass_13 : decode cU_pass 13 = .ok (.invokestatic 116, 3) := by decide +kernel
theorem dU_pass_16 : decode cU_pass 16 = .ok (.i2l, 1) := by decide +kernel
theorem dU_pass_17 : decode cU_pass 17 = .ok (.ladd, 1) := by decide +kernel
theorem dU_pass_18 : decode cU_pass 18 = .ok (.invokevirtual 100, 3) := by decide +kernel
theorem dU_pass_21 : decode cU_pass 21 = .ok (.aload_n 0, 1) := by decide +kernel
theorem dU_pass_22 : decode cU_pass 22 = .ok (.getfield 47, 3) := by decide +kernel
theorem dU_pass_25 : decode cU_pass 25 = .ok (.lreturn, 1) := by decide +kernel
abbrev rmkU_pass : Room := { frames := 4, cells := 0, slots := 0, locals := 93 }
set_option maxHeartbeats 4000000 in
set_option maxRecDepth 100000 in
theorem kU_pass (l : Launch) (D : va_G) (E : ur_Ev) (h : ur_M) (a : um_Ad) (S : um_S) (n : Int32)  (hR : um_R E a S h) (hB : um_Bd S) (hnow : S.1 20 2 < 2 ^ 30) : ur_Ml l yU_pass wsU_pass rmkU_pass D vwCl (ur_v E) [.ref (a.1 20 0), .int n] h (fun r h2 => r = lN (S.1 20 2 + um_dt n) ∧ um_R E a (um_goTo S (S.1 20 2 + um_dt n)) h2) 0 0 := by
  intro sz
  refine ur_of (cc := cU_pass) (maxL := 2) (ret := (some .long)) (by decide) rfl (Nat.le_of_ble_eq_true rfl) ?_
  intro p e s m args below meth c ls Q hsz hx hb hml hr hlocks hnm hown hts hO hK hI hQ hl
  subst hsz
  have hV := hK.1
  have hts : ∀ w ∈ ur_G, w.before args s = true := fun w hw => hts w (List.mem_cons_of_mem _ hw)
  have hZ : ur_Z E (ur_A h s.heap.size) s s.heap := hO.1
  have hown : s.vm.findClass "UnitRoom" = some m.cls := hown
  have hl : lv_has ls 2 [(0, .ref (a.1 20 0)), (1, .int n)] := hl
  have g0 : h (a.1 20 0) = some (.inr (0, [.ref (a.1 20 1), .ref (a.1 20 3), .ref (a.1 16 0), .ref (a.1 20 5), .long (lN (S.1 20 2)), .int (nI (S.1 20 0))])) := hR.core rfl
  have g5 : h (a.1 20 5) = some (.inl (E.1 2, 20, .inr (.inr (.inr (.inr (um_devs a)))))) := hR.core rfl
  refine lv_aload_n hx hb dU_pass_0 rfl (lv_at hl 0 rfl) ?_
  refine lv_aload_n hx hb dU_pass_1 rfl (lv_at hl 0 rfl) ?_
  refine va_get (D := D) (ci := 0) (v := .long (lN (S.1 20 2))) (C := "UnitRoom") (T := TU) (N := 6) hx hb hts inU hown hV (ur_one hI.1 g0) 0 rfl rfl 4 (by decide) (hts _ mw174) (fun _ h9 => h9) rfl dU_pass_2 ?_
  refine lv_iconst (v := 0) hx hb dU_pass_5 (by decide) ?_
  refine lv_sipush (v := 10000) hx hb dU_pass_6 (by decide) ?_
  refine lv_iload_n hx hb dU_pass_9 rfl (lv_at hl 1 rfl) ?_
  refine va_mmin hx hb (hml.trans hl.1.symm) hown (hts _ mw452) (hts _ mw453) (hts _ mw6) (hts _ mw454) (Nat.le_of_ble_eq_true rfl) (Nat.le_of_ble_eq_true rfl) (Nat.le_of_ble_eq_true rfl) (Nat.le_of_ble_eq_true rfl) dU_pass_10 ?_
  refine va_mmax hx hb (hml.trans hl.1.symm) hown (hts _ mw455) (hts _ mw61) (hts _ mw6) (hts _ mw62) (Nat.le_of_ble_eq_true rfl) (Nat.le_of_ble_eq_true rfl) (Nat.le_of_ble_eq_true rfl) (Nat.le_of_ble_eq_true rfl) dU_pass_13 ?_
  refine lv_i2l hx hb dU_pass_16 rfl ?_
  refine lv_ladd hx hb dU_pass_17 ?_
  rw [(um_dt_e n).1, nI_l (Nat.lt_of_le_of_lt (um_dt_e n).2 (by decide)), lN_add]
  have hdt := (um_dt_e n).2
  refine ur_xv (va_runV (As := [.long (lN (S.1 20 2 + um_dt n))]) (rest := []) ⟨hx, hb, hml, hown, hts⟩ (kU_go l D E h a S (S.1 20 2 + um_dt n) (by first | assumption | omega | decide) (by first | assumption | omega | decide) (by omega) s.heap.size) (cwV 1 hts (ur_gV mw269 mw271 ms2 mw1 mw272) rfl rfl rfl (by decide +kernel) ⟨(Nat.le_of_ble_eq_true rfl), (Nat.le_of_ble_eq_true rfl)⟩) ⟨ur_blind, va_recv hV (ur_one hI.1 g0) (ci := 0) (q0 := 0) rfl rfl, ur_pre hI hO hK (fun _ _ q => q)⟩ rfl rfl hl.1 rfl (lv_room (Nat.le_of_ble_eq_true rfl)) dU_pass_18 ⟨Nat.le_of_ble_eq_true rfl, Nat.le_of_ble_eq_true rfl⟩) hI (fun h1 H locs p1 hI => ?_)
  have hT : um_R E a (um_goTo S (S.1 20 2 + um_dt n)) h1 := p1
  generalize hTe : um_goTo S (S.1 20 2 + um_dt n) = T at hT
  have g0 : h1 (a.1 20 0) = some (.inr (0, [.ref (a.1 20 1), .ref (a.1 20 3), .ref (a.1 16 0), .ref (a.1 20 5), .long (lN (T.1 20 2)), .int (nI (T.1 20 0))])) := hT.core rfl
  refine lv_aload_n hx hb dU_pass_21 rfl (lv_at hl 0 rfl) ?_
  refine va_get (D := D) (ci := 0) (v := .long (lN (T.1 20 2))) (C := "UnitRoom") (T := TU) (N := 6) hx hb hts inU hown hV (ur_one hI.1 g0) 0 rfl rfl 4 (by decide) (hts _ mw174) (fun _ h9 => h9) rfl dU_pass_22 ?_
  exact ur_rl hx hb hr hlocks hI hQ ⟨(by rw [← hTe, um_goTo_now]), (by rw [hTe]; exact hT)⟩ dU_pass_25
theorem dU_unit_0 : decode cU_unit 0 = .ok (.aload_n 0, 1) := by decide +kernel
theorem dU_unit_1 : decode cU_unit 1 = .ok (.iload_n 1, 1) := by decide +kernel
theorem dU_unit_2 : decode cU_unit 2 = .ok (.invokevirtual 83, 3) := by decide +kernel
theorem dU_unit_5 : decode cU_unit 5 = .ok (.astore_n 2, 1) := by decide +kernel
theorem dU_unit_6 : decode cU_unit 6 = .ok (.aload_n 2, 1) := by decide +kernel
theorem dU_unit_7 : decode cU_unit 7 = .ok (.ifnonnull 7, 3) := by decide +kernel
theorem dU_unit_10 : decode cU_unit 10 = .ok (.iconst (-1), 1) := by decide +kernel
theorem dU_unit_11 : decode cU_unit 11 = .ok (.goto 7, 3) := by decide +kernel
theorem dU_unit_14 : decode cU_unit 14 = .ok (.aload_n 2, 1) := by decide +kernel
theorem dU_unit_15 : decode cU_unit 15 = .ok (.invokevirtual 127, 3) := by decide +kernel
theorem dU_unit_18 : decode cU_unit 18 = .ok (.ireturn, 1) := by decide +kernel
abbrev rmkU_unit : Room := { frames := 1, cells := 0, slots := 0, locals := 21 }
set_option maxHeartbeats 4000000 in
set_option maxRecDepth 100000 in
theorem kU_unit (l : Launch) (D : va_G) (E : ur_Ev) (h : ur_M) (a : um_Ad) (S : um_S) (u : Int32)  (hR : um_R E a S h) (hB : um_Bd S) : ur_Mi l yU_unit wsU_unit rmkU_unit D vwCl (ur_v E) [.ref (a.1 20 0), .int u] h (fun r h2 => r = um_unit S u ∧ h2 = h) 0 0 := by
  intro sz
  refine ur_of (cc := cU_unit) (maxL := 3) (ret := (some .int)) (by decide) rfl (Nat.le_of_ble_eq_true rfl) ?_
  intro p e s m args below meth c ls Q hsz hx hb hml hr hlocks hnm hown hts hO hK hI hQ hl
  subst hsz
  have hV := hK.1
  have hts : ∀ w ∈ ur_G, w.before args s = true := fun w hw => hts w (List.mem_cons_of_mem _ hw)
  have hZ : ur_Z E (ur_A h s.heap.size) s s.heap := hO.1
  have hown : s.vm.findClass "UnitRoom" = some m.cls := hown
  have hl : lv_has ls 3 [(0, .ref (a.1 20 0)), (1, .int u)] := hl
  have g0 : h (a.1 20 0) = some (.inr (0, [.ref (a.1 20 1), .ref (a.1 20 3), .ref (a.1 16 0), .ref (a.1 20 5), .long (lN (S.1 20 2)), .int (nI (S.1 20 0))])) := hR.core rfl
  have g5 : h (a.1 20 5) = some (.inl (E.1 2, 20, .inr (.inr (.inr (.inr (um_devs a)))))) := hR.core rfl
  refine lv_aload_n hx hb dU_unit_0 rfl (lv_at hl 0 rfl) ?_
  refine lv_iload_n hx hb dU_unit_1 rfl (lv_at hl 1 rfl) ?_
  refine ur_xq (va_runV (As := [.int u]) (rest := []) ⟨hx, hb, hml, hown, hts⟩ (kU_dev l D E h (a.1 20 0) (a.1 20 1) (a.1 20 3) (a.1 16 0) (a.1 20 5) (lN (S.1 20 2)) (nI (S.1 20 0)) (um_devs a) u g0 g5 s.heap.size) (cwV 1 hts (ur_gV mw243 mw245 ms0 mw1 mw246) rfl rfl rfl (by decide +kernel) ⟨(Nat.le_of_ble_eq_true rfl), (Nat.le_of_ble_eq_true rfl)⟩) ⟨ur_blind, va_recv hV (ur_one hI.1 g0) (ci := 0) (q0 := 0) rfl rfl, ur_pre hI hO hK (fun _ _ q => q)⟩ rfl rfl hl.1 rfl (lv_room (Nat.le_of_ble_eq_true rfl)) dU_unit_2 ⟨Nat.le_of_ble_eq_true rfl, Nat.le_of_ble_eq_true rfl⟩) hI (fun r1 h1 H locs p1 hI => ?_)
  obtain ⟨er1, eh1⟩ := p1
  replace eh1 := eh1.symm; subst eh1
  replace er1 := er1.symm; subst er1
  rw [um_dvo_un]
  rcases hun : um_un u with _ | d
  · refine lv_astore_nN (lv' := [(2, .null), (0, .ref (a.1 20 0)), (1, .int u)]) hx hb dU_unit_5 rfl hl (by decide) rfl (fun ls hl => ?_)
    refine lv_aload_nN hx hb dU_unit_6 rfl (lv_at hl 0 rfl) ?_
    refine lv_ifnonnullN hx hb dU_unit_7 ?_
    refine lv_iconst (v := (-1)) hx hb dU_unit_10 (by decide) ?_
    refine lv_goto (tgt := 18) hx hb dU_unit_11 (by decide) ?_
    exact ur_ri hx hb hr hlocks hI hQ ⟨(by unfold um_unit; rw [hun]), rfl⟩ dU_unit_18
  · obtain ⟨hk9, hu9⟩ := um_un_k hun
    have gu : h (a.1 d 0) = some (.inr ((um_ci d), .int (nI (um_words d)) :: .ref (a.1 d 1) :: .int (nI (um_dur d)) :: .long (lN (S.1 d 4)) :: .int (nI (S.1 d 0)) :: .int (nI (S.1 d 1)) :: .int (nI (S.1 d 5)) :: um_tl a S d)) := hR.dev hk9
    refine lv_astore_n (lv' := [(2, .ref (a.1 d 0)), (0, .ref (a.1 20 0)), (1, .int u)]) hx hb dU_unit_5 rfl hl (by decide) rfl (fun ls hl => ?_)
    refine lv_aload_n hx hb dU_unit_6 rfl (lv_at hl 0 rfl) ?_
    refine lv_ifnonnull (tgt := 14) hx hb dU_unit_7 (by decide) ?_
    refine lv_aload_n hx hb dU_unit_14 rfl (lv_at hl 0 rfl) ?_
    rcases um_kinds hk9 with hkk | hkk | hkk | hkk
    · have gk : h (a.1 d 0) = some (.inr (3, [.int 100, .ref (a.1 d 1), .int (nI (um_dur d)), .long (lN (S.1 d 4)), .int (nI (S.1 d 0)), .int (nI (S.1 d 1)), .int (nI (S.1 d 5)), .int (nI (S.1 d 2)), .ref (a.1 d 2)])) := (um_R.dev hR hk9).trans (by rw [um_devT hkk])
      refine ur_xi (va_runU (As := []) (rest := []) ⟨hx, hb, hml, hown, hts⟩ (kT_tell l D E h (a.1 d 0) (a.1 d 1) (a.1 d 2) (nI (um_dur d)) (nI (S.1 d 0)) (nI (S.1 d 1)) (nI (S.1 d 5)) (nI (S.1 d 2)) (lN (S.1 d 4)) gk H.size) (va_cwA (owner := "UnitRoom$Device") 0 hts (ur_gU mw541 mw543 mw548 mw549 mw8 mw550) rfl rfl rfl (hK.2.1.2.1 ⟨"UnitRoom$Device", "tell", "()I"⟩ (by decide +kernel)) (by decide +kernel) ⟨(Nat.le_of_ble_eq_true rfl), (Nat.le_of_ble_eq_true rfl)⟩) ⟨ur_blind, va_recv hV (ur_one hI.1 gk) (ci := 3) (q0 := 0) rfl rfl, ur_pre hI hO hK (fun _ _ q => q)⟩ rfl rfl hl.1 rfl (lv_room (Nat.le_of_ble_eq_true rfl)) dU_unit_15 ⟨Nat.le_of_ble_eq_true rfl, Nat.le_of_ble_eq_true rfl⟩) hI (fun r2 h2 H locs p2 hI => ?_)
      obtain ⟨er2, eh2⟩ := p2
      replace eh2 := eh2.symm; subst eh2
      replace er2 := er2.symm; subst er2
      exact ur_ri hx hb hr hlocks hI hQ ⟨(by unfold um_unit; rw [hun]; show _ = um_tell S d; unfold um_tell; rw [if_neg (by omega), if_neg (by omega)]), rfl⟩ dU_unit_18
    · have gk : h (a.1 d 0) = some (.inr (4, [.int 100, .ref (a.1 d 1), .int (nI (um_dur d)), .long (lN (S.1 d 4)), .int (nI (S.1 d 0)), .int (nI (S.1 d 1)), .int (nI (S.1 d 5)), .ref (a.1 d 2)])) := (um_R.dev hR hk9).trans (by rw [um_devK hkk])
      refine ur_xi (va_runU (As := []) (rest := []) ⟨hx, hb, hml, hown, hts⟩ (kK_tell l D E h (a.1 d 0) (a.1 d 1) (a.1 d 2) (nI (um_dur d)) (nI (S.1 d 0)) (nI (S.1 d 1)) (nI (S.1 d 5)) (lN (S.1 d 4)) gk H.size) (va_cwA (owner := "UnitRoom$Device") 0 hts (ur_gU mw541 mw543 mw544 mw545 mw9 mw546) rfl rfl rfl (hK.2.1.2.1 ⟨"UnitRoom$Device", "tell", "()I"⟩ (by decide +kernel)) (by decide +kernel) ⟨(Nat.le_of_ble_eq_true rfl), (Nat.le_of_ble_eq_true rfl)⟩) ⟨ur_blind, va_recv hV (ur_one hI.1 gk) (ci := 4) (q0 := 0) rfl rfl, ur_pre hI hO hK (fun _ _ q => q)⟩ rfl rfl hl.1 rfl (lv_room (Nat.le_of_ble_eq_true rfl)) dU_unit_15 ⟨Nat.le_of_ble_eq_true rfl, Nat.le_of_ble_eq_true rfl⟩) hI (fun r3 h3 H locs p3 hI => ?_)
      obtain ⟨er3, eh3⟩ := p3
      replace eh3 := eh3.symm; subst eh3
      replace er3 := er3.symm; subst er3
      exact ur_ri hx hb hr hlocks hI hQ ⟨(by unfold um_unit; rw [hun]; show _ = um_tell S d; unfold um_tell; rw [if_pos hkk]), rfl⟩ dU_unit_18
    · have gk : h (a.1 d 0) = some (.inr (5, [.int 16, .ref (a.1 d 1), .int (nI (um_dur d)), .long (lN (S.1 d 4)), .int (nI (S.1 d 0)), .int (nI (S.1 d 1)), .int (nI (S.1 d 5)), .ref (a.1 d 2), .int (nI (S.1 d 2)), .int (nI (S.1 d 3))])) := (um_R.dev hR hk9).trans (by rw [um_devR hkk])
      refine ur_xi (va_runU (As := []) (rest := []) ⟨hx, hb, hml, hown, hts⟩ (kR_tell l D E h (a.1 d 0) (a.1 d 1) (a.1 d 2) (S.1 d 2) (S.1 d 3) (nI (um_dur d)) (nI (S.1 d 0)) (nI (S.1 d 1)) (nI (S.1 d 5)) (lN (S.1 d 4)) gk H.size) (va_cwA (owner := "UnitRoom$Device") 0 hts (ur_gU mw541 mw543 mw547 mw534 mw5 mw536) rfl rfl rfl (hK.2.1.2.1 ⟨"UnitRoom$Device", "tell", "()I"⟩ (by decide +kernel)) (by decide +kernel) ⟨(Nat.le_of_ble_eq_true rfl), (Nat.le_of_ble_eq_true rfl)⟩) ⟨ur_blind, va_recv hV (ur_one hI.1 gk) (ci := 5) (q0 := 0) rfl rfl, ur_pre hI hO hK (fun _ _ q => q)⟩ rfl rfl hl.1 rfl (lv_room (Nat.le_of_ble_eq_true rfl)) dU_unit_15 ⟨Nat.le_of_ble_eq_true rfl, Nat.le_of_ble_eq_true rfl⟩) hI (fun r4 h4 H locs p4 hI => ?_)
      obtain ⟨er4, eh4⟩ := p4
      replace eh4 := eh4.symm; subst eh4
      replace er4 := er4.symm; subst er4
      exact ur_ri hx hb hr hlocks hI hQ ⟨(by unfold um_unit; rw [hun]; show _ = um_tell S d; unfold um_tell; rw [if_neg (by omega), if_pos hkk]), rfl⟩ dU_unit_18
    · have gk : h (a.1 d 0) = some (.inr (6, [.int (nI (um_words d)), .ref (a.1 d 1), .int (nI (um_dur d)), .long (lN (S.1 d 4)), .int (nI (S.1 d 0)), .int (nI (S.1 d 1)), .int (nI (S.1 d 5)), .ref (a.1 d 2), .int (if d = 18 then 1 else 0), .int (nI (S.1 d 2))])) := (um_R.dev hR hk9).trans (by rw [um_devW hkk])
      refine ur_xi (va_runU (As := []) (rest := []) ⟨hx, hb, hml, hown, hts⟩ (kW_tell l D E h (a.1 d 0) (a.1 d 1) (a.1 d 2) (um_words d) (S.1 d 2) (nI (um_dur d)) (nI (S.1 d 0)) (nI (S.1 d 1)) (nI (S.1 d 5)) (if d = 18 then 1 else 0) (lN (S.1 d 4)) gk H.size) (va_cwA (owner := "UnitRoom$Device") 0 hts (ur_gU mw541 mw543 mw551 mw552 mw10 mw553) rfl rfl rfl (hK.2.1.2.1 ⟨"UnitRoom$Device", "tell", "()I"⟩ (by decide +kernel)) (by decide +kernel) ⟨(Nat.le_of_ble_eq_true rfl), (Nat.le_of_ble_eq_true rfl)⟩) ⟨ur_blind, va_recv hV (ur_one hI.1 gk) (ci := 6) (q0 := 0) rfl rfl, ur_pre hI hO hK (fun _ _ q => q)⟩ rfl rfl hl.1 rfl (lv_room (Nat.le_of_ble_eq_true rfl)) dU_unit_15 ⟨Nat.le_of_ble_eq_true rfl, Nat.le_of_ble_eq_true rfl⟩) hI (fun r5 h5 H locs p5 hI => ?_)
      obtain ⟨er5, eh5⟩ := p5
      replace eh5 := eh5.symm; subst eh5
      replace er5 := er5.symm; subst er5
      exact ur_ri hx hb hr hlocks hI hQ ⟨(by unfold um_unit; rw [hun]; show _ = um_tell S d; unfold um_tell; rw [if_neg (by omega), if_neg (by omega)]), rfl⟩ dU_unit_18
theorem dU_letter_0 : decode cU_letter 0 = .ok (.aload_n 0, 1) := by decide +kernel
theorem dU_letter_1 : decode cU_letter 1 = .ok (.iload_n 1, 1) := by decide +kernel
theorem dU_letter_2 : decode cU_letter 2 = .ok (.invokevirtual 83, 3) := by decide +kernel
theorem dU_letter_5 : decode cU_letter 5 = .ok (.astore 4, 2) := by decide +kernel
theorem dU_letter_7 : decode cU_letter 7 = .ok (.aload 4, 2) := by decide +kernel
theorem dU_letter_9 : decode cU_letter 9 = .ok (.instanceof 42, 3) := by decide +kernel
theorem dU_letter_12 : decode cU_letter 12 = .ok (.ifCond .eq 18, 3) := by decide +kernel
theorem dU_letter_15 : decode cU_letter 15 = .ok (.aload 4, 2) := by decide +kernel
theorem dU_letter_17 : decode cU_letter 17 = .ok (.checkcast 42, 3) := by decide +kernel
theorem dU_letter_20 : decode cU_letter 20 = .ok (.astore 5, 2) := by decide +kernel
theorem dU_letter_22 : decode cU_letter 22 = .ok (.aload 5, 2) := by decide +kernel
theorem dU_letter_24 : decode cU_letter 24 = .ok (.iload_n 2, 1) := by decide +kernel
theorem dU_letter_25 : decode cU_letter 25 = .ok (.iload_n 3, 1) := by decide +kernel
theorem dU_letter_26 : decode cU_letter 26 = .ok (.invokevirtual 128, 3) := by decide +kernel
theorem dU_letter_29 : decode cU_letter 29 = .ok (.ireturn, 1) := by decide +kernel
theorem dU_letter_30 : decode cU_letter 30 = .ok (.iconst (-1), 1) := by decide +kernel
theorem dU_letter_31 : decode cU_letter 31 = .ok (.ireturn, 1) := by decide +kernel
abbrev rmkU_letter : Room := { frames := 1, cells := 0, slots := 0, locals := 23 }
set_option maxHeartbeats 4000000 in
set_option maxRecDepth 100000 in
theorem kU_letter (l : Launch) (D : va_G) (E : ur_Ev) (h : ur_M) (a : um_Ad) (S : um_S) (u : Int32) (k : Int32) (i : Int32)  (hR : um_R E a S h) (hB : um_Bd S) (hw3 : ∀ d, um_kind d = 3 → S.1 d 2 ≤ 300) : ur_Mi l yU_letter wsU_letter rmkU_letter D vwCl (ur_v E) [.ref (a.1 20 0), .int u, .int k, .int i] h (fun r h2 => r = um_letr S u k i ∧ h2 = h) 0 0 := by
  intro sz
  refine ur_of (cc := cU_letter) (maxL := 6) (ret := (some .int)) (by decide) rfl (Nat.le_of_ble_eq_true rfl) ?_
  intro p e s m args below meth c ls Q hsz hx hb hml hr hlocks hnm hown hts hO hK hI hQ hl
  subst hsz
  have hV := hK.1
  have hts : ∀ w ∈ ur_G, w.before args s = true := fun w hw => hts w (List.mem_cons_of_mem _ hw)
  have hZ : ur_Z E (ur_A h s.heap.size) s s.heap := hO.1
  have hown : s.vm.findClass "UnitRoom" = some m.cls := hown
  have hl : lv_has ls 6 [(0, .ref (a.1 20 0)), (1, .int u), (2, .int k), (3, .int i)] := hl
  have g0 : h (a.1 20 0) = some (.inr (0, [.ref (a.1 20 1), .ref (a.1 20 3), .ref (a.1 16 0), .ref (a.1 20 5), .long (lN (S.1 20 2)), .int (nI (S.1 20 0))])) := hR.core rfl
  have g5 : h (a.1 20 5) = some (.inl (E.1 2, 20, .inr (.inr (.inr (.inr (um_devs a)))))) := hR.core rfl
  refine lv_aload_n hx hb dU_letter_0 rfl (lv_at hl 0 rfl) ?_
  refine lv_iload_n hx hb dU_letter_1 rfl (lv_at hl 1 rfl) ?_
  refine ur_xq (va_runV (As := [.int u]) (rest := []) ⟨hx, hb, hml, hown, hts⟩ (kU_dev l D E h (a.1 20 0) (a.1 20 1) (a.1 20 3) (a.1 16 0) (a.1 20 5) (lN (S.1 20 2)) (nI (S.1 20 0)) (um_devs a) u g0 g5 s.heap.size) (cwV 1 hts (ur_gV mw243 mw245 ms0 mw1 mw246) rfl rfl rfl (by decide +kernel) ⟨(Nat.le_of_ble_eq_true rfl), (Nat.le_of_ble_eq_true rfl)⟩) ⟨ur_blind, va_recv hV (ur_one hI.1 g0) (ci := 0) (q0 := 0) rfl rfl, ur_pre hI hO hK (fun _ _ q => q)⟩ rfl rfl hl.1 rfl (lv_room (Nat.le_of_ble_eq_true rfl)) dU_letter_2 ⟨Nat.le_of_ble_eq_true rfl, Nat.le_of_ble_eq_true rfl⟩) hI (fun r1 h1 H locs p1 hI => ?_)
  obtain ⟨er1, eh1⟩ := p1
  replace eh1 := eh1.symm; subst eh1
  replace er1 := er1.symm; subst er1
  rw [um_dvo_un]
  rcases hun : um_un u with _ | d
  · refine lv_astoreN (lv' := [(4, .null), (0, .ref (a.1 20 0)), (1, .int u), (2, .int k), (3, .int i)]) hx hb dU_letter_5 hl (by decide) rfl (fun ls hl => ?_)
    refine lv_aloadN hx hb dU_letter_7 (lv_at hl 0 rfl) ?_
    refine lv_instN hx hb dU_letter_9 ?_
    refine lv_if_eq (tgt := 30) hx hb dU_letter_12 (by decide) (fun c2 => ?_) (fun c2 => absurd c2 (by decide))
    refine lv_iconst (v := (-1)) hx hb dU_letter_30 (by decide) ?_
    exact ur_ri hx hb hr hlocks hI hQ ⟨(by unfold um_letr; rw [hun]), rfl⟩ dU_letter_31
  · obtain ⟨hk9, hu9⟩ := um_un_k hun
    have gu : h (a.1 d 0) = some (.inr ((um_ci d), .int (nI (um_words d)) :: .ref (a.1 d 1) :: .int (nI (um_dur d)) :: .long (lN (S.1 d 4)) :: .int (nI (S.1 d 0)) :: .int (nI (S.1 d 1)) :: .int (nI (S.1 d 5)) :: um_tl a S d)) := hR.dev hk9
    refine lv_astore (lv' := [(4, .ref (a.1 d 0)), (0, .ref (a.1 20 0)), (1, .int u), (2, .int k), (3, .int i)]) hx hb dU_letter_5 hl (by decide) rfl (fun ls hl => ?_)
    refine lv_aload hx hb dU_letter_7 (lv_at hl 0 rfl) ?_
    rcases um_kinds hk9 with hkk | hkk | hkk | hkk
    · have gk : h (a.1 d 0) = some (.inr (3, [.int 100, .ref (a.1 d 1), .int (nI (um_dur d)), .long (lN (S.1 d 4)), .int (nI (S.1 d 0)), .int (nI (S.1 d 1)), .int (nI (S.1 d 5)), .int (nI (S.1 d 2)), .ref (a.1 d 2)])) := (um_R.dev hR hk9).trans (by rw [um_devT hkk])
      refine va_instNo (C := "UnitRoom$Tape") hx hb hown (hts _ mw145) (hK.2.1.2.2.2.1 ("UnitRoom$Tape", "UnitRoom$Writer") (by decide +kernel)) (va_recv hV (ur_one hI.1 gk) (ci := 3) (q0 := 0) rfl rfl) dU_letter_9 ?_
      refine lv_if_eq (tgt := 30) hx hb dU_letter_12 (by decide) (fun c3 => ?_) (fun c3 => absurd c3 (by decide))
      refine lv_iconst (v := (-1)) hx hb dU_letter_30 (by decide) ?_
      exact ur_ri hx hb hr hlocks hI hQ ⟨(by unfold um_letr; rw [hun]; show _ = (if um_kind d = 3 then _ else _); rw [if_neg (by omega)]), rfl⟩ dU_letter_31
    · have gk : h (a.1 d 0) = some (.inr (4, [.int 100, .ref (a.1 d 1), .int (nI (um_dur d)), .long (lN (S.1 d 4)), .int (nI (S.1 d 0)), .int (nI (S.1 d 1)), .int (nI (S.1 d 5)), .ref (a.1 d 2)])) := (um_R.dev hR hk9).trans (by rw [um_devK hkk])
      refine va_instNo (C := "UnitRoom$Disk") hx hb hown (hts _ mw145) (hK.2.1.2.2.2.1 ("UnitRoom$Disk", "UnitRoom$Writer") (by decide +kernel)) (va_recv hV (ur_one hI.1 gk) (ci := 4) (q0 := 0) rfl rfl) dU_letter_9 ?_
      refine lv_if_eq (tgt := 30) hx hb dU_letter_12 (by decide) (fun c4 => ?_) (fun c4 => absurd c4 (by decide))
      refine lv_iconst (v := (-1)) hx hb dU_letter_30 (by decide) ?_
      exact ur_ri hx hb hr hlocks hI hQ ⟨(by unfold um_letr; rw [hun]; show _ = (if um_kind d = 3 then _ else _); rw [if_neg (by omega)]), rfl⟩ dU_letter_31
    · have gk : h (a.1 d 0) = some (.inr (5, [.int 16, .ref (a.1 d 1), .int (nI (um_dur d)), .long (lN (S.1 d 4)), .int (nI (S.1 d 0)), .int (nI (S.1 d 1)), .int (nI (S.1 d 5)), .ref (a.1 d 2), .int (nI (S.1 d 2)), .int (nI (S.1 d 3))])) := (um_R.dev hR hk9).trans (by rw [um_devR hkk])
      refine va_instNo (C := "UnitRoom$Reader") hx hb hown (hts _ mw145) (hK.2.1.2.2.2.1 ("UnitRoom$Reader", "UnitRoom$Writer") (by decide +kernel)) (va_recv hV (ur_one hI.1 gk) (ci := 5) (q0 := 0) rfl rfl) dU_letter_9 ?_
      refine lv_if_eq (tgt := 30) hx hb dU_letter_12 (by decide) (fun c5 => ?_) (fun c5 => absurd c5 (by decide))
      refine lv_iconst (v := (-1)) hx hb dU_letter_30 (by decide) ?_
      exact ur_ri hx hb hr hlocks hI hQ ⟨(by unfold um_letr; rw [hun]; show _ = (if um_kind d = 3 then _ else _); rw [if_neg (by omega)]), rfl⟩ dU_letter_31
    · have gk : h (a.1 d 0) = some (.inr (6, [.int (nI (um_words d)), .ref (a.1 d 1), .int (nI (um_dur d)), .long (lN (S.1 d 4)), .int (nI (S.1 d 0)), .int (nI (S.1 d 1)), .int (nI (S.1 d 5)), .ref (a.1 d 2), .int (if d = 18 then 1 else 0), .int (nI (S.1 d 2))])) := (um_R.dev hR hk9).trans (by rw [um_devW hkk])
      have gl : h (a.1 d 2) = some (.inl (E.1 4, 300, .inr (.inr (.inr (.inr (um_rows a d)))))) := (um_R.two hR hk9).trans (by rw [um_twoW hkk])
      refine va_instY (C := "UnitRoom$Writer") hx hb hown (hts _ mw145) (hK.2.1.2.2.1 ("UnitRoom$Writer", "UnitRoom$Writer") (by decide +kernel)) (va_recv hV (ur_one hI.1 gk) (ci := 6) (q0 := 0) rfl rfl) dU_letter_9 ?_
      refine lv_if_eq (tgt := 30) hx hb dU_letter_12 (by decide) (fun c6 => absurd c6 (by decide)) (fun c6 => ?_)
      refine lv_aload hx hb dU_letter_15 (lv_at hl 0 rfl) ?_
      refine va_castY (C := "UnitRoom$Writer") hx hb hown (hts _ mw145) (hK.2.1.2.2.1 ("UnitRoom$Writer", "UnitRoom$Writer") (by decide +kernel)) (va_recv hV (ur_one hI.1 gk) (ci := 6) (q0 := 0) rfl rfl) dU_letter_17 ?_
      refine lv_astore (lv' := [(5, .ref (a.1 d 0)), (4, .ref (a.1 d 0)), (0, .ref (a.1 20 0)), (1, .int u), (2, .int k), (3, .int i)]) hx hb dU_letter_20 hl (by decide) rfl (fun ls hl => ?_)
      refine lv_aload hx hb dU_letter_22 (lv_at hl 0 rfl) ?_
      refine lv_iload_n hx hb dU_letter_24 rfl (lv_at hl 4 rfl) ?_
      refine lv_iload_n hx hb dU_letter_25 rfl (lv_at hl 5 rfl) ?_
      refine ur_xi (va_runV (As := [.int k, .int i]) (rest := []) ⟨hx, hb, hml, hown, hts⟩ (kW_letter l D E h (a.1 d 0) (a.1 d 1) (a.1 d 2) (um_words d) (S.1 d 2) (nI (um_dur d)) (nI (S.1 d 0)) (nI (S.1 d 1)) (nI (S.1 d 5)) (if d = 18 then 1 else 0) (lN (S.1 d 4)) (um_rows a d) (fun b => S.1 d (6 + b)) (fun b => S.2 d (3 + b)) k i gk gl (hw3 d hkk) (um_R.linesAt hR hkk) H.size) (cwV 2 hts (ur_gV mw558 mw559 mw560 mw10 mw561) rfl rfl rfl (by decide +kernel) ⟨(Nat.le_of_ble_eq_true rfl), (Nat.le_of_ble_eq_true rfl)⟩) ⟨ur_blind, va_recv hV (ur_one hI.1 gk) (ci := 6) (q0 := 0) rfl rfl, ur_pre hI hO hK (fun _ _ q => q)⟩ rfl rfl hl.1 rfl (lv_room (Nat.le_of_ble_eq_true rfl)) dU_letter_26 ⟨Nat.le_of_ble_eq_true rfl, Nat.le_of_ble_eq_true rfl⟩) hI (fun r7 h7 H locs p7 hI => ?_)
      obtain ⟨er7, eh7⟩ := p7
      replace eh7 := eh7.symm; subst eh7
      replace er7 := er7.symm; subst er7
      exact ur_ri hx hb hr hlocks hI hQ ⟨(by unfold um_letr; rw [hun]; show _ = (if um_kind d = 3 then _ else _); rw [if_pos hkk]), rfl⟩ dU_letter_29
theorem dU_block_0 : decode cU_block 0 = .ok (.aload_n 0, 1) := by decide +kernel
theorem dU_block_1 : decode cU_block 1 = .ok (.iload_n 1, 1) := by decide +kernel
theorem dU_block_2 : decode cU_block 2 = .ok (.invokevirtual 83, 3) := by decide +kernel
theorem dU_block_5 : decode cU_block 5 = .ok (.astore 4, 2) := by decide +kernel
theorem dU_block_7 : decode cU_block 7 = .ok (.aload 4, 2) := by decide +kernel
theorem dU_block_9 : decode cU_block 9 = .ok (.instanceof 131, 3) := by decide +kernel
theorem dU_block_12 : decode cU_block 12 = .ok (.ifCond .eq 18, 3) := by decide +kernel
theorem dU_block_15 : decode cU_block 15 = .ok (.aload 4, 2) := by decide +kernel
theorem dU_block_17 : decode cU_block 17 = .ok (.checkcast 131, 3) := by decide +kernel
theorem dU_block_20 : decode cU_block 20 = .ok (.astore 5, 2) := by decide +kernel
theorem dU_block_22 : decode cU_block 22 = .ok (.aload 5, 2) := by decide +kernel
theorem dU_block_24 : decode cU_block 24 = .ok (.iload_n 2, 1) := by decide +kernel
theorem dU_block_25 : decode cU_block 25 = .ok (.iload_n 3, 1) := by decide +kernel
theorem dU_block_26 : decode cU_block 26 = .ok (.invokevirtual 133, 3) := by decide +kernel
theorem dU_block_29 : decode cU_block 29 = .ok (.ireturn, 1) := by decide +kernel
theorem dU_block_30 : decode cU_block 30 = .ok (.ldc 136, 2) := by decide +kernel
theorem dU_block_32 : decode cU_block 32 = .ok (.ireturn, 1) := by decide +kernel
abbrev rmkU_block : Room := { frames := 1, cells := 0, slots := 0, locals := 23 }
set_option maxHeartbeats 4000000 in
set_option maxRecDepth 100000 in
theorem kU_block (l : Launch) (D : va_G) (E : ur_Ev) (h : ur_M) (a : um_Ad) (S : um_S) (u : Int32) (b : Int32) (i : Int32)  (hR : um_R E a S h) (hB : um_Bd S) : ur_Mi l yU_block wsU_block rmkU_block D vwCl (ur_v E) [.ref (a.1 20 0), .int u, .int b, .int i] h (fun r h2 => r = um_blck S u b i ∧ h2 = h) 0 0 := by
  intro sz
  refine ur_of (cc := cU_block) (maxL := 6) (ret := (some .int)) (by decide) rfl (Nat.le_of_ble_eq_true rfl) ?_
  intro p e s m args below meth c ls Q hsz hx hb hml hr hlocks hnm hown hts hO hK hI hQ hl
  subst hsz
  have hV := hK.1
  have hts : ∀ w ∈ ur_G, w.before args s = true := fun w hw => hts w (List.mem_cons_of_mem _ hw)
  have hZ : ur_Z E (ur_A h s.heap.size) s s.heap := hO.1
  have hown : s.vm.findClass "UnitRoom" = some m.cls := hown
  have hl : lv_has ls 6 [(0, .ref (a.1 20 0)), (1, .int u), (2, .int b), (3, .int i)] := hl
  have g0 : h (a.1 20 0) = some (.inr (0, [.ref (a.1 20 1), .ref (a.1 20 3), .ref (a.1 16 0), .ref (a.1 20 5), .long (lN (S.1 20 2)), .int (nI (S.1 20 0))])) := hR.core rfl
  have g5 : h (a.1 20 5) = some (.inl (E.1 2, 20, .inr (.inr (.inr (.inr (um_devs a)))))) := hR.core rfl
  refine lv_aload_n hx hb dU_block_0 rfl (lv_at hl 0 rfl) ?_
  refine lv_iload_n hx hb dU_block_1 rfl (lv_at hl 1 rfl) ?_
  refine ur_xq (va_runV (As := [.int u]) (rest := []) ⟨hx, hb, hml, hown, hts⟩ (kU_dev l D E h (a.1 20 0) (a.1 20 1) (a.1 20 3) (a.1 16 0) (a.1 20 5) (lN (S.1 20 2)) (nI (S.1 20 0)) (um_devs a) u g0 g5 s.heap.size) (cwV 1 hts (ur_gV mw243 mw245 ms0 mw1 mw246) rfl rfl rfl (by decide +kernel) ⟨(Nat.le_of_ble_eq_true rfl), (Nat.le_of_ble_eq_true rfl)⟩) ⟨ur_blind, va_recv hV (ur_one hI.1 g0) (ci := 0) (q0 := 0) rfl rfl, ur_pre hI hO hK (fun _ _ q => q)⟩ rfl rfl hl.1 rfl (lv_room (Nat.le_of_ble_eq_true rfl)) dU_block_2 ⟨Nat.le_of_ble_eq_true rfl, Nat.le_of_ble_eq_true rfl⟩) hI (fun r1 h1 H locs p1 hI => ?_)
  obtain ⟨er1, eh1⟩ := p1
  replace eh1 := eh1.symm; subst eh1
  replace er1 := er1.symm; subst er1
  rw [um_dvo_un]
  rcases hun : um_un u with _ | d
  · refine lv_astoreN (lv' := [(4, .null), (0, .ref (a.1 20 0)), (1, .int u), (2, .int b), (3, .int i)]) hx hb dU_block_5 hl (by decide) rfl (fun ls hl => ?_)
    refine lv_aloadN hx hb dU_block_7 (lv_at hl 0 rfl) ?_
    refine lv_instN hx hb dU_block_9 ?_
    refine lv_if_eq (tgt := 30) hx hb dU_block_12 (by decide) (fun c2 => ?_) (fun c2 => absurd c2 (by decide))
    refine lv_ldc (v := 2147483647) hx hb hown (hts _ mw568) dU_block_30 ?_
    exact ur_ri hx hb hr hlocks hI hQ ⟨(by unfold um_blck; rw [hun]), rfl⟩ dU_block_32
  · obtain ⟨hk9, hu9⟩ := um_un_k hun
    have gu : h (a.1 d 0) = some (.inr ((um_ci d), .int (nI (um_words d)) :: .ref (a.1 d 1) :: .int (nI (um_dur d)) :: .long (lN (S.1 d 4)) :: .int (nI (S.1 d 0)) :: .int (nI (S.1 d 1)) :: .int (nI (S.1 d 5)) :: um_tl a S d)) := hR.dev hk9
    refine lv_astore (lv' := [(4, .ref (a.1 d 0)), (0, .ref (a.1 20 0)), (1, .int u), (2, .int b), (3, .int i)]) hx hb dU_block_5 hl (by decide) rfl (fun ls hl => ?_)
    refine lv_aload hx hb dU_block_7 (lv_at hl 0 rfl) ?_
    rcases um_kinds hk9 with hkk | hkk | hkk | hkk
    · have gk : h (a.1 d 0) = some (.inr (3, [.int 100, .ref (a.1 d 1), .int (nI (um_dur d)), .long (lN (S.1 d 4)), .int (nI (S.1 d 0)), .int (nI (S.1 d 1)), .int (nI (S.1 d 5)), .int (nI (S.1 d 2)), .ref (a.1 d 2)])) := (um_R.dev hR hk9).trans (by rw [um_devT hkk])
      have gl : h (a.1 d 2) = some (.inl (E.1 3, 64, .inr (.inr (.inr (.inr (um_rows a d)))))) := (um_R.two hR hk9).trans (by rw [um_twoB (by omega)])
      refine va_instY (C := "UnitRoom$Tape") hx hb hown (hts _ mw566) (hK.2.1.2.2.1 ("UnitRoom$Tape", "UnitRoom$BlockDevice") (by decide +kernel)) (va_recv hV (ur_one hI.1 gk) (ci := 3) (q0 := 0) rfl rfl) dU_block_9 ?_
      refine lv_if_eq (tgt := 30) hx hb dU_block_12 (by decide) (fun c3 => absurd c3 (by decide)) (fun c3 => ?_)
      refine lv_aload hx hb dU_block_15 (lv_at hl 0 rfl) ?_
      refine va_castY (C := "UnitRoom$Tape") hx hb hown (hts _ mw566) (hK.2.1.2.2.1 ("UnitRoom$Tape", "UnitRoom$BlockDevice") (by decide +kernel)) (va_recv hV (ur_one hI.1 gk) (ci := 3) (q0 := 0) rfl rfl) dU_block_17 ?_
      refine lv_astore (lv' := [(5, .ref (a.1 d 0)), (4, .ref (a.1 d 0)), (0, .ref (a.1 20 0)), (1, .int u), (2, .int b), (3, .int i)]) hx hb dU_block_20 hl (by decide) rfl (fun ls hl => ?_)
      refine lv_aload hx hb dU_block_22 (lv_at hl 0 rfl) ?_
      refine lv_iload_n hx hb dU_block_24 rfl (lv_at hl 4 rfl) ?_
      refine lv_iload_n hx hb dU_block_25 rfl (lv_at hl 5 rfl) ?_
      refine ur_xi (va_runU (As := [.int b, .int i]) (rest := []) ⟨hx, hb, hml, hown, hts⟩ (kB_wordAt_T l D E h (a.1 d 0) (a.1 d 1) (a.1 d 2) (nI (um_dur d)) (nI (S.1 d 0)) (nI (S.1 d 1)) (nI (S.1 d 5)) (nI (S.1 d 2)) (lN (S.1 d 4)) (um_rows a d) (fun b => S.2 d (3 + b)) b i gk gl (um_R.rowsAt hR (by omega)) H.size) (va_cwU (owner := "UnitRoom$BlockDevice") 2 hts (ur_gU mw567 mw322 mw324 mw321 mw7 mw325) rfl rfl rfl rfl (by decide +kernel) ⟨(Nat.le_of_ble_eq_true rfl), (Nat.le_of_ble_eq_true rfl)⟩) ⟨ur_blind, va_recv hV (ur_one hI.1 gk) (ci := 3) (q0 := 0) rfl rfl, ur_pre hI hO hK (fun _ _ q => q)⟩ rfl rfl hl.1 rfl (lv_room (Nat.le_of_ble_eq_true rfl)) dU_block_26 ⟨Nat.le_of_ble_eq_true rfl, Nat.le_of_ble_eq_true rfl⟩) hI (fun r4 h4 H locs p4 hI => ?_)
      obtain ⟨er4, eh4⟩ := p4
      replace eh4 := eh4.symm; subst eh4
      replace er4 := er4.symm; subst er4
      exact ur_ri hx hb hr hlocks hI hQ ⟨(by unfold um_blck; rw [hun]; show _ = (if um_kind d ≤ 1 then _ else _); rw [if_pos (by omega)]), rfl⟩ dU_block_29
    · have gk : h (a.1 d 0) = some (.inr (4, [.int 100, .ref (a.1 d 1), .int (nI (um_dur d)), .long (lN (S.1 d 4)), .int (nI (S.1 d 0)), .int (nI (S.1 d 1)), .int (nI (S.1 d 5)), .ref (a.1 d 2)])) := (um_R.dev hR hk9).trans (by rw [um_devK hkk])
      have gl : h (a.1 d 2) = some (.inl (E.1 3, 64, .inr (.inr (.inr (.inr (um_rows a d)))))) := (um_R.two hR hk9).trans (by rw [um_twoB (by omega)])
      refine va_instY (C := "UnitRoom$Disk") hx hb hown (hts _ mw566) (hK.2.1.2.2.1 ("UnitRoom$Disk", "UnitRoom$BlockDevice") (by decide +kernel)) (va_recv hV (ur_one hI.1 gk) (ci := 4) (q0 := 0) rfl rfl) dU_block_9 ?_
      refine lv_if_eq (tgt := 30) hx hb dU_block_12 (by decide) (fun c5 => absurd c5 (by decide)) (fun c5 => ?_)
      refine lv_aload hx hb dU_block_15 (lv_at hl 0 rfl) ?_
      refine va_castY (C := "UnitRoom$Disk") hx hb hown (hts _ mw566) (hK.2.1.2.2.1 ("UnitRoom$Disk", "UnitRoom$BlockDevice") (by decide +kernel)) (va_recv hV (ur_one hI.1 gk) (ci := 4) (q0 := 0) rfl rfl) dU_block_17 ?_
      refine lv_astore (lv' := [(5, .ref (a.1 d 0)), (4, .ref (a.1 d 0)), (0, .ref (a.1 20 0)), (1, .int u), (2, .int b), (3, .int i)]) hx hb dU_block_20 hl (by decide) rfl (fun ls hl => ?_)
      refine lv_aload hx hb dU_block_22 (lv_at hl 0 rfl) ?_
      refine lv_iload_n hx hb dU_block_24 rfl (lv_at hl 4 rfl) ?_
      refine lv_iload_n hx hb dU_block_25 rfl (lv_at hl 5 rfl) ?_
      refine ur_xi (va_runU (As := [.int b, .int i]) (rest := []) ⟨hx, hb, hml, hown, hts⟩ (kB_wordAt_K l D E h (a.1 d 0) (a.1 d 1) (a.1 d 2) (nI (um_dur d)) (nI (S.1 d 0)) (nI (S.1 d 1)) (nI (S.1 d 5)) (lN (S.1 d 4)) (um_rows a d) (fun b => S.2 d (3 + b)) b i gk gl (um_R.rowsAt hR (by omega)) H.size) (va_cwU (owner := "UnitRoom$BlockDevice") 2 hts (ur_gU mw567 mw322 mw323 mw321 mw7 mw325) rfl rfl rfl rfl (by decide +kernel) ⟨(Nat.le_of_ble_eq_true rfl), (Nat.le_of_ble_eq_true rfl)⟩) ⟨ur_blind, va_recv hV (ur_one hI.1 gk) (ci := 4) (q0 := 0) rfl rfl, ur_pre hI hO hK (fun _ _ q => q)⟩ rfl rfl hl.1 rfl (lv_room (Nat.le_of_ble_eq_true rfl)) dU_block_26 ⟨Nat.le_of_ble_eq_true rfl, Nat.le_of_ble_eq_true rfl⟩) hI (fun r6 h6 H locs p6 hI => ?_)
      obtain ⟨er6, eh6⟩ := p6
      replace eh6 := eh6.symm; subst eh6
      replace er6 := er6.symm; subst er6
      exact ur_ri hx hb hr hlocks hI hQ ⟨(by unfold um_blck; rw [hun]; show _ = (if um_kind d ≤ 1 then _ else _); rw [if_pos (by omega)]), rfl⟩ dU_block_29
    · have gk : h (a.1 d 0) = some (.inr (5, [.int 16, .ref (a.1 d 1), .int (nI (um_dur d)), .long (lN (S.1 d 4)), .int (nI (S.1 d 0)), .int (nI (S.1 d 1)), .int (nI (S.1 d 5)), .ref (a.1 d 2), .int (nI (S.1 d 2)), .int (nI (S.1 d 3))])) := (um_R.dev hR hk9).trans (by rw [um_devR hkk])
      refine va_instNo (C := "UnitRoom$Reader") hx hb hown (hts _ mw566) (hK.2.1.2.2.2.1 ("UnitRoom$Reader", "UnitRoom$BlockDevice") (by decide +kernel)) (va_recv hV (ur_one hI.1 gk) (ci := 5) (q0 := 0) rfl rfl) dU_block_9 ?_
      refine lv_if_eq (tgt := 30) hx hb dU_block_12 (by decide) (fun c7 => ?_) (fun c7 => absurd c7 (by decide))
      refine lv_ldc (v := 2147483647) hx hb hown (hts _ mw568) dU_block_30 ?_
      exact ur_ri hx hb hr hlocks hI hQ ⟨(by unfold um_blck; rw [hun]; show _ = (if um_kind d ≤ 1 then _ else _); rw [if_neg (by omega)]), rfl⟩ dU_block_32
    · have gk : h (a.1 d 0) = some (.inr (6, [.int (nI (um_words d)), .ref (a.1 d 1), .int (nI (um_dur d)), .long (lN (S.1 d 4)), .int (nI (S.1 d 0)), .int (nI (S.1 d 1)), .int (nI (S.1 d 5)), .ref (a.1 d 2), .int (if d = 18 then 1 else 0), .int (nI (S.1 d 2))])) := (um_R.dev hR hk9).trans (by rw [um_devW hkk])
      refine va_instNo (C := "UnitRoom$Writer") hx hb hown (hts _ mw566) (hK.2.1.2.2.2.1 ("UnitRoom$Writer", "UnitRoom$BlockDevice") (by decide +kernel)) (va_recv hV (ur_one hI.1 gk) (ci := 6) (q0 := 0) rfl rfl) dU_block_9 ?_
      refine lv_if_eq (tgt := 30) hx hb dU_block_12 (by decide) (fun c8 => ?_) (fun c8 => absurd c8 (by decide))
      refine lv_ldc (v := 2147483647) hx hb hown (hts _ mw568) dU_block_30 ?_
      exact ur_ri hx hb hr hlocks hI hQ ⟨(by unfold um_blck; rw [hun]; show _ = (if um_kind d ≤ 1 then _ else _); rw [if_neg (by omega)]), rfl⟩ dU_block_32
theorem dU_faultOf_0 : decode cU_faultOf 0 = .ok (.iload_n 2, 1) := by decide +kernel
theorem dU_faultOf_1 : decode cU_faultOf 1 = .ok (.ifCond .lt 8, 3) := by decide +kernel
theorem dU_faultOf_4 : decode cU_faultOf 4 = .ok (.iload_n 2, 1) := by decide +kernel
theorem dU_faultOf_5 : decode cU_faultOf 5 = .ok (.iconst 2, 1) := by decide +kernel
theorem dU_faultOf_6 : decode cU_faultOf 6 = .ok (.if_icmp .le 5, 3) := by decide +kernel
theorem dU_faultOf_9 : decode cU_faultOf 9 = .ok (.iconst 1, 1) := by decide +kernel
theorem dU_faultOf_10 : decode cU_faultOf 10 = .ok (.ireturn, 1) := by decide +kernel
theorem dU_faultOf_11 : decode cU_faultOf 11 = .ok (.aload_n 1, 1) := by decide +kernel
theorem dU_faultOf_12 : decode cU_faultOf 12 = .ok (.ifnonnull 7, 3) := by decide +kernel
theorem dU_faultOf_15 : decode cU_faultOf 15 = .ok (.iconst 1, 1) := by decide +kernel
theorem dU_faultOf_16 : decode cU_faultOf 16 = .ok (.goto 7, 3) := by decide +kernel
theorem dU_faultOf_19 : decode cU_faultOf 19 = .ok (.aload_n 1, 1) := by decide +kernel
theorem dU_faultOf_20 : decode cU_faultOf 20 = .ok (.getfield 137, 3) := by decide +kernel
theorem dU_faultOf_23 : decode cU_faultOf 23 = .ok (.istore 5, 2) := by decide +kernel
theorem dU_faultOf_25 : decode cU_faultOf 25 = .ok (.iload_n 2, 1) := by decide +kernel
theorem dU_faultOf_26 : decode cU_faultOf 26 = .ok (.ifCond .eq 18, 3) := by decide +kernel
theorem dU_faultOf_29 : decode cU_faultOf 29 = .ok (.aload_n 0, 1) := by decide +kernel
theorem dU_faultOf_30 : decode cU_faultOf 30 = .ok (.getfield 10, 3) := by decide +kernel
theorem dU_faultOf_33 : decode cU_faultOf 33 = .ok (.iload_n 3, 1) := by decide +kernel
theorem dU_faultOf_34 : decode cU_faultOf 34 = .ok (.iload 5, 2) := by decide +kernel
theorem dU_faultOf_36 : decode cU_faultOf 36 = .ok (.invokevirtual 67, 3) := by decide +kernel
theorem dU_faultOf_39 : decode cU_faultOf 39 = .ok (.ifCond .ne 5, 3) := by decide +kernel
theorem dU_faultOf_42 : decode cU_faultOf 42 = .ok (.iconst 2, 1) := by decide +kernel
theorem dU_faultOf_43 : decode cU_faultOf 43 = .ok (.ireturn, 1) := by decide +kernel
theorem dU_faultOf_44 : decode cU_faultOf 44 = .ok (.aload_n 1, 1) := by decide +kernel
theorem dU_faultOf_45 : decode cU_faultOf 45 = .ok (.ifnonnull 7, 3) := by decide +kernel
theorem dU_faultOf_48 : decode cU_faultOf 48 = .ok (.iconst 5, 1) := by decide +kernel
theorem dU_faultOf_49 : decode cU_faultOf 49 = .ok (.goto 11, 3) := by decide +kernel
theorem dU_faultOf_52 : decode cU_faultOf 52 = .ok (.aload_n 1, 1) := by decide +kernel
theorem dU_faultOf_53 : decode cU_faultOf 53 = .ok (.iload_n 2, 1) := by decide +kernel
theorem dU_faultOf_54 : decode cU_faultOf 54 = .ok (.iload_n 3, 1) := by decide +kernel
theorem dU_faultOf_55 : decode cU_faultOf 55 = .ok (.iload 4, 2) := by decide +kernel
theorem dU_faultOf_57 : decode cU_faultOf 57 = .ok (.invokevirtual 140, 3) := by decide +kernel
theorem dU_faultOf_60 : decode cU_faultOf 60 = .ok (.ireturn, 1) := by decide +kernel
abbrev rmkU_fltN : Room := { frames := 1, cells := 0, slots := 0, locals := 22 }
set_option maxHeartbeats 4000000 in
set_option maxRecDepth 100000 in
theorem kU_fltN (l : Launch) (D : va_G) (E : ur_Ev) (h : ur_M) (a : um_Ad) (S : um_S) (op : Int32) (mv : Int32) (x : Int32)  (hR : um_R E a S h) (hB : um_Bd S) : ur_Mi l yU_faultOf wsU_faultOf rmkU_fltN D vwCl (ur_v E) [.ref (a.1 20 0), .null, .int op, .int mv, .int x] h (fun r h2 => r = um_fltN op mv ∧ h2 = h) 0 0 := by
  intro sz
  refine ur_of (cc := cU_faultOf) (maxL := 6) (ret := (some .int)) (by decide) rfl (Nat.le_of_ble_eq_true rfl) ?_
  intro p e s m args below meth c ls Q hsz hx hb hml hr hlocks hnm hown hts hO hK hI hQ hl
  subst hsz
  have hV := hK.1
  have hts : ∀ w ∈ ur_G, w.before args s = true := fun w hw => hts w (List.mem_cons_of_mem _ hw)
  have hZ : ur_Z E (ur_A h s.heap.size) s s.heap := hO.1
  have hown : s.vm.findClass "UnitRoom" = some m.cls := hown
  have hl : lv_has ls 6 [(0, .ref (a.1 20 0)), (1, .null), (2, .int op), (3, .int mv), (4, .int x)] := hl
  have g0 : h (a.1 20 0) = some (.inr (0, [.ref (a.1 20 1), .ref (a.1 20 3), .ref (a.1 16 0), .ref (a.1 20 5), .long (lN (S.1 20 2)), .int (nI (S.1 20 0))])) := hR.core rfl
  have gm : h (a.1 20 1) = some (.inr (1, [.ref (a.1 20 2)])) := hR.core rfl
  have gc : h (a.1 20 2) = some (.inl (E.1 0, 4000, .inl (S.2 20 2))) := hR.core rfl
  refine lv_iload_n hx hb dU_faultOf_0 rfl (lv_at hl 2 rfl) ?_
  refine lv_if_lt (tgt := 9) hx hb dU_faultOf_1 (by decide) (fun c1 => ?_) (fun c1 => ?_)
  · refine lv_iconst (v := 1) hx hb dU_faultOf_9 (by decide) ?_
    exact ur_ri hx hb hr hlocks hI hQ ⟨(by first | (simp only [um_fltN, c1, ↓reduceIte]; done) | (simp only [um_fltN, c1, ↓reduceIte]; rfl) | rfl), rfl⟩ dU_faultOf_10
  · refine lv_iload_n hx hb dU_faultOf_4 rfl (lv_at hl 2 rfl) ?_
    refine lv_iconst (v := 2) hx hb dU_faultOf_5 (by decide) ?_
    refine lv_icmp_le (tgt := 11) hx hb dU_faultOf_6 (by decide) (fun c2 => ?_) (fun c2 => ?_)
    · refine lv_aload_nN hx hb dU_faultOf_11 rfl (lv_at hl 1 rfl) ?_
      refine lv_ifnonnullN hx hb dU_faultOf_12 ?_
      refine lv_iconst (v := 1) hx hb dU_faultOf_15 (by decide) ?_
      refine lv_goto (tgt := 23) hx hb dU_faultOf_16 (by decide) ?_
      refine lv_istore (lv' := [(5, .int 1), (0, .ref (a.1 20 0)), (1, .null), (2, .int op), (3, .int mv), (4, .int x)]) hx hb dU_faultOf_23 hl (by decide) rfl (fun ls hl => ?_)
      refine lv_iload_n hx hb dU_faultOf_25 rfl (lv_at hl 3 rfl) ?_
      refine lv_if_eq (tgt := 44) hx hb dU_faultOf_26 (by decide) (fun c3 => ?_) (fun c3 => ?_)
      · refine lv_aload_nN hx hb dU_faultOf_44 rfl (lv_at hl 2 rfl) ?_
        refine lv_ifnonnullN hx hb dU_faultOf_45 ?_
        refine lv_iconst (v := 5) hx hb dU_faultOf_48 (by decide) ?_
        refine lv_goto (tgt := 60) hx hb dU_faultOf_49 (by decide) ?_
        exact ur_ri hx hb hr hlocks hI hQ ⟨(by first | (simp only [um_fltN, c1, c2, c3, ↓reduceIte]; done) | (simp only [um_fltN, c1, c2, c3, ↓reduceIte]; rfl) | rfl), rfl⟩ dU_faultOf_60
      · refine lv_aload_n hx hb dU_faultOf_29 rfl (lv_at hl 1 rfl) ?_
        refine va_get (D := D) (ci := 0) (v := .ref (a.1 20 1)) (C := "UnitRoom") (T := TU) (N := 6) hx hb hts inU hown hV (ur_one hI.1 g0) 0 rfl rfl 0 (by decide) (hts _ mw170) (fun _ h9 => h9) rfl dU_faultOf_30 ?_
        refine lv_iload_n hx hb dU_faultOf_33 rfl (lv_at hl 4 rfl) ?_
        refine lv_iload hx hb dU_faultOf_34 (lv_at hl 0 rfl) ?_
        refine ur_xi (va_runV (As := [.int mv, .int 1]) (rest := []) ⟨hx, hb, hml, hown, hts⟩ (kM_h l D E h (a.1 20 1) (a.1 20 2) (S.2 20 2) mv 1 gm gc s.heap.size) (cwV 2 hts (ur_gV mw213 mw214 mw215 mw2 mw216) rfl rfl rfl (by decide +kernel) ⟨(Nat.le_of_ble_eq_true rfl), (Nat.le_of_ble_eq_true rfl)⟩) ⟨ur_blind, va_recv hV (ur_one hI.1 gm) (ci := 1) (q0 := 0) rfl rfl, ur_pre hI hO hK (fun _ _ q => q)⟩ rfl rfl hl.1 rfl (lv_room (Nat.le_of_ble_eq_true rfl)) dU_faultOf_36 ⟨Nat.le_of_ble_eq_true rfl, Nat.le_of_ble_eq_true rfl⟩) hI (fun r4 h4 H locs p4 hI => ?_)
        obtain ⟨er4, eh4⟩ := p4
        replace eh4 := eh4.symm; subst eh4
        refine lv_if_ne (tgt := 44) hx hb dU_faultOf_39 (by decide) (fun c5 => ?_) (fun c5 => ?_)
        · have k6 : (um_holds mv 1) = true := um_b1 er4 c5
          refine lv_aload_nN hx hb dU_faultOf_44 rfl (lv_at hl 2 rfl) ?_
          refine lv_ifnonnullN hx hb dU_faultOf_45 ?_
          refine lv_iconst (v := 5) hx hb dU_faultOf_48 (by decide) ?_
          refine lv_goto (tgt := 60) hx hb dU_faultOf_49 (by decide) ?_
          exact ur_ri hx hb hr hlocks hI hQ ⟨(by first | (simp only [um_fltN, c1, c2, c3, k6, ↓reduceIte]; done) | (simp only [um_fltN, c1, c2, c3, k6, ↓reduceIte]; rfl) | rfl), rfl⟩ dU_faultOf_60
        · have k7 : (um_holds mv 1) = false := um_b0 er4 c5
          refine lv_iconst (v := 2) hx hb dU_faultOf_42 (by decide) ?_
          exact ur_ri hx hb hr hlocks hI hQ ⟨(by first | (simp only [um_fltN, c1, c2, c3, k7, ↓reduceIte]; done) | (simp only [um_fltN, c1, c2, c3, k7, ↓reduceIte]; rfl) | rfl), rfl⟩ dU_faultOf_43
    · refine lv_iconst (v := 1) hx hb dU_faultOf_9 (by decide) ?_
      exact ur_ri hx hb hr hlocks hI hQ ⟨(by first | (simp only [um_fltN, c1, c2, ↓reduceIte]; done) | (simp only [um_fltN, c1, c2, ↓reduceIte]; rfl) | rfl), rfl⟩ dU_faultOf_10
abbrev rmkU_flt : Room := { frames := 1, cells := 0, slots := 0, locals := 24 }
set_option maxHeartbeats 4000000 in
set_option maxRecDepth 100000 in
theorem kU_flt (l : Launch) (D : va_G) (E : ur_Ev) (h : ur_M) (a : um_Ad) (S : um_S) (d : Nat) (op : Int32) (mv : Int32) (x : Int32)  (hR : um_R E a S h) (hB : um_Bd S) (hk9 : um_kind d ≠ 4) : ur_Mi l yU_faultOf wsU_faultOf rmkU_flt D vwCl (ur_v E) [.ref (a.1 20 0), .ref (a.1 d 0), .int op, .int mv, .int x] h (fun r h2 => r = um_flt S d op mv x ∧ h2 = h) 0 0 := by
  intro sz
  refine ur_of (cc := cU_faultOf) (maxL := 6) (ret := (some .int)) (by decide) rfl (Nat.le_of_ble_eq_true rfl) ?_
  intro p e s m args below meth c ls Q hsz hx hb hml hr hlocks hnm hown hts hO hK hI hQ hl
  subst hsz
  have hV := hK.1
  have hts : ∀ w ∈ ur_G, w.before args s = true := fun w hw => hts w (List.mem_cons_of_mem _ hw)
  have hZ : ur_Z E (ur_A h s.heap.size) s s.heap := hO.1
  have hown : s.vm.findClass "UnitRoom" = some m.cls := hown
  have hl : lv_has ls 6 [(0, .ref (a.1 20 0)), (1, .ref (a.1 d 0)), (2, .int op), (3, .int mv), (4, .int x)] := hl
  have g0 : h (a.1 20 0) = some (.inr (0, [.ref (a.1 20 1), .ref (a.1 20 3), .ref (a.1 16 0), .ref (a.1 20 5), .long (lN (S.1 20 2)), .int (nI (S.1 20 0))])) := hR.core rfl
  have gm : h (a.1 20 1) = some (.inr (1, [.ref (a.1 20 2)])) := hR.core rfl
  have gc : h (a.1 20 2) = some (.inl (E.1 0, 4000, .inl (S.2 20 2))) := hR.core rfl
  have gu : h (a.1 d 0) = some (.inr ((um_ci d), .int (nI (um_words d)) :: .ref (a.1 d 1) :: .int (nI (um_dur d)) :: .long (lN (S.1 d 4)) :: .int (nI (S.1 d 0)) :: .int (nI (S.1 d 1)) :: .int (nI (S.1 d 5)) :: um_tl a S d)) := hR.dev hk9
  refine lv_iload_n hx hb dU_faultOf_0 rfl (lv_at hl 2 rfl) ?_
  refine lv_if_lt (tgt := 9) hx hb dU_faultOf_1 (by decide) (fun c1 => ?_) (fun c1 => ?_)
  · refine lv_iconst (v := 1) hx hb dU_faultOf_9 (by decide) ?_
    exact ur_ri hx hb hr hlocks hI hQ ⟨(by simp only [um_flt, c1, ↓reduceIte]), rfl⟩ dU_faultOf_10
  · refine lv_iload_n hx hb dU_faultOf_4 rfl (lv_at hl 2 rfl) ?_
    refine lv_iconst (v := 2) hx hb dU_faultOf_5 (by decide) ?_
    refine lv_icmp_le (tgt := 11) hx hb dU_faultOf_6 (by decide) (fun c2 => ?_) (fun c2 => ?_)
    · refine lv_aload_n hx hb dU_faultOf_11 rfl (lv_at hl 1 rfl) ?_
      refine lv_ifnonnull (tgt := 19) hx hb dU_faultOf_12 (by decide) ?_
      refine lv_aload_n hx hb dU_faultOf_19 rfl (lv_at hl 1 rfl) ?_
      refine ur_gD0 hx hb hts hown hV hI (um_ci_D d) gu (hts _ mw69) (fun _ h9 => h9) dU_faultOf_20 ?_
      refine lv_istore (lv' := [(5, .int (nI (um_words d))), (0, .ref (a.1 20 0)), (1, .ref (a.1 d 0)), (2, .int op), (3, .int mv), (4, .int x)]) hx hb dU_faultOf_23 hl (by decide) rfl (fun ls hl => ?_)
      refine lv_iload_n hx hb dU_faultOf_25 rfl (lv_at hl 3 rfl) ?_
      refine lv_if_eq (tgt := 44) hx hb dU_faultOf_26 (by decide) (fun c3 => ?_) (fun c3 => ?_)
      · refine lv_aload_n hx hb dU_faultOf_44 rfl (lv_at hl 2 rfl) ?_
        refine lv_ifnonnull (tgt := 52) hx hb dU_faultOf_45 (by decide) ?_
        refine lv_aload_n hx hb dU_faultOf_52 rfl (lv_at hl 2 rfl) ?_
        refine lv_iload_n hx hb dU_faultOf_53 rfl (lv_at hl 3 rfl) ?_
        refine lv_iload_n hx hb dU_faultOf_54 rfl (lv_at hl 4 rfl) ?_
        refine lv_iload hx hb dU_faultOf_55 (lv_at hl 5 rfl) ?_
        rcases um_kinds hk9 with hkk | hkk | hkk | hkk
        · have gk : h (a.1 d 0) = some (.inr (3, [.int 100, .ref (a.1 d 1), .int (nI (um_dur d)), .long (lN (S.1 d 4)), .int (nI (S.1 d 0)), .int (nI (S.1 d 1)), .int (nI (S.1 d 5)), .int (nI (S.1 d 2)), .ref (a.1 d 2)])) := (um_R.dev hR hk9).trans (by rw [um_devT hkk])
          refine ur_xi (va_runU (As := [.int op, .int mv, .int x]) (rest := []) ⟨hx, hb, hml, hown, hts⟩ (kT_fault l D E h (a.1 d 0) (a.1 d 1) (a.1 d 2) (nI (um_dur d)) (nI (S.1 d 0)) (nI (S.1 d 1)) (nI (S.1 d 5)) (nI (S.1 d 2)) (lN (S.1 d 4)) op mv x gk s.heap.size) (va_cwA (owner := "UnitRoom$Device") 3 hts (ur_gU mw251 mw253 mw260 mw261 mw8 mw262) rfl rfl rfl (hK.2.1.2.1 ⟨"UnitRoom$Device", "faultOf", "(III)I"⟩ (by decide +kernel)) (by decide +kernel) ⟨(Nat.le_of_ble_eq_true rfl), (Nat.le_of_ble_eq_true rfl)⟩) ⟨ur_blind, va_recv hV (ur_one hI.1 gk) (ci := 3) (q0 := 0) rfl rfl, ur_pre hI hO hK (fun _ _ q => q)⟩ rfl rfl hl.1 rfl (lv_room (Nat.le_of_ble_eq_true rfl)) dU_faultOf_57 ⟨Nat.le_of_ble_eq_true rfl, Nat.le_of_ble_eq_true rfl⟩) hI (fun r4 h4 H locs p4 hI => ?_)
          obtain ⟨er4, eh4⟩ := p4
          replace eh4 := eh4.symm; subst eh4
          replace er4 := er4.symm; subst er4
          exact ur_ri hx hb hr hlocks hI hQ ⟨(by unfold um_flt; rw [if_neg c1, if_pos c2, if_pos c3]; show _ = um_df S d op mv x; unfold um_df; rw [if_pos hkk]), rfl⟩ dU_faultOf_60
        · have gk : h (a.1 d 0) = some (.inr (4, [.int 100, .ref (a.1 d 1), .int (nI (um_dur d)), .long (lN (S.1 d 4)), .int (nI (S.1 d 0)), .int (nI (S.1 d 1)), .int (nI (S.1 d 5)), .ref (a.1 d 2)])) := (um_R.dev hR hk9).trans (by rw [um_devK hkk])
          refine ur_xi (va_runU (As := [.int op, .int mv, .int x]) (rest := []) ⟨hx, hb, hml, hown, hts⟩ (kK_fault l D E h (a.1 d 0) (a.1 d 1) (a.1 d 2) (nI (um_dur d)) (nI (S.1 d 0)) (nI (S.1 d 1)) (nI (S.1 d 5)) (lN (S.1 d 4)) op mv x gk s.heap.size) (va_cwA (owner := "UnitRoom$Device") 3 hts (ur_gU mw251 mw253 mw254 mw255 mw9 mw256) rfl rfl rfl (hK.2.1.2.1 ⟨"UnitRoom$Device", "faultOf", "(III)I"⟩ (by decide +kernel)) (by decide +kernel) ⟨(Nat.le_of_ble_eq_true rfl), (Nat.le_of_ble_eq_true rfl)⟩) ⟨ur_blind, va_recv hV (ur_one hI.1 gk) (ci := 4) (q0 := 0) rfl rfl, ur_pre hI hO hK (fun _ _ q => q)⟩ rfl rfl hl.1 rfl (lv_room (Nat.le_of_ble_eq_true rfl)) dU_faultOf_57 ⟨Nat.le_of_ble_eq_true rfl, Nat.le_of_ble_eq_true rfl⟩) hI (fun r5 h5 H locs p5 hI => ?_)
          obtain ⟨er5, eh5⟩ := p5
          replace eh5 := eh5.symm; subst eh5
          replace er5 := er5.symm; subst er5
          exact ur_ri hx hb hr hlocks hI hQ ⟨(by unfold um_flt; rw [if_neg c1, if_pos c2, if_pos c3]; show _ = um_df S d op mv x; unfold um_df; rw [if_neg (show ¬ um_kind d = 0 by omega), if_pos hkk]), rfl⟩ dU_faultOf_60
        · have gk : h (a.1 d 0) = some (.inr (5, [.int 16, .ref (a.1 d 1), .int (nI (um_dur d)), .long (lN (S.1 d 4)), .int (nI (S.1 d 0)), .int (nI (S.1 d 1)), .int (nI (S.1 d 5)), .ref (a.1 d 2), .int (nI (S.1 d 2)), .int (nI (S.1 d 3))])) := (um_R.dev hR hk9).trans (by rw [um_devR hkk])
          refine ur_xi (va_runU (As := [.int op, .int mv, .int x]) (rest := []) ⟨hx, hb, hml, hown, hts⟩ (kR_fault l D E h (a.1 d 0) (a.1 d 1) (a.1 d 2) (S.1 d 2) (S.1 d 3) (nI (um_dur d)) (nI (S.1 d 0)) (nI (S.1 d 1)) (nI (S.1 d 5)) (lN (S.1 d 4)) op mv x gk s.heap.size) (va_cwA (owner := "UnitRoom$Device") 3 hts (ur_gU mw251 mw253 mw257 mw258 mw5 mw259) rfl rfl rfl (hK.2.1.2.1 ⟨"UnitRoom$Device", "faultOf", "(III)I"⟩ (by decide +kernel)) (by decide +kernel) ⟨(Nat.le_of_ble_eq_true rfl), (Nat.le_of_ble_eq_true rfl)⟩) ⟨ur_blind, va_recv hV (ur_one hI.1 gk) (ci := 5) (q0 := 0) rfl rfl, ur_pre hI hO hK (fun _ _ q => q)⟩ rfl rfl hl.1 rfl (lv_room (Nat.le_of_ble_eq_true rfl)) dU_faultOf_57 ⟨Nat.le_of_ble_eq_true rfl, Nat.le_of_ble_eq_true rfl⟩) hI (fun r6 h6 H locs p6 hI => ?_)
          obtain ⟨er6, eh6⟩ := p6
          replace eh6 := eh6.symm; subst eh6
          replace er6 := er6.symm; subst er6
          exact ur_ri hx hb hr hlocks hI hQ ⟨(by unfold um_flt; rw [if_neg c1, if_pos c2, if_pos c3]; show _ = um_df S d op mv x; unfold um_df; rw [if_neg (show ¬ um_kind d = 0 by omega), if_neg (show ¬ um_kind d = 1 by omega), if_pos hkk]), rfl⟩ dU_faultOf_60
        · have gk : h (a.1 d 0) = some (.inr (6, [.int (nI (um_words d)), .ref (a.1 d 1), .int (nI (um_dur d)), .long (lN (S.1 d 4)), .int (nI (S.1 d 0)), .int (nI (S.1 d 1)), .int (nI (S.1 d 5)), .ref (a.1 d 2), .int (if d = 18 then 1 else 0), .int (nI (S.1 d 2))])) := (um_R.dev hR hk9).trans (by rw [um_devW hkk])
          refine ur_xi (va_runU (As := [.int op, .int mv, .int x]) (rest := []) ⟨hx, hb, hml, hown, hts⟩ (kW_fault l D E h (a.1 d 0) (a.1 d 1) (a.1 d 2) (um_words d) (S.1 d 2) (nI (um_dur d)) (nI (S.1 d 0)) (nI (S.1 d 1)) (nI (S.1 d 5)) (if d = 18 then 1 else 0) (lN (S.1 d 4)) op mv x gk s.heap.size) (va_cwA (owner := "UnitRoom$Device") 3 hts (ur_gU mw251 mw253 mw263 mw264 mw10 mw265) rfl rfl rfl (hK.2.1.2.1 ⟨"UnitRoom$Device", "faultOf", "(III)I"⟩ (by decide +kernel)) (by decide +kernel) ⟨(Nat.le_of_ble_eq_true rfl), (Nat.le_of_ble_eq_true rfl)⟩) ⟨ur_blind, va_recv hV (ur_one hI.1 gk) (ci := 6) (q0 := 0) rfl rfl, ur_pre hI hO hK (fun _ _ q => q)⟩ rfl rfl hl.1 rfl (lv_room (Nat.le_of_ble_eq_true rfl)) dU_faultOf_57 ⟨Nat.le_of_ble_eq_true rfl, Nat.le_of_ble_eq_true rfl⟩) hI (fun r7 h7 H locs p7 hI => ?_)
          obtain ⟨er7, eh7⟩ := p7
          replace eh7 := eh7.symm; subst eh7
          replace er7 := er7.symm; subst er7
          exact ur_ri hx hb hr hlocks hI hQ ⟨(by unfold um_flt; rw [if_neg c1, if_pos c2, if_pos c3]; show _ = um_df S d op mv x; unfold um_df; rw [if_neg (show ¬ um_kind d = 0 by omega), if_neg (show ¬ um_kind d = 1 by omega), if_neg (show ¬ um_kind d = 2 by omega)]), rfl⟩ dU_faultOf_60
      · refine lv_aload_n hx hb dU_faultOf_29 rfl (lv_at hl 1 rfl) ?_
        refine va_get (D := D) (ci := 0) (v := .ref (a.1 20 1)) (C := "UnitRoom") (T := TU) (N := 6) hx hb hts inU hown hV (ur_one hI.1 g0) 0 rfl rfl 0 (by decide) (hts _ mw170) (fun _ h9 => h9) rfl dU_faultOf_30 ?_
        refine lv_iload_n hx hb dU_faultOf_33 rfl (lv_at hl 4 rfl) ?_
        refine lv_iload hx hb dU_faultOf_34 (lv_at hl 0 rfl) ?_
        refine ur_xi (va_runV (As := [.int mv, .int (nI (um_words d))]) (rest := []) ⟨hx, hb, hml, hown, hts⟩ (kM_h l D E h (a.1 20 1) (a.1 20 2) (S.2 20 2) mv (nI (um_words d)) gm gc s.heap.size) (cwV 2 hts (ur_gV mw213 mw214 mw215 mw2 mw216) rfl rfl rfl (by decide +kernel) ⟨(Nat.le_of_ble_eq_true rfl), (Nat.le_of_ble_eq_true rfl)⟩) ⟨ur_blind, va_recv hV (ur_one hI.1 gm) (ci := 1) (q0 := 0) rfl rfl, ur_pre hI hO hK (fun _ _ q => q)⟩ rfl rfl hl.1 rfl (lv_room (Nat.le_of_ble_eq_true rfl)) dU_faultOf_36 ⟨Nat.le_of_ble_eq_true rfl, Nat.le_of_ble_eq_true rfl⟩) hI (fun r8 h8 H locs p8 hI => ?_)
        obtain ⟨er8, eh8⟩ := p8
        replace eh8 := eh8.symm; subst eh8
        refine lv_if_ne (tgt := 44) hx hb dU_faultOf_39 (by decide) (fun c9 => ?_) (fun c9 => ?_)
        · have k10 : (um_holds mv (nI (um_words d))) = true := um_b1 er8 c9
          refine lv_aload_n hx hb dU_faultOf_44 rfl (lv_at hl 2 rfl) ?_
          refine lv_ifnonnull (tgt := 52) hx hb dU_faultOf_45 (by decide) ?_
          refine lv_aload_n hx hb dU_faultOf_52 rfl (lv_at hl 2 rfl) ?_
          refine lv_iload_n hx hb dU_faultOf_53 rfl (lv_at hl 3 rfl) ?_
          refine lv_iload_n hx hb dU_faultOf_54 rfl (lv_at hl 4 rfl) ?_
          refine lv_iload hx hb dU_faultOf_55 (lv_at hl 5 rfl) ?_
          rcases um_kinds hk9 with hkk | hkk | hkk | hkk
          · have gk : h (a.1 d 0) = some (.inr (3, [.int 100, .ref (a.1 d 1), .int (nI (um_dur d)), .long (lN (S.1 d 4)), .int (nI (S.1 d 0)), .int (nI (S.1 d 1)), .int (nI (S.1 d 5)), .int (nI (S.1 d 2)), .ref (a.1 d 2)])) := (um_R.dev hR hk9).trans (by rw [um_devT hkk])
            refine ur_xi (va_runU (As := [.int op, .int mv, .int x]) (rest := []) ⟨hx, hb, hml, hown, hts⟩ (kT_fault l D E h (a.1 d 0) (a.1 d 1) (a.1 d 2) (nI (um_dur d)) (nI (S.1 d 0)) (nI (S.1 d 1)) (nI (S.1 d 5)) (nI (S.1 d 2)) (lN (S.1 d 4)) op mv x gk H.size) (va_cwA (owner := "UnitRoom$Device") 3 hts (ur_gU mw251 mw253 mw260 mw261 mw8 mw262) rfl rfl rfl (hK.2.1.2.1 ⟨"UnitRoom$Device", "faultOf", "(III)I"⟩ (by decide +kernel)) (by decide +kernel) ⟨(Nat.le_of_ble_eq_true rfl), (Nat.le_of_ble_eq_true rfl)⟩) ⟨ur_blind, va_recv hV (ur_one hI.1 gk) (ci := 3) (q0 := 0) rfl rfl, ur_pre hI hO hK (fun _ _ q => q)⟩ rfl rfl hl.1 rfl (lv_room (Nat.le_of_ble_eq_true rfl)) dU_faultOf_57 ⟨Nat.le_of_ble_eq_true rfl, Nat.le_of_ble_eq_true rfl⟩) hI (fun r11 h11 H locs p11 hI => ?_)
            obtain ⟨er11, eh11⟩ := p11
            replace eh11 := eh11.symm; subst eh11
            replace er11 := er11.symm; subst er11
            exact ur_ri hx hb hr hlocks hI hQ ⟨(by unfold um_flt; rw [if_neg c1, if_pos c2, if_neg c3, if_pos k10]; show _ = um_df S d op mv x; unfold um_df; rw [if_pos hkk]), rfl⟩ dU_faultOf_60
          · have gk : h (a.1 d 0) = some (.inr (4, [.int 100, .ref (a.1 d 1), .int (nI (um_dur d)), .long (lN (S.1 d 4)), .int (nI (S.1 d 0)), .int (nI (S.1 d 1)), .int (nI (S.1 d 5)), .ref (a.1 d 2)])) := (um_R.dev hR hk9).trans (by rw [um_devK hkk])
            refine ur_xi (va_runU (As := [.int op, .int mv, .int x]) (rest := []) ⟨hx, hb, hml, hown, hts⟩ (kK_fault l D E h (a.1 d 0) (a.1 d 1) (a.1 d 2) (nI (um_dur d)) (nI (S.1 d 0)) (nI (S.1 d 1)) (nI (S.1 d 5)) (lN (S.1 d 4)) op mv x gk H.size) (va_cwA (owner := "UnitRoom$Device") 3 hts (ur_gU mw251 mw253 mw254 mw255 mw9 mw256) rfl rfl rfl (hK.2.1.2.1 ⟨"UnitRoom$Device", "faultOf", "(III)I"⟩ (by decide +kernel)) (by decide +kernel) ⟨(Nat.le_of_ble_eq_true rfl), (Nat.le_of_ble_eq_true rfl)⟩) ⟨ur_blind, va_recv hV (ur_one hI.1 gk) (ci := 4) (q0 := 0) rfl rfl, ur_pre hI hO hK (fun _ _ q => q)⟩ rfl rfl hl.1 rfl (lv_room (Nat.le_of_ble_eq_true rfl)) dU_faultOf_57 ⟨Nat.le_of_ble_eq_true rfl, Nat.le_of_ble_eq_true rfl⟩) hI (fun r12 h12 H locs p12 hI => ?_)
            obtain ⟨er12, eh12⟩ := p12
            replace eh12 := eh12.symm; subst eh12
            replace er12 := er12.symm; subst er12
            exact ur_ri hx hb hr hlocks hI hQ ⟨(by unfold um_flt; rw [if_neg c1, if_pos c2, if_neg c3, if_pos k10]; show _ = um_df S d op mv x; unfold um_df; rw [if_neg (show ¬ um_kind d = 0 by omega), if_pos hkk]), rfl⟩ dU_faultOf_60
          · have gk : h (a.1 d 0) = some (.inr (5, [.int 16, .ref (a.1 d 1), .int (nI (um_dur d)), .long (lN (S.1 d 4)), .int (nI (S.1 d 0)), .int (nI (S.1 d 1)), .int (nI (S.1 d 5)), .ref (a.1 d 2), .int (nI (S.1 d 2)), .int (nI (S.1 d 3))])) := (um_R.dev hR hk9).trans (by rw [um_devR hkk])
            refine ur_xi (va_runU (As := [.int op, .int mv, .int x]) (rest := []) ⟨hx, hb, hml, hown, hts⟩ (kR_fault l D E h (a.1 d 0) (a.1 d 1) (a.1 d 2) (S.1 d 2) (S.1 d 3) (nI (um_dur d)) (nI (S.1 d 0)) (nI (S.1 d 1)) (nI (S.1 d 5)) (lN (S.1 d 4)) op mv x gk H.size) (va_cwA (owner := "UnitRoom$Device") 3 hts (ur_gU mw251 mw253 mw257 mw258 mw5 mw259) rfl rfl rfl (hK.2.1.2.1 ⟨"UnitRoom$Device", "faultOf", "(III)I"⟩ (by decide +kernel)) (by decide +kernel) ⟨(Nat.le_of_ble_eq_true rfl), (Nat.le_of_ble_eq_true rfl)⟩) ⟨ur_blind, va_recv hV (ur_one hI.1 gk) (ci := 5) (q0 := 0) rfl rfl, ur_pre hI hO hK (fun _ _ q => q)⟩ rfl rfl hl.1 rfl (lv_room (Nat.le_of_ble_eq_true rfl)) dU_faultOf_57 ⟨Nat.le_of_ble_eq_true rfl, Nat.le_of_ble_eq_true rfl⟩) hI (fun r13 h13 H locs p13 hI => ?_)
            obtain ⟨er13, eh13⟩ := p13
            replace eh13 := eh13.symm; subst eh13
            replace er13 := er13.symm; subst er13
            exact ur_ri hx hb hr hlocks hI hQ ⟨(by unfold um_flt; rw [if_neg c1, if_pos c2, if_neg c3, if_pos k10]; show _ = um_df S d op mv x; unfold um_df; rw [if_neg (show ¬ um_kind d = 0 by omega), if_neg (show ¬ um_kind d = 1 by omega), if_pos hkk]), rfl⟩ dU_faultOf_60
          · have gk : h (a.1 d 0) = some (.inr (6, [.int (nI (um_words d)), .ref (a.1 d 1), .int (nI (um_dur d)), .long (lN (S.1 d 4)), .int (nI (S.1 d 0)), .int (nI (S.1 d 1)), .int (nI (S.1 d 5)), .ref (a.1 d 2), .int (if d = 18 then 1 else 0), .int (nI (S.1 d 2))])) := (um_R.dev hR hk9).trans (by rw [um_devW hkk])
            refine ur_xi (va_runU (As := [.int op, .int mv, .int x]) (rest := []) ⟨hx, hb, hml, hown, hts⟩ (kW_fault l D E h (a.1 d 0) (a.1 d 1) (a.1 d 2) (um_words d) (S.1 d 2) (nI (um_dur d)) (nI (S.1 d 0)) (nI (S.1 d 1)) (nI (S.1 d 5)) (if d = 18 then 1 else 0) (lN (S.1 d 4)) op mv x gk H.size) (va_cwA (owner := "UnitRoom$Device") 3 hts (ur_gU mw251 mw253 mw263 mw264 mw10 mw265) rfl rfl rfl (hK.2.1.2.1 ⟨"UnitRoom$Device", "faultOf", "(III)I"⟩ (by decide +kernel)) (by decide +kernel) ⟨(Nat.le_of_ble_eq_true rfl), (Nat.le_of_ble_eq_true rfl)⟩) ⟨ur_blind, va_recv hV (ur_one hI.1 gk) (ci := 6) (q0 := 0) rfl rfl, ur_pre hI hO hK (fun _ _ q => q)⟩ rfl rfl hl.1 rfl (lv_room (Nat.le_of_ble_eq_true rfl)) dU_faultOf_57 ⟨Nat.le_of_ble_eq_true rfl, Nat.le_of_ble_eq_true rfl⟩) hI (fun r14 h14 H locs p14 hI => ?_)
            obtain ⟨er14, eh14⟩ := p14
            replace eh14 := eh14.symm; subst eh14
            replace er14 := er14.symm; subst er14
            exact ur_ri hx hb hr hlocks hI hQ ⟨(by unfold um_flt; rw [if_neg c1, if_pos c2, if_neg c3, if_pos k10]; show _ = um_df S d op mv x; unfold um_df; rw [if_neg (show ¬ um_kind d = 0 by omega), if_neg (show ¬ um_kind d = 1 by omega), if_neg (show ¬ um_kind d = 2 by omega)]), rfl⟩ dU_faultOf_60
        · have k15 : (um_holds mv (nI (um_words d))) = false := um_b0 er8 c9
          refine lv_iconst (v := 2) hx hb dU_faultOf_42 (by decide) ?_
          exact ur_ri hx hb hr hlocks hI hQ ⟨(by unfold um_flt; rw [if_neg c1, if_pos c2, if_neg c3, if_neg (by rw [k15]; decide)]), rfl⟩ dU_faultOf_43
    · refine lv_iconst (v := 1) hx hb dU_faultOf_9 (by decide) ?_
      exact ur_ri hx hb hr hlocks hI hQ ⟨(by simp only [um_flt, c1, c2, ↓reduceIte]), rfl⟩ dU_faultOf_10
