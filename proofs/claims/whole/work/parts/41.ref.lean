theorem dF_in_0 : decode cF_in 0 = .ok (.iload_n 0, 1) := by decide +kernel
theorem dF_in_1 : decode cF_in 1 = .ok (.iload_n 1, 1) := by decide +kernel
theorem dF_in_2 : decode cF_in 2 = .ok (.if_icmp .lt 12, 3) := by decide +kernel
theorem dF_in_5 : decode cF_in 5 = .ok (.iload_n 0, 1) := by decide +kernel
theorem dF_in_6 : decode cF_in 6 = .ok (.iload_n 2, 1) := by decide +kernel
theorem dF_in_7 : decode cF_in 7 = .ok (.if_icmp .gt 7, 3) := by decide +kernel
theorem dF_in_10 : decode cF_in 10 = .ok (.iconst 1, 1) := by decide +kernel
theorem dF_in_11 : decode cF_in 11 = .ok (.goto 4, 3) := by decide +kernel
theorem dF_in_14 : decode cF_in 14 = .ok (.iconst 0, 1) := by decide +kernel
theorem dF_in_15 : decode cF_in 15 = .ok (.ireturn, 1) := by decide +kernel
abbrev rmkF_in : Room := { frames := 0, cells := 0, slots := 0, locals := 0 }
set_option maxHeartbeats 4000000 in
set_option maxRecDepth 100000 in
theorem kF_in (l : Launch) (D : va_G) (E : ur_Ev) (h : ur_M) (v : Int32) (lo : Int32) (hi : Int32)   : ur_Mi l yF_in wsF_in rmkF_in D vwCl (ur_v E) [.int v, .int lo, .int hi] h (fun r h2 => r = um_b (fo_in v lo hi) ∧ h2 = h) 0 0 := by
  intro sz
  refine ur_of (cc := cF_in) (maxL := 3) (ret := (some .boolean)) (by decide) rfl (Nat.le_of_ble_eq_true rfl) ?_
  intro p e s m args below meth c ls Q hsz hx hb hml hr hlocks hnm hown hts hO hK hI hQ hl
  subst hsz
  have hV := hK.1
  have hts : ∀ w ∈ ur_G, w.before args s = true := fun w hw => hts w (List.mem_cons_of_mem _ hw)
  have hZ : ur_Z E (ur_A h s.heap.size) s s.heap := hO.1
  have hown : s.vm.findClass "UnitRoomModel" = some m.cls := hown
  have hl : lv_has ls 3 [(0, .int v), (1, .int lo), (2, .int hi)] := hl
  refine lv_iload_n hx hb dF_in_0 rfl (lv_at hl 0 rfl) ?_
  refine lv_iload_n hx hb dF_in_1 rfl (lv_at hl 1 rfl) ?_
  refine lv_icmp_lt (tgt := 14) hx hb dF_in_2 (by decide) (fun c1 => ?_) (fun c1 => ?_)
  · refine lv_iconst (v := 0) hx hb dF_in_14 (by decide) ?_
    exact ur_rz hx hb hr hlocks hI hQ rfl ⟨(by first | (simp only [fo_in, c1, ↓reduceIte]; done) | (simp only [fo_in, c1, ↓reduceIte]; rfl) | rfl), rfl⟩ dF_in_15
  · refine lv_iload_n hx hb dF_in_5 rfl (lv_at hl 0 rfl) ?_
    refine lv_iload_n hx hb dF_in_6 rfl (lv_at hl 2 rfl) ?_
    refine lv_icmp_gt (tgt := 14) hx hb dF_in_7 (by decide) (fun c2 => ?_) (fun c2 => ?_)
    · refine lv_iconst (v := 0) hx hb dF_in_14 (by decide) ?_
      exact ur_rz hx hb hr hlocks hI hQ rfl ⟨(by first | (simp only [fo_in, c1, c2, ↓reduceIte]; done) | (simp only [fo_in, c1, c2, ↓reduceIte]; rfl) | rfl), rfl⟩ dF_in_15
    · refine lv_iconst (v := 1) hx hb dF_in_10 (by decide) ?_
      refine lv_goto (tgt := 15) hx hb dF_in_11 (by decide) ?_
      exact ur_rz hx hb hr hlocks hI hQ rfl ⟨(by first | (simp only [fo_in, c1, c2, ↓reduceIte]; done) | (simp only [fo_in, c1, c2, ↓reduceIte]; rfl) | rfl), rfl⟩ dF_in_15
theorem dF_told_0 : decode cF_told 0 = .ok (.iload_n 0, 1) := by decide +kernel
theorem dF_told_1 : decode cF_told 1 = .ok (.ldc 57, 2) := by decide +kernel
theorem dF_told_3 : decode cF_told 3 = .ok (.iand, 1) := by decide +kernel
theorem dF_told_4 : decode cF_told 4 = .ok (.istore_n 1, 1) := by decide +kernel
theorem dF_told_5 : decode cF_told 5 = .ok (.iload_n 0, 1) := by decide +kernel
theorem dF_told_6 : decode cF_told 6 = .ok (.ldc 58, 2) := by decide +kernel
theorem dF_told_8 : decode cF_told 8 = .ok (.if_icmp .ge 7, 3) := by decide +kernel
theorem dF_told_11 : decode cF_told 11 = .ok (.iload_n 1, 1) := by decide +kernel
theorem dF_told_12 : decode cF_told 12 = .ok (.goto 14, 3) := by decide +kernel
theorem dF_told_15 : decode cF_told 15 = .ok (.iload_n 1, 1) := by decide +kernel
theorem dF_told_16 : decode cF_told 16 = .ok (.ifCond .ne 8, 3) := by decide +kernel
theorem dF_told_19 : decode cF_told 19 = .ok (.ldc 59, 2) := by decide +kernel
theorem dF_told_21 : decode cF_told 21 = .ok (.goto 5, 3) := by decide +kernel
theorem dF_told_24 : decode cF_told 24 = .ok (.iload_n 1, 1) := by decide +kernel
theorem dF_told_25 : decode cF_told 25 = .ok (.ineg, 1) := by decide +kernel
theorem dF_told_26 : decode cF_told 26 = .ok (.ireturn, 1) := by decide +kernel
abbrev rmkF_told : Room := { frames := 0, cells := 0, slots := 0, locals := 0 }
set_option maxHeartbeats 4000000 in
set_option maxRecDepth 100000 in
theorem kF_told (l : Launch) (D : va_G) (E : ur_Ev) (h : ur_M) (v : Int32)   : ur_Mi l yF_told wsF_told rmkF_told D vwCl (ur_v E) [.int v] h (fun r h2 => r = fo_told v ∧ h2 = h) 0 0 := by
  intro sz
  refine ur_of (cc := cF_told) (maxL := 2) (ret := (some .int)) (by decide) rfl (Nat.le_of_ble_eq_true rfl) ?_
  intro p e s m args below meth c ls Q hsz hx hb hml hr hlocks hnm hown hts hO hK hI hQ hl
  subst hsz
  have hV := hK.1
  have hts : ∀ w ∈ ur_G, w.before args s = true := fun w hw => hts w (List.mem_cons_of_mem _ hw)
  have hZ : ur_Z E (ur_A h s.heap.size) s s.heap := hO.1
  have hown : s.vm.findClass "UnitRoomModel" = some m.cls := hown
  have hl : lv_has ls 2 [(0, .int v)] := hl
  refine lv_iload_n hx hb dF_told_0 rfl (lv_at hl 0 rfl) ?_
  refine lv_ldc (v := 1073741823) hx hb hown (hts _ mw650) dF_told_1 ?_
  refine lv_iand hx hb dF_told_3 ?_
  refine lv_istore_n (lv' := [(1, .int (v &&& 1073741823)), (0, .int v)]) hx hb dF_told_4 rfl hl (by decide) rfl (fun ls hl => ?_)
  refine lv_iload_n hx hb dF_told_5 rfl (lv_at hl 1 rfl) ?_
  refine lv_ldc (v := 1073741824) hx hb hown (hts _ mw651) dF_told_6 ?_
  refine lv_icmp_ge (tgt := 15) hx hb dF_told_8 (by decide) (fun c1 => ?_) (fun c1 => ?_)
  · refine lv_iload_n hx hb dF_told_15 rfl (lv_at hl 0 rfl) ?_
    refine lv_if_ne (tgt := 24) hx hb dF_told_16 (by decide) (fun c2 => ?_) (fun c2 => ?_)
    · refine lv_iload_n hx hb dF_told_24 rfl (lv_at hl 0 rfl) ?_
      refine lv_ineg hx hb dF_told_25 ?_
      exact ur_ri hx hb hr hlocks hI hQ ⟨(by first | (simp only [fo_told, c1, c2, ↓reduceIte]; done) | (simp only [fo_told, c1, c2, ↓reduceIte]; rfl) | rfl), rfl⟩ dF_told_26
    · refine lv_ldc (v := (-2147483648)) hx hb hown (hts _ mw663) dF_told_19 ?_
      refine lv_goto (tgt := 26) hx hb dF_told_21 (by decide) ?_
      exact ur_ri hx hb hr hlocks hI hQ ⟨(by first | (simp only [fo_told, c1, c2, ↓reduceIte]; done) | (simp only [fo_told, c1, c2, ↓reduceIte]; rfl) | rfl), rfl⟩ dF_told_26
  · refine lv_iload_n hx hb dF_told_11 rfl (lv_at hl 0 rfl) ?_
    refine lv_goto (tgt := 26) hx hb dF_told_12 (by decide) ?_
    exact ur_ri hx hb hr hlocks hI hQ ⟨(by first | (simp only [fo_told, c1, ↓reduceIte]; done) | (simp only [fo_told, c1, ↓reduceIte]; rfl) | rfl), rfl⟩ dF_told_26
theorem dF_placeOf_0 : decode cF_placeOf 0 = .ok (.iload_n 0, 1) := by decide +kernel
theorem dF_placeOf_1 : decode cF_placeOf 1 = .ok (.iconst 0, 1) := by decide +kernel
theorem dF_placeOf_2 : decode cF_placeOf 2 = .ok (.iconst 3, 1) := by decide +kernel
theorem dF_placeOf_3 : decode cF_placeOf 3 = .ok (.invokestatic 64, 3) := by decide +kernel
theorem dF_placeOf_6 : decode cF_placeOf 6 = .ok (.ifCond .eq 7, 3) := by decide +kernel
theorem dF_placeOf_9 : decode cF_placeOf 9 = .ok (.iload_n 0, 1) := by decide +kernel
theorem dF_placeOf_10 : decode cF_placeOf 10 = .ok (.goto 39, 3) := by decide +kernel
theorem dF_placeOf_13 : decode cF_placeOf 13 = .ok (.iload_n 0, 1) := by decide +kernel
theorem dF_placeOf_14 : decode cF_placeOf 14 = .ok (.bipush 8, 2) := by decide +kernel
theorem dF_placeOf_16 : decode cF_placeOf 16 = .ok (.bipush 9, 2) := by decide +kernel
theorem dF_placeOf_18 : decode cF_placeOf 18 = .ok (.invokestatic 64, 3) := by decide +kernel
theorem dF_placeOf_21 : decode cF_placeOf 21 = .ok (.ifCond .eq 9, 3) := by decide +kernel
theorem dF_placeOf_24 : decode cF_placeOf 24 = .ok (.iload_n 0, 1) := by decide +kernel
theorem dF_placeOf_25 : decode cF_placeOf 25 = .ok (.iconst 4, 1) := by decide +kernel
theorem dF_placeOf_26 : decode cF_placeOf 26 = .ok (.isub, 1) := by decide +kernel
theorem dF_placeOf_27 : decode cF_placeOf 27 = .ok (.goto 22, 3) := by decide +kernel
theorem dF_placeOf_30 : decode cF_placeOf 30 = .ok (.iload_n 0, 1) := by decide +kernel
theorem dF_placeOf_31 : decode cF_placeOf 31 = .ok (.bipush 16, 2) := by decide +kernel
theorem dF_placeOf_33 : decode cF_placeOf 33 = .ok (.bipush 19, 2) := by decide +kernel
theorem dF_placeOf_35 : decode cF_placeOf 35 = .ok (.invokestatic 64, 3) := by decide +kernel
theorem dF_placeOf_38 : decode cF_placeOf 38 = .ok (.ifCond .eq 10, 3) := by decide +kernel
theorem dF_placeOf_41 : decode cF_placeOf 41 = .ok (.iload_n 0, 1) := by decide +kernel
theorem dF_placeOf_42 : decode cF_placeOf 42 = .ok (.bipush 10, 2) := by decide +kernel
theorem dF_placeOf_44 : decode cF_placeOf 44 = .ok (.isub, 1) := by decide +kernel
theorem dF_placeOf_45 : decode cF_placeOf 45 = .ok (.goto 4, 3) := by decide +kernel
theorem dF_placeOf_48 : decode cF_placeOf 48 = .ok (.iconst (-1), 1) := by decide +kernel
theorem dF_placeOf_49 : decode cF_placeOf 49 = .ok (.ireturn, 1) := by decide +kernel
abbrev rmkF_placeOf : Room := { frames := 1, cells := 0, slots := 0, locals := 22 }
set_option maxHeartbeats 4000000 in
set_option maxRecDepth 100000 in
theorem kF_placeOf (l : Launch) (D : va_G) (E : ur_Ev) (h : ur_M) (u : Int32)   : ur_Mi l yF_placeOf wsF_placeOf rmkF_placeOf D vwCl (ur_v E) [.int u] h (fun r h2 => r = fo_pl u ∧ h2 = h) 0 0 := by
  intro sz
  refine ur_of (cc := cF_placeOf) (maxL := 1) (ret := (some .int)) (by decide) rfl (Nat.le_of_ble_eq_true rfl) ?_
  intro p e s m args below meth c ls Q hsz hx hb hml hr hlocks hnm hown hts hO hK hI hQ hl
  subst hsz
  have hV := hK.1
  have hts : ∀ w ∈ ur_G, w.before args s = true := fun w hw => hts w (List.mem_cons_of_mem _ hw)
  have hZ : ur_Z E (ur_A h s.heap.size) s s.heap := hO.1
  have hown : s.vm.findClass "UnitRoomModel" = some m.cls := hown
  have hl : lv_has ls 1 [(0, .int u)] := hl
  refine lv_iload_n hx hb dF_placeOf_0 rfl (lv_at hl 0 rfl) ?_
  refine lv_iconst (v := 0) hx hb dF_placeOf_1 (by decide) ?_
  refine lv_iconst (v := 3) hx hb dF_placeOf_2 (by decide) ?_
  refine ur_xi (va_runS (As := [.int u, .int 0, .int 3]) (rest := []) ⟨hx, hb, hml, hown, hts⟩ (kF_in l D E h u 0 3 s.heap.size) (va_cwS 3 hts (ur_gT mw642 mw643 mw11 mw644) rfl rfl rfl (by decide +kernel) ⟨(Nat.le_of_ble_eq_true rfl), (Nat.le_of_ble_eq_true rfl)⟩) ⟨ur_blind, ur_pre hI hO hK (fun _ _ q => q)⟩ rfl rfl hl.1 rfl (lv_room (Nat.le_of_ble_eq_true rfl)) dF_placeOf_3 ⟨Nat.le_of_ble_eq_true rfl, Nat.le_of_ble_eq_true rfl⟩) hI (fun r1 h1 H locs p1 hI => ?_)
  obtain ⟨er1, eh1⟩ := p1
  replace eh1 := eh1.symm; subst eh1
  refine lv_if_eq (tgt := 13) hx hb dF_placeOf_6 (by decide) (fun c2 => ?_) (fun c2 => ?_)
  · have k3 : (fo_in u 0 3) = false := um_b0 er1 c2
    refine lv_iload_n hx hb dF_placeOf_13 rfl (lv_at hl 0 rfl) ?_
    refine lv_bipush (v := 8) hx hb dF_placeOf_14 (by decide) ?_
    refine lv_bipush (v := 9) hx hb dF_placeOf_16 (by decide) ?_
    refine ur_xi (va_runS (As := [.int u, .int 8, .int 9]) (rest := []) ⟨hx, hb, hml, hown, hts⟩ (kF_in l D E h u 8 9 H.size) (va_cwS 3 hts (ur_gT mw642 mw643 mw11 mw644) rfl rfl rfl (by decide +kernel) ⟨(Nat.le_of_ble_eq_true rfl), (Nat.le_of_ble_eq_true rfl)⟩) ⟨ur_blind, ur_pre hI hO hK (fun _ _ q => q)⟩ rfl rfl hl.1 rfl (lv_room (Nat.le_of_ble_eq_true rfl)) dF_placeOf_18 ⟨Nat.le_of_ble_eq_true rfl, Nat.le_of_ble_eq_true rfl⟩) hI (fun r4 h4 H locs p4 hI => ?_)
    obtain ⟨er4, eh4⟩ := p4
    replace eh4 := eh4.symm; subst eh4
    refine lv_if_eq (tgt := 30) hx hb dF_placeOf_21 (by decide) (fun c5 => ?_) (fun c5 => ?_)
    · have k6 : (fo_in u 8 9) = false := um_b0 er4 c5
      refine lv_iload_n hx hb dF_placeOf_30 rfl (lv_at hl 0 rfl) ?_
      refine lv_bipush (v := 16) hx hb dF_placeOf_31 (by decide) ?_
      refine lv_bipush (v := 19) hx hb dF_placeOf_33 (by decide) ?_
      refine ur_xi (va_runS (As := [.int u, .int 16, .int 19]) (rest := []) ⟨hx, hb, hml, hown, hts⟩ (kF_in l D E h u 16 19 H.size) (va_cwS 3 hts (ur_gT mw642 mw643 mw11 mw644) rfl rfl rfl (by decide +kernel) ⟨(Nat.le_of_ble_eq_true rfl), (Nat.le_of_ble_eq_true rfl)⟩) ⟨ur_blind, ur_pre hI hO hK (fun _ _ q => q)⟩ rfl rfl hl.1 rfl (lv_room (Nat.le_of_ble_eq_true rfl)) dF_placeOf_35 ⟨Nat.le_of_ble_eq_true rfl, Nat.le_of_ble_eq_true rfl⟩) hI (fun r7 h7 H locs p7 hI => ?_)
      obtain ⟨er7, eh7⟩ := p7
      replace eh7 := eh7.symm; subst eh7
      refine lv_if_eq (tgt := 48) hx hb dF_placeOf_38 (by decide) (fun c8 => ?_) (fun c8 => ?_)
      · have k9 : (fo_in u 16 19) = false := um_b0 er7 c8
        refine lv_iconst (v := (-1)) hx hb dF_placeOf_48 (by decide) ?_
        exact ur_ri hx hb hr hlocks hI hQ ⟨(by unfold fo_pl; rw [if_neg (by rw [k3]; decide), if_neg (by rw [k6]; decide), if_neg (by rw [k9]; decide)]), rfl⟩ dF_placeOf_49
      · have k10 : (fo_in u 16 19) = true := um_b1 er7 c8
        refine lv_iload_n hx hb dF_placeOf_41 rfl (lv_at hl 0 rfl) ?_
        refine lv_bipush (v := 10) hx hb dF_placeOf_42 (by decide) ?_
        refine lv_isub hx hb dF_placeOf_44 ?_
        refine lv_goto (tgt := 49) hx hb dF_placeOf_45 (by decide) ?_
        exact ur_ri hx hb hr hlocks hI hQ ⟨(by unfold fo_pl; rw [if_neg (by rw [k3]; decide), if_neg (by rw [k6]; decide), if_pos k10]), rfl⟩ dF_placeOf_49
    · have k11 : (fo_in u 8 9) = true := um_b1 er4 c5
      refine lv_iload_n hx hb dF_placeOf_24 rfl (lv_at hl 0 rfl) ?_
      refine lv_iconst (v := 4) hx hb dF_placeOf_25 (by decide) ?_
      refine lv_isub hx hb dF_placeOf_26 ?_
      refine lv_goto (tgt := 49) hx hb dF_placeOf_27 (by decide) ?_
      exact ur_ri hx hb hr hlocks hI hQ ⟨(by unfold fo_pl; rw [if_neg (by rw [k3]; decide), if_pos k11]), rfl⟩ dF_placeOf_49
  · have k12 : (fo_in u 0 3) = true := um_b1 er1 c2
    refine lv_iload_n hx hb dF_placeOf_9 rfl (lv_at hl 0 rfl) ?_
    refine lv_goto (tgt := 49) hx hb dF_placeOf_10 (by decide) ?_
    exact ur_ri hx hb hr hlocks hI hQ ⟨(by unfold fo_pl; rw [if_pos k12]), rfl⟩ dF_placeOf_49
theorem dF_wordsOf_0 : decode cF_wordsOf 0 = .ok (.iload_n 0, 1) := by decide +kernel
theorem dF_wordsOf_1 : decode cF_wordsOf 1 = .ok (.bipush 6, 2) := by decide +kernel
theorem dF_wordsOf_3 : decode cF_wordsOf 3 = .ok (.if_icmp .ge 8, 3) := by decide +kernel
theorem dF_wordsOf_6 : decode cF_wordsOf 6 = .ok (.bipush 100, 2) := by decide +kernel
theorem dF_wordsOf_8 : decode cF_wordsOf 8 = .ok (.goto 27, 3) := by decide +kernel
theorem dF_wordsOf_11 : decode cF_wordsOf 11 = .ok (.iload_n 0, 1) := by decide +kernel
theorem dF_wordsOf_12 : decode cF_wordsOf 12 = .ok (.bipush 8, 2) := by decide +kernel
theorem dF_wordsOf_14 : decode cF_wordsOf 14 = .ok (.if_icmp .ne 8, 3) := by decide +kernel
theorem dF_wordsOf_17 : decode cF_wordsOf 17 = .ok (.bipush 24, 2) := by decide +kernel
theorem dF_wordsOf_19 : decode cF_wordsOf 19 = .ok (.goto 16, 3) := by decide +kernel
theorem dF_wordsOf_22 : decode cF_wordsOf 22 = .ok (.iload_n 0, 1) := by decide +kernel
theorem dF_wordsOf_23 : decode cF_wordsOf 23 = .ok (.bipush 9, 2) := by decide +kernel
theorem dF_wordsOf_25 : decode cF_wordsOf 25 = .ok (.if_icmp .ne 8, 3) := by decide +kernel
theorem dF_wordsOf_28 : decode cF_wordsOf 28 = .ok (.bipush 14, 2) := by decide +kernel
theorem dF_wordsOf_30 : decode cF_wordsOf 30 = .ok (.goto 5, 3) := by decide +kernel
theorem dF_wordsOf_33 : decode cF_wordsOf 33 = .ok (.bipush 16, 2) := by decide +kernel
theorem dF_wordsOf_35 : decode cF_wordsOf 35 = .ok (.ireturn, 1) := by decide +kernel
abbrev rmkF_wordsOf : Room := { frames := 0, cells := 0, slots := 0, locals := 0 }
set_option maxHeartbeats 4000000 in
set_option maxRecDepth 100000 in
theorem kF_wordsOf (l : Launch) (D : va_G) (E : ur_Ev) (h : ur_M) (v : Int32)   : ur_Mi l yF_wordsOf wsF_wordsOf rmkF_wordsOf D vwCl (ur_v E) [.int v] h (fun r h2 => r = fo_ws v ∧ h2 = h) 0 0 := by
  intro sz
  refine ur_of (cc := cF_wordsOf) (maxL := 1) (ret := (some .int)) (by decide) rfl (Nat.le_of_ble_eq_true rfl) ?_
  intro p e s m args below meth c ls Q hsz hx hb hml hr hlocks hnm hown hts hO hK hI hQ hl
  subst hsz
  have hV := hK.1
  have hts : ∀ w ∈ ur_G, w.before args s = true := fun w hw => hts w (List.mem_cons_of_mem _ hw)
  have hZ : ur_Z E (ur_A h s.heap.size) s s.heap := hO.1
  have hown : s.vm.findClass "UnitRoomModel" = some m.cls := hown
  have hl : lv_has ls 1 [(0, .int v)] := hl
  refine lv_iload_n hx hb dF_wordsOf_0 rfl (lv_at hl 0 rfl) ?_
  refine lv_bipush (v := 6) hx hb dF_wordsOf_1 (by decide) ?_
  refine lv_icmp_ge (tgt := 11) hx hb dF_wordsOf_3 (by decide) (fun c1 => ?_) (fun c1 => ?_)
  · refine lv_iload_n hx hb dF_wordsOf_11 rfl (lv_at hl 0 rfl) ?_
    refine lv_bipush (v := 8) hx hb dF_wordsOf_12 (by decide) ?_
    refine lv_icmp_ne (tgt := 22) hx hb dF_wordsOf_14 (by decide) (fun c2 => ?_) (fun c2 => ?_)
    · refine lv_iload_n hx hb dF_wordsOf_22 rfl (lv_at hl 0 rfl) ?_
      refine lv_bipush (v := 9) hx hb dF_wordsOf_23 (by decide) ?_
      refine lv_icmp_ne (tgt := 33) hx hb dF_wordsOf_25 (by decide) (fun c3 => ?_) (fun c3 => ?_)
      · refine lv_bipush (v := 16) hx hb dF_wordsOf_33 (by decide) ?_
        exact ur_ri hx hb hr hlocks hI hQ ⟨(by first | (simp only [fo_ws, c1, c2, c3, ↓reduceIte]; done) | (simp only [fo_ws, c1, c2, c3, ↓reduceIte]; rfl) | rfl), rfl⟩ dF_wordsOf_35
      · refine lv_bipush (v := 14) hx hb dF_wordsOf_28 (by decide) ?_
        refine lv_goto (tgt := 35) hx hb dF_wordsOf_30 (by decide) ?_
        exact ur_ri hx hb hr hlocks hI hQ ⟨(by first | (simp only [fo_ws, c1, c2, c3, ↓reduceIte]; done) | (simp only [fo_ws, c1, c2, c3, ↓reduceIte]; rfl) | rfl), rfl⟩ dF_wordsOf_35
    · refine lv_bipush (v := 24) hx hb dF_wordsOf_17 (by decide) ?_
      refine lv_goto (tgt := 35) hx hb dF_wordsOf_19 (by decide) ?_
      exact ur_ri hx hb hr hlocks hI hQ ⟨(by first | (simp only [fo_ws, c1, c2, ↓reduceIte]; done) | (simp only [fo_ws, c1, c2, ↓reduceIte]; rfl) | rfl), rfl⟩ dF_wordsOf_35
  · refine lv_bipush (v := 100) hx hb dF_wordsOf_6 (by decide) ?_
    refine lv_goto (tgt := 35) hx hb dF_wordsOf_8 (by decide) ?_
    exact ur_ri hx hb hr hlocks hI hQ ⟨(by first | (simp only [fo_ws, c1, ↓reduceIte]; done) | (simp only [fo_ws, c1, ↓reduceIte]; rfl) | rfl), rfl⟩ dF_wordsOf_35
theorem dF_timeOf_0 : decode cF_timeOf 0 = .ok (.iload_n 0, 1) := by decide +kernel
theorem dF_timeOf_1 : decode cF_timeOf 1 = .ok (.iconst 4, 1) := by decide +kernel
theorem dF_timeOf_2 : decode cF_timeOf 2 = .ok (.if_icmp .ge 9, 3) := by decide +kernel
theorem dF_timeOf_5 : decode cF_timeOf 5 = .ok (.sipush 500, 3) := by decide +kernel
theorem dF_timeOf_8 : decode cF_timeOf 8 = .ok (.goto 54, 3) := by decide +kernel
theorem dF_timeOf_11 : decode cF_timeOf 11 = .ok (.iload_n 0, 1) := by decide +kernel
theorem dF_timeOf_12 : decode cF_timeOf 12 = .ok (.bipush 6, 2) := by decide +kernel
theorem dF_timeOf_14 : decode cF_timeOf 14 = .ok (.if_icmp .ge 9, 3) := by decide +kernel
theorem dF_timeOf_17 : decode cF_timeOf 17 = .ok (.sipush 400, 3) := by decide +kernel
theorem dF_timeOf_20 : decode cF_timeOf 20 = .ok (.goto 42, 3) := by decide +kernel
theorem dF_timeOf_23 : decode cF_timeOf 23 = .ok (.iload_n 0, 1) := by decide +kernel
theorem dF_timeOf_24 : decode cF_timeOf 24 = .ok (.bipush 6, 2) := by decide +kernel
theorem dF_timeOf_26 : decode cF_timeOf 26 = .ok (.if_icmp .ne 9, 3) := by decide +kernel
theorem dF_timeOf_29 : decode cF_timeOf 29 = .ok (.sipush 1000, 3) := by decide +kernel
theorem dF_timeOf_32 : decode cF_timeOf 32 = .ok (.goto 30, 3) := by decide +kernel
theorem dF_timeOf_35 : decode cF_timeOf 35 = .ok (.iload_n 0, 1) := by decide +kernel
theorem dF_timeOf_36 : decode cF_timeOf 36 = .ok (.bipush 7, 2) := by decide +kernel
theorem dF_timeOf_38 : decode cF_timeOf 38 = .ok (.if_icmp .ne 9, 3) := by decide +kernel
theorem dF_timeOf_41 : decode cF_timeOf 41 = .ok (.sipush 1500, 3) := by decide +kernel
theorem dF_timeOf_44 : decode cF_timeOf 44 = .ok (.goto 18, 3) := by decide +kernel
theorem dF_timeOf_47 : decode cF_timeOf 47 = .ok (.iload_n 0, 1) := by decide +kernel
theorem dF_timeOf_48 : decode cF_timeOf 48 = .ok (.bipush 8, 2) := by decide +kernel
theorem dF_timeOf_50 : decode cF_timeOf 50 = .ok (.if_icmp .ne 9, 3) := by decide +kernel
theorem dF_timeOf_53 : decode cF_timeOf 53 = .ok (.sipush 750, 3) := by decide +kernel
theorem dF_timeOf_56 : decode cF_timeOf 56 = .ok (.goto 6, 3) := by decide +kernel
theorem dF_timeOf_59 : decode cF_timeOf 59 = .ok (.sipush 900, 3) := by decide +kernel
theorem dF_timeOf_62 : decode cF_timeOf 62 = .ok (.ireturn, 1) := by decide +kernel
abbrev rmkF_timeOf : Room := { frames := 0, cells := 0, slots := 0, locals := 0 }
set_option maxHeartbeats 4000000 in
set_option maxRecDepth 100000 in
theorem kF_timeOf (l : Launch) (D : va_G) (E : ur_Ev) (h : ur_M) (v : Int32)   : ur_Mi l yF_timeOf wsF_timeOf rmkF_timeOf D vwCl (ur_v E) [.int v] h (fun r h2 => r = fo_tm v ∧ h2 = h) 0 0 := by
  intro sz
  refine ur_of (cc := cF_timeOf) (maxL := 1) (ret := (some .int)) (by decide) rfl (Nat.le_of_ble_eq_true rfl) ?_
  intro p e s m args below meth c ls Q hsz hx hb hml hr hlocks hnm hown hts hO hK hI hQ hl
  subst hsz
  have hV := hK.1
  have hts : ∀ w ∈ ur_G, w.before args s = true := fun w hw => hts w (List.mem_cons_of_mem _ hw)
  have hZ : ur_Z E (ur_A h s.heap.size) s s.heap := hO.1
  have hown : s.vm.findClass "UnitRoomModel" = some m.cls := hown
  have hl : lv_has ls 1 [(0, .int v)] := hl
  refine lv_iload_n hx hb dF_timeOf_0 rfl (lv_at hl 0 rfl) ?_
  refine lv_iconst (v := 4) hx hb dF_timeOf_1 (by decide) ?_
  refine lv_icmp_ge (tgt := 11) hx hb dF_timeOf_2 (by decide) (fun c1 => ?_) (fun c1 => ?_)
  · refine lv_iload_n hx hb dF_timeOf_11 rfl (lv_at hl 0 rfl) ?_
    refine lv_bipush (v := 6) hx hb dF_timeOf_12 (by decide) ?_
    refine lv_icmp_ge (tgt := 23) hx hb dF_timeOf_14 (by decide) (fun c2 => ?_) (fun c2 => ?_)
    · refine lv_iload_n hx hb dF_timeOf_23 rfl (lv_at hl 0 rfl) ?_
      refine lv_bipush (v := 6) hx hb dF_timeOf_24 (by decide) ?_
      refine lv_icmp_ne (tgt := 35) hx hb dF_timeOf_26 (by decide) (fun c3 => ?_) (fun c3 => ?_)
      · refine lv_iload_n hx hb dF_timeOf_35 rfl (lv_at hl 0 rfl) ?_
        refine lv_bipush (v := 7) hx hb dF_timeOf_36 (by decide) ?_
        refine lv_icmp_ne (tgt := 47) hx hb dF_timeOf_38 (by decide) (fun c4 => ?_) (fun c4 => ?_)
        · refine lv_iload_n hx hb dF_timeOf_47 rfl (lv_at hl 0 rfl) ?_
          refine lv_bipush (v := 8) hx hb dF_timeOf_48 (by decide) ?_
          refine lv_icmp_ne (tgt := 59) hx hb dF_timeOf_50 (by decide) (fun c5 => ?_) (fun c5 => ?_)
          · refine lv_sipush (v := 900) hx hb dF_timeOf_59 (by decide) ?_
            exact ur_ri hx hb hr hlocks hI hQ ⟨(by first | (simp only [fo_tm, c1, c2, c3, c4, c5, ↓reduceIte]; done) | (simp only [fo_tm, c1, c2, c3, c4, c5, ↓reduceIte]; rfl) | rfl), rfl⟩ dF_timeOf_62
          · refine lv_sipush (v := 750) hx hb dF_timeOf_53 (by decide) ?_
            refine lv_goto (tgt := 62) hx hb dF_timeOf_56 (by decide) ?_
            exact ur_ri hx hb hr hlocks hI hQ ⟨(by first | (simp only [fo_tm, c1, c2, c3, c4, c5, ↓reduceIte]; done) | (simp only [fo_tm, c1, c2, c3, c4, c5, ↓reduceIte]; rfl) | rfl), rfl⟩ dF_timeOf_62
        · refine lv_sipush (v := 1500) hx hb dF_timeOf_41 (by decide) ?_
          refine lv_goto (tgt := 62) hx hb dF_timeOf_44 (by decide) ?_
          exact ur_ri hx hb hr hlocks hI hQ ⟨(by first | (simp only [fo_tm, c1, c2, c3, c4, ↓reduceIte]; done) | (simp only [fo_tm, c1, c2, c3, c4, ↓reduceIte]; rfl) | rfl), rfl⟩ dF_timeOf_62
      · refine lv_sipush (v := 1000) hx hb dF_timeOf_29 (by decide) ?_
        refine lv_goto (tgt := 62) hx hb dF_timeOf_32 (by decide) ?_
        exact ur_ri hx hb hr hlocks hI hQ ⟨(by first | (simp only [fo_tm, c1, c2, c3, ↓reduceIte]; done) | (simp only [fo_tm, c1, c2, c3, ↓reduceIte]; rfl) | rfl), rfl⟩ dF_timeOf_62
    · refine lv_sipush (v := 400) hx hb dF_timeOf_17 (by decide) ?_
      refine lv_goto (tgt := 62) hx hb dF_timeOf_20 (by decide) ?_
      exact ur_ri hx hb hr hlocks hI hQ ⟨(by first | (simp only [fo_tm, c1, c2, ↓reduceIte]; done) | (simp only [fo_tm, c1, c2, ↓reduceIte]; rfl) | rfl), rfl⟩ dF_timeOf_62
  · refine lv_sipush (v := 500) hx hb dF_timeOf_5 (by decide) ?_
    refine lv_goto (tgt := 62) hx hb dF_timeOf_8 (by decide) ?_
    exact ur_ri hx hb hr hlocks hI hQ ⟨(by first | (simp only [fo_tm, c1, ↓reduceIte]; done) | (simp only [fo_tm, c1, ↓reduceIte]; rfl) | rfl), rfl⟩ dF_timeOf_62
theorem dF_can_0 : decode cF_can 0 = .ok (.iload_n 0, 1) := by decide +kernel
theorem dF_can_1 : decode cF_can 1 = .ok (.iconst 4, 1) := by decide +kernel
theorem dF_can_2 : decode cF_can 2 = .ok (.if_icmp .ge 5, 3) := by decide +kernel
theorem dF_can_5 : decode cF_can 5 = .ok (.iconst 1, 1) := by decide +kernel
theorem dF_can_6 : decode cF_can 6 = .ok (.ireturn, 1) := by decide +kernel
theorem dF_can_7 : decode cF_can 7 = .ok (.iload_n 0, 1) := by decide +kernel
theorem dF_can_8 : decode cF_can 8 = .ok (.bipush 6, 2) := by decide +kernel
theorem dF_can_10 : decode cF_can 10 = .ok (.if_icmp .ge 17, 3) := by decide +kernel
theorem dF_can_13 : decode cF_can 13 = .ok (.iload_n 1, 1) := by decide +kernel
theorem dF_can_14 : decode cF_can 14 = .ok (.ifCond .gt 7, 3) := by decide +kernel
theorem dF_can_17 : decode cF_can 17 = .ok (.iload_n 2, 1) := by decide +kernel
theorem dF_can_18 : decode cF_can 18 = .ok (.ifCond .ne 7, 3) := by decide +kernel
theorem dF_can_21 : decode cF_can 21 = .ok (.iconst 1, 1) := by decide +kernel
theorem dF_can_22 : decode cF_can 22 = .ok (.goto 4, 3) := by decide +kernel
theorem dF_can_25 : decode cF_can 25 = .ok (.iconst 0, 1) := by decide +kernel
theorem dF_can_26 : decode cF_can 26 = .ok (.ireturn, 1) := by decide +kernel
theorem dF_can_27 : decode cF_can 27 = .ok (.iload_n 0, 1) := by decide +kernel
theorem dF_can_28 : decode cF_can 28 = .ok (.bipush 6, 2) := by decide +kernel
theorem dF_can_30 : decode cF_can 30 = .ok (.if_icmp .ne 16, 3) := by decide +kernel
theorem dF_can_33 : decode cF_can 33 = .ok (.iload_n 1, 1) := by decide +kernel
theorem dF_can_34 : decode cF_can 34 = .ok (.iconst 1, 1) := by decide +kernel
theorem dF_can_35 : decode cF_can 35 = .ok (.if_icmp .ne 7, 3) := by decide +kernel
theorem dF_can_38 : decode cF_can 38 = .ok (.iconst 1, 1) := by decide +kernel
theorem dF_can_39 : decode cF_can 39 = .ok (.goto 31, 3) := by decide +kernel
theorem dF_can_42 : decode cF_can 42 = .ok (.iconst 0, 1) := by decide +kernel
theorem dF_can_43 : decode cF_can 43 = .ok (.goto 27, 3) := by decide +kernel
theorem dF_can_46 : decode cF_can 46 = .ok (.iload_n 1, 1) := by decide +kernel
theorem dF_can_47 : decode cF_can 47 = .ok (.iconst 2, 1) := by decide +kernel
theorem dF_can_48 : decode cF_can 48 = .ok (.if_icmp .eq 17, 3) := by decide +kernel
theorem dF_can_51 : decode cF_can 51 = .ok (.iload_n 0, 1) := by decide +kernel
theorem dF_can_52 : decode cF_can 52 = .ok (.bipush 8, 2) := by decide +kernel
theorem dF_can_54 : decode cF_can 54 = .ok (.if_icmp .ne 15, 3) := by decide +kernel
theorem dF_can_57 : decode cF_can 57 = .ok (.iload_n 1, 1) := by decide +kernel
theorem dF_can_58 : decode cF_can 58 = .ok (.ifCond .ne 11, 3) := by decide +kernel
theorem dF_can_61 : decode cF_can 61 = .ok (.iload_n 2, 1) := by decide +kernel
theorem dF_can_62 : decode cF_can 62 = .ok (.ifCond .ne 7, 3) := by decide +kernel
theorem dF_can_65 : decode cF_can 65 = .ok (.iconst 1, 1) := by decide +kernel
theorem dF_can_66 : decode cF_can 66 = .ok (.goto 4, 3) := by decide +kernel
theorem dF_can_69 : decode cF_can 69 = .ok (.iconst 0, 1) := by decide +kernel
theorem dF_can_70 : decode cF_can 70 = .ok (.ireturn, 1) := by decide +kernel
abbrev rmkF_can : Room := { frames := 0, cells := 0, slots := 0, locals := 0 }
set_option maxHeartbeats 4000000 in
set_option maxRecDepth 100000 in
theorem kF_can (l : Launch) (D : va_G) (E : ur_Ev) (h : ur_M) (v : Int32) (op : Int32) (mv : Int32)   : ur_Mi l yF_can wsF_can rmkF_can D vwCl (ur_v E) [.int v, .int op, .int mv] h (fun r h2 => r = um_b (fo_can v op mv) ∧ h2 = h) 0 0 := by
  intro sz
  refine ur_of (cc := cF_can) (maxL := 3) (ret := (some .boolean)) (by decide) rfl (Nat.le_of_ble_eq_true rfl) ?_
  intro p e s m args below meth c ls Q hsz hx hb hml hr hlocks hnm hown hts hO hK hI hQ hl
  subst hsz
  have hV := hK.1
  have hts : ∀ w ∈ ur_G, w.before args s = true := fun w hw => hts w (List.mem_cons_of_mem _ hw)
  have hZ : ur_Z E (ur_A h s.heap.size) s s.heap := hO.1
  have hown : s.vm.findClass "UnitRoomModel" = some m.cls := hown
  have hl : lv_has ls 3 [(0, .int v), (1, .int op), (2, .int mv)] := hl
  refine lv_iload_n hx hb dF_can_0 rfl (lv_at hl 0 rfl) ?_
  refine lv_iconst (v := 4) hx hb dF_can_1 (by decide) ?_
  refine lv_icmp_ge (tgt := 7) hx hb dF_can_2 (by decide) (fun c1 => ?_) (fun c1 => ?_)
  · refine lv_iload_n hx hb dF_can_7 rfl (lv_at hl 0 rfl) ?_
    refine lv_bipush (v := 6) hx hb dF_can_8 (by decide) ?_
    refine lv_icmp_ge (tgt := 27) hx hb dF_can_10 (by decide) (fun c2 => ?_) (fun c2 => ?_)
    · refine lv_iload_n hx hb dF_can_27 rfl (lv_at hl 0 rfl) ?_
      refine lv_bipush (v := 6) hx hb dF_can_28 (by decide) ?_
      refine lv_icmp_ne (tgt := 46) hx hb dF_can_30 (by decide) (fun c3 => ?_) (fun c3 => ?_)
      · refine lv_iload_n hx hb dF_can_46 rfl (lv_at hl 1 rfl) ?_
        refine lv_iconst (v := 2) hx hb dF_can_47 (by decide) ?_
        refine lv_icmp_eq (tgt := 65) hx hb dF_can_48 (by decide) (fun c4 => ?_) (fun c4 => ?_)
        · refine lv_iconst (v := 1) hx hb dF_can_65 (by decide) ?_
          refine lv_goto (tgt := 70) hx hb dF_can_66 (by decide) ?_
          exact ur_rz hx hb hr hlocks hI hQ rfl ⟨(by first | (simp only [fo_can, c1, c2, c3, c4, ↓reduceIte]; done) | (simp only [fo_can, c1, c2, c3, c4, ↓reduceIte]; rfl) | rfl), rfl⟩ dF_can_70
        · refine lv_iload_n hx hb dF_can_51 rfl (lv_at hl 0 rfl) ?_
          refine lv_bipush (v := 8) hx hb dF_can_52 (by decide) ?_
          refine lv_icmp_ne (tgt := 69) hx hb dF_can_54 (by decide) (fun c5 => ?_) (fun c5 => ?_)
          · refine lv_iconst (v := 0) hx hb dF_can_69 (by decide) ?_
            exact ur_rz hx hb hr hlocks hI hQ rfl ⟨(by first | (simp only [fo_can, c1, c2, c3, c4, c5, ↓reduceIte]; done) | (simp only [fo_can, c1, c2, c3, c4, c5, ↓reduceIte]; rfl) | rfl), rfl⟩ dF_can_70
          · refine lv_iload_n hx hb dF_can_57 rfl (lv_at hl 1 rfl) ?_
            refine lv_if_ne (tgt := 69) hx hb dF_can_58 (by decide) (fun c6 => ?_) (fun c6 => ?_)
            · refine lv_iconst (v := 0) hx hb dF_can_69 (by decide) ?_
              exact ur_rz hx hb hr hlocks hI hQ rfl ⟨(by first | (simp only [fo_can, c1, c2, c3, c4, c5, c6, ↓reduceIte]; done) | (simp only [fo_can, c1, c2, c3, c4, c5, c6, ↓reduceIte]; rfl) | rfl), rfl⟩ dF_can_70
            · refine lv_iload_n hx hb dF_can_61 rfl (lv_at hl 2 rfl) ?_
              refine lv_if_ne (tgt := 69) hx hb dF_can_62 (by decide) (fun c7 => ?_) (fun c7 => ?_)
              · refine lv_iconst (v := 0) hx hb dF_can_69 (by decide) ?_
                exact ur_rz hx hb hr hlocks hI hQ rfl ⟨(by first | (simp only [fo_can, c1, c2, c3, c4, c5, c6, c7, ↓reduceIte]; done) | (simp only [fo_can, c1, c2, c3, c4, c5, c6, c7, ↓reduceIte]; rfl) | rfl), rfl⟩ dF_can_70
              · refine lv_iconst (v := 1) hx hb dF_can_65 (by decide) ?_
                refine lv_goto (tgt := 70) hx hb dF_can_66 (by decide) ?_
                exact ur_rz hx hb hr hlocks hI hQ rfl ⟨(by first | (simp only [fo_can, c1, c2, c3, c4, c5, c6, c7, ↓reduceIte]; done) | (simp only [fo_can, c1, c2, c3, c4, c5, c6, c7, ↓reduceIte]; rfl) | rfl), rfl⟩ dF_can_70
      · refine lv_iload_n hx hb dF_can_33 rfl (lv_at hl 1 rfl) ?_
        refine lv_iconst (v := 1) hx hb dF_can_34 (by decide) ?_
        refine lv_icmp_ne (tgt := 42) hx hb dF_can_35 (by decide) (fun c8 => ?_) (fun c8 => ?_)
        · refine lv_iconst (v := 0) hx hb dF_can_42 (by decide) ?_
          refine lv_goto (tgt := 70) hx hb dF_can_43 (by decide) ?_
          exact ur_rz hx hb hr hlocks hI hQ rfl ⟨(by first | (simp only [fo_can, c1, c2, c3, c8, ↓reduceIte]; done) | (simp only [fo_can, c1, c2, c3, c8, ↓reduceIte]; rfl) | rfl), rfl⟩ dF_can_70
        · refine lv_iconst (v := 1) hx hb dF_can_38 (by decide) ?_
          refine lv_goto (tgt := 70) hx hb dF_can_39 (by decide) ?_
          exact ur_rz hx hb hr hlocks hI hQ rfl ⟨(by first | (simp only [fo_can, c1, c2, c3, c8, ↓reduceIte]; done) | (simp only [fo_can, c1, c2, c3, c8, ↓reduceIte]; rfl) | rfl), rfl⟩ dF_can_70
    · refine lv_iload_n hx hb dF_can_13 rfl (lv_at hl 1 rfl) ?_
      refine lv_if_gt (tgt := 21) hx hb dF_can_14 (by decide) (fun c9 => ?_) (fun c9 => ?_)
      · refine lv_iconst (v := 1) hx hb dF_can_21 (by decide) ?_
        refine lv_goto (tgt := 26) hx hb dF_can_22 (by decide) ?_
        exact ur_rz hx hb hr hlocks hI hQ rfl ⟨(by first | (simp only [fo_can, c1, c2, c9, ↓reduceIte]; done) | (simp only [fo_can, c1, c2, c9, ↓reduceIte]; rfl) | rfl), rfl⟩ dF_can_26
      · refine lv_iload_n hx hb dF_can_17 rfl (lv_at hl 2 rfl) ?_
        refine lv_if_ne (tgt := 25) hx hb dF_can_18 (by decide) (fun c10 => ?_) (fun c10 => ?_)
        · refine lv_iconst (v := 0) hx hb dF_can_25 (by decide) ?_
          exact ur_rz hx hb hr hlocks hI hQ rfl ⟨(by first | (simp only [fo_can, c1, c2, c9, c10, ↓reduceIte]; done) | (simp only [fo_can, c1, c2, c9, c10, ↓reduceIte]; rfl) | rfl), rfl⟩ dF_can_26
        · refine lv_iconst (v := 1) hx hb dF_can_21 (by decide) ?_
          refine lv_goto (tgt := 26) hx hb dF_can_22 (by decide) ?_
          exact ur_rz hx hb hr hlocks hI hQ rfl ⟨(by first | (simp only [fo_can, c1, c2, c9, c10, ↓reduceIte]; done) | (simp only [fo_can, c1, c2, c9, c10, ↓reduceIte]; rfl) | rfl), rfl⟩ dF_can_26
  · refine lv_iconst (v := 1) hx hb dF_can_5 (by decide) ?_
    exact ur_rz hx hb hr hlocks hI hQ rfl ⟨(by first | (simp only [fo_can, c1, ↓reduceIte]; done) | (simp only [fo_can, c1, ↓reduceIte]; rfl) | rfl), rfl⟩ dF_can_6
theorem dF_isAhead_0 : decode cF_isAhead 0 = .ok (.iload_n 2, 1) := by decide +kernel
theorem dF_isAhead_1 : decode cF_isAhead 1 = .ok (.ifCond .lt 50, 3) := by decide +kernel
theorem dF_isAhead_4 : decode cF_isAhead 4 = .ok (.aload_n 0, 1) := by decide +kernel
theorem dF_isAhead_5 : decode cF_isAhead 5 = .ok (.getfield 20, 3) := by decide +kernel
theorem dF_isAhead_8 : decode cF_isAhead 8 = .ok (.iload_n 1, 1) := by decide +kernel
theorem dF_isAhead_9 : decode cF_isAhead 9 = .ok (.laload, 1) := by decide +kernel
theorem dF_isAhead_10 : decode cF_isAhead 10 = .ok (.aload_n 0, 1) := by decide +kernel
theorem dF_isAhead_11 : decode cF_isAhead 11 = .ok (.getfield 20, 3) := by decide +kernel
theorem dF_isAhead_14 : decode cF_isAhead 14 = .ok (.iload_n 2, 1) := by decide +kernel
theorem dF_isAhead_15 : decode cF_isAhead 15 = .ok (.laload, 1) := by decide +kernel
theorem dF_isAhead_16 : decode cF_isAhead 16 = .ok (.lcmp, 1) := by decide +kernel
theorem dF_isAhead_17 : decode cF_isAhead 17 = .ok (.ifCond .lt 34, 3) := by decide +kernel
theorem dF_isAhead_20 : decode cF_isAhead 20 = .ok (.aload_n 0, 1) := by decide +kernel
theorem dF_isAhead_21 : decode cF_isAhead 21 = .ok (.getfield 20, 3) := by decide +kernel
theorem dF_isAhead_24 : decode cF_isAhead 24 = .ok (.iload_n 1, 1) := by decide +kernel
theorem dF_isAhead_25 : decode cF_isAhead 25 = .ok (.laload, 1) := by decide +kernel
theorem dF_isAhead_26 : decode cF_isAhead 26 = .ok (.aload_n 0, 1) := by decide +kernel
theorem dF_isAhead_27 : decode cF_isAhead 27 = .ok (.getfield 20, 3) := by decide +kernel
theorem dF_isAhead_30 : decode cF_isAhead 30 = .ok (.iload_n 2, 1) := by decide +kernel
theorem dF_isAhead_31 : decode cF_isAhead 31 = .ok (.laload, 1) := by decide +kernel
theorem dF_isAhead_32 : decode cF_isAhead 32 = .ok (.lcmp, 1) := by decide +kernel
theorem dF_isAhead_33 : decode cF_isAhead 33 = .ok (.ifCond .ne 22, 3) := by decide +kernel
theorem dF_isAhead_36 : decode cF_isAhead 36 = .ok (.aload_n 0, 1) := by decide +kernel
theorem dF_isAhead_37 : decode cF_isAhead 37 = .ok (.getfield 31, 3) := by decide +kernel
theorem dF_isAhead_40 : decode cF_isAhead 40 = .ok (.iload_n 1, 1) := by decide +kernel
theorem dF_isAhead_41 : decode cF_isAhead 41 = .ok (.iaload, 1) := by decide +kernel
theorem dF_isAhead_42 : decode cF_isAhead 42 = .ok (.aload_n 0, 1) := by decide +kernel
theorem dF_isAhead_43 : decode cF_isAhead 43 = .ok (.getfield 31, 3) := by decide +kernel
theorem dF_isAhead_46 : decode cF_isAhead 46 = .ok (.iload_n 2, 1) := by decide +kernel
theorem dF_isAhead_47 : decode cF_isAhead 47 = .ok (.iaload, 1) := by decide +kernel
theorem dF_isAhead_48 : decode cF_isAhead 48 = .ok (.if_icmp .ge 7, 3) := by decide +kernel
theorem dF_isAhead_51 : decode cF_isAhead 51 = .ok (.iconst 1, 1) := by decide +kernel
theorem dF_isAhead_52 : decode cF_isAhead 52 = .ok (.goto 4, 3) := by decide +kernel
theorem dF_isAhead_55 : decode cF_isAhead 55 = .ok (.iconst 0, 1) := by decide +kernel
theorem dF_isAhead_56 : decode cF_isAhead 56 = .ok (.ireturn, 1) := by decide +kernel
abbrev rmkF_ahead : Room := { frames := 0, cells := 0, slots := 0, locals := 0 }
set_option maxHeartbeats 4000000 in
set_option maxRecDepth 100000 in
theorem kF_ahead (l : Launch) (D : va_G) (E : ur_Ev) (h : ur_M) (q : Nat) (b1 : Nat) (b2 : Nat) (b3 : Nat) (b4 : Nat) (b5 : Nat) (b6 : Nat) (b7 : Nat) (b8 : Nat) (b9 : Nat) (b10 : Nat) (b11 : Nat) (b12 : Nat) (b13 : Nat) (b14 : Nat) (ti : Int64) (ops : Int32) (cds : Int32) (tsz : Int32) (g_free : Nat → Int64) (g_numbers : Nat → Int32) (u : Int32) (v : Int32) (f0 : h q = some (.inr (7, [.ref b1, .ref b2, .ref b3, .long ti, .ref b4, .ref b5, .ref b6, .ref b7, .int ops, .ref b8, .int cds, .ref b9, .ref b10, .ref b11, .ref b12, .ref b13, .int tsz, .ref b14]))) (f1 : h b4 = some (.inl (E.1 5, 10, .inr (.inl g_free)))) (f2 : h b7 = some (.inl (E.1 0, 10, .inl g_numbers))) (hu : vp_in u 10) (hv : v < 0 ∨ vp_in v 10) : ur_Mi l yF_isAhead wsF_isAhead rmkF_ahead D vwCl (ur_v E) [.ref q, .int u, .int v] h (fun r h2 => r = um_b (fo_ah g_free g_numbers u v) ∧ h2 = h) 0 0 := by
  intro sz
  refine ur_of (cc := cF_isAhead) (maxL := 3) (ret := (some .boolean)) (by decide) rfl (Nat.le_of_ble_eq_true rfl) ?_
  intro p e s m args below meth c ls Q hsz hx hb hml hr hlocks hnm hown hts hO hK hI hQ hl
  subst hsz
  have hV := hK.1
  have hts : ∀ w ∈ ur_G, w.before args s = true := fun w hw => hts w (List.mem_cons_of_mem _ hw)
  have hZ : ur_Z E (ur_A h s.heap.size) s s.heap := hO.1
  have hown : s.vm.findClass "UnitRoomModel" = some m.cls := hown
  have hl : lv_has ls 3 [(0, .ref q), (1, .int u), (2, .int v)] := hl
  refine lv_iload_n hx hb dF_isAhead_0 rfl (lv_at hl 2 rfl) ?_
  refine lv_if_lt (tgt := 51) hx hb dF_isAhead_1 (by decide) (fun c1 => ?_) (fun c1 => ?_)
  · refine lv_iconst (v := 1) hx hb dF_isAhead_51 (by decide) ?_
    refine lv_goto (tgt := 56) hx hb dF_isAhead_52 (by decide) ?_
    exact ur_rz hx hb hr hlocks hI hQ rfl ⟨(by first | (simp only [fo_ah, c1, ↓reduceIte]; done) | (simp only [fo_ah, c1, ↓reduceIte]; rfl) | rfl), rfl⟩ dF_isAhead_56
  · have hv9 : vp_in v 10 := hv.resolve_left c1
    refine lv_aload_n hx hb dF_isAhead_4 rfl (lv_at hl 0 rfl) ?_
    refine va_get (D := D) (ci := 7) (v := .ref b4) (C := "UnitRoomModel") (T := TF) (N := 18) hx hb hts inF hown hV (ur_one hI.1 f0) 0 rfl rfl 4 (by decide) (hts _ mw581) (fun _ h9 => h9) rfl dF_isAhead_5 ?_
    refine lv_iload_n hx hb dF_isAhead_8 rfl (lv_at hl 1 rfl) ?_
    refine va_lald hx hb hV (ur_one hI.1 f1) 0 5 rfl rfl hu dF_isAhead_9 ?_
    refine lv_aload_n hx hb dF_isAhead_10 rfl (lv_at hl 0 rfl) ?_
    refine va_get (D := D) (ci := 7) (v := .ref b4) (C := "UnitRoomModel") (T := TF) (N := 18) hx hb hts inF hown hV (ur_one hI.1 f0) 0 rfl rfl 4 (by decide) (hts _ mw581) (fun _ h9 => h9) rfl dF_isAhead_11 ?_
    refine lv_iload_n hx hb dF_isAhead_14 rfl (lv_at hl 2 rfl) ?_
    refine va_lald hx hb hV (ur_one hI.1 f1) 0 5 rfl rfl hv9 dF_isAhead_15 ?_
    refine W.lcmp hx hb dF_isAhead_16 ?_
    refine lv_if_lt (tgt := 51) hx hb dF_isAhead_17 (by decide) (fun c2 => ?_) (fun c2 => ?_)
    · refine lv_iconst (v := 1) hx hb dF_isAhead_51 (by decide) ?_
      refine lv_goto (tgt := 56) hx hb dF_isAhead_52 (by decide) ?_
      exact ur_rz hx hb hr hlocks hI hQ rfl ⟨(by first | (simp only [fo_ah, c1, c2, ↓reduceIte]; done) | (simp only [fo_ah, c1, c2, ↓reduceIte]; rfl) | rfl), rfl⟩ dF_isAhead_56
    · refine lv_aload_n hx hb dF_isAhead_20 rfl (lv_at hl 0 rfl) ?_
      refine va_get (D := D) (ci := 7) (v := .ref b4) (C := "UnitRoomModel") (T := TF) (N := 18) hx hb hts inF hown hV (ur_one hI.1 f0) 0 rfl rfl 4 (by decide) (hts _ mw581) (fun _ h9 => h9) rfl dF_isAhead_21 ?_
      refine lv_iload_n hx hb dF_isAhead_24 rfl (lv_at hl 1 rfl) ?_
      refine va_lald hx hb hV (ur_one hI.1 f1) 0 5 rfl rfl hu dF_isAhead_25 ?_
      refine lv_aload_n hx hb dF_isAhead_26 rfl (lv_at hl 0 rfl) ?_
      refine va_get (D := D) (ci := 7) (v := .ref b4) (C := "UnitRoomModel") (T := TF) (N := 18) hx hb hts inF hown hV (ur_one hI.1 f0) 0 rfl rfl 4 (by decide) (hts _ mw581) (fun _ h9 => h9) rfl dF_isAhead_27 ?_
      refine lv_iload_n hx hb dF_isAhead_30 rfl (lv_at hl 2 rfl) ?_
      refine va_lald hx hb hV (ur_one hI.1 f1) 0 5 rfl rfl hv9 dF_isAhead_31 ?_
      refine W.lcmp hx hb dF_isAhead_32 ?_
      refine lv_if_ne (tgt := 55) hx hb dF_isAhead_33 (by decide) (fun c3 => ?_) (fun c3 => ?_)
      · refine lv_iconst (v := 0) hx hb dF_isAhead_55 (by decide) ?_
        exact ur_rz hx hb hr hlocks hI hQ rfl ⟨(by first | (simp only [fo_ah, c1, c2, c3, ↓reduceIte]; done) | (simp only [fo_ah, c1, c2, c3, ↓reduceIte]; rfl) | rfl), rfl⟩ dF_isAhead_56
      · refine lv_aload_n hx hb dF_isAhead_36 rfl (lv_at hl 0 rfl) ?_
        refine va_get (D := D) (ci := 7) (v := .ref b7) (C := "UnitRoomModel") (T := TF) (N := 18) hx hb hts inF hown hV (ur_one hI.1 f0) 0 rfl rfl 7 (by decide) (hts _ mw584) (fun _ h9 => h9) rfl dF_isAhead_37 ?_
        refine lv_iload_n hx hb dF_isAhead_40 rfl (lv_at hl 1 rfl) ?_
        refine va_iald hx hb hV (ur_one hI.1 f2) 0 0 rfl rfl hu dF_isAhead_41 ?_
        refine lv_aload_n hx hb dF_isAhead_42 rfl (lv_at hl 0 rfl) ?_
        refine va_get (D := D) (ci := 7) (v := .ref b7) (C := "UnitRoomModel") (T := TF) (N := 18) hx hb hts inF hown hV (ur_one hI.1 f0) 0 rfl rfl 7 (by decide) (hts _ mw584) (fun _ h9 => h9) rfl dF_isAhead_43 ?_
        refine lv_iload_n hx hb dF_isAhead_46 rfl (lv_at hl 2 rfl) ?_
        refine va_iald hx hb hV (ur_one hI.1 f2) 0 0 rfl rfl hv9 dF_isAhead_47 ?_
        refine lv_icmp_ge (tgt := 55) hx hb dF_isAhead_48 (by decide) (fun c4 => ?_) (fun c4 => ?_)
        · refine lv_iconst (v := 0) hx hb dF_isAhead_55 (by decide) ?_
          exact ur_rz hx hb hr hlocks hI hQ rfl ⟨(by first | (simp only [fo_ah, c1, c2, c3, c4, ↓reduceIte]; done) | (simp only [fo_ah, c1, c2, c3, c4, ↓reduceIte]; rfl) | rfl), rfl⟩ dF_isAhead_56
        · refine lv_iconst (v := 1) hx hb dF_isAhead_51 (by decide) ?_
          refine lv_goto (tgt := 56) hx hb dF_isAhead_52 (by decide) ?_
          exact ur_rz hx hb hr hlocks hI hQ rfl ⟨(by first | (simp only [fo_ah, c1, c2, c3, c4, ↓reduceIte]; done) | (simp only [fo_ah, c1, c2, c3, c4, ↓reduceIte]; rfl) | rfl), rfl⟩ dF_isAhead_56
def fo_word (g : Nat → Int32) (x : Int32) : Int32 := if fo_in x 0 3999 = true then fo_told (g x.toNatClampNeg) else 2147483647
theorem fo_in_iff {v : Int32} {n : Nat} (hn : n < 2 ^ 31 - 1) (h : fo_in v 0 (nI n) = true) : ¬ v < 0 ∧ v < nI (n + 1) ∧ vp_in v (n + 1) := by
  unfold fo_in at h
  by_cases h0 : v < 0
  · rw [if_pos h0] at h; cases h
  · rw [if_neg h0] at h
    by_cases h1 : nI n < v
    · rw [if_pos h1] at h; cases h
    · obtain ⟨j, hj, rfl⟩ := nI_of h0
      have : j < n + 1 := Nat.lt_succ_of_le (Nat.not_lt.mp (fun z => h1 (nI_lt z hj)))
      exact ⟨h0, nI_lt this (by omega), vp_in_nI this (by omega)⟩
theorem dF_word_0 : decode cF_word 0 = .ok (.iload_n 1, 1) := by decide +kernel
theorem dF_word_1 : decode cF_word 1 = .ok (.iconst 0, 1) := by decide +kernel
theorem dF_word_2 : decode cF_word 2 = .ok (.sipush 3999, 3) := by decide +kernel
theorem dF_word_5 : decode cF_word 5 = .ok (.invokestatic 64, 3) := by decide +kernel
theorem dF_word_8 : decode cF_word 8 = .ok (.ifCond .eq 15, 3) := by decide +kernel
theorem dF_word_11 : decode cF_word 11 = .ok (.aload_n 0, 1) := by decide +kernel
theorem dF_word_12 : decode cF_word 12 = .ok (.getfield 7, 3) := by decide +kernel
theorem dF_word_15 : decode cF_word 15 = .ok (.iload_n 1, 1) := by decide +kernel
theorem dF_word_16 : decode cF_word 16 = .ok (.iaload, 1) := by decide +kernel
theorem dF_word_17 : decode cF_word 17 = .ok (.invokestatic 69, 3) := by decide +kernel
theorem dF_word_20 : decode cF_word 20 = .ok (.goto 5, 3) := by decide +kernel
theorem dF_word_23 : decode cF_word 23 = .ok (.ldc 73, 2) := by decide +kernel
theorem dF_word_25 : decode cF_word 25 = .ok (.ireturn, 1) := by decide +kernel
abbrev rmkF_word : Room := { frames := 1, cells := 0, slots := 0, locals := 22 }
set_option maxHeartbeats 4000000 in
set_option maxRecDepth 100000 in
theorem kF_word (l : Launch) (D : va_G) (E : ur_Ev) (h : ur_M) (q : Nat) (b1 : Nat) (b2 : Nat) (b3 : Nat) (b4 : Nat) (b5 : Nat) (b6 : Nat) (b7 : Nat) (b8 : Nat) (b9 : Nat) (b10 : Nat) (b11 : Nat) (b12 : Nat) (b13 : Nat) (b14 : Nat) (ti : Int64) (ops : Int32) (cds : Int32) (tsz : Int32) (g_memory : Nat → Int32) (x : Int32) (f0 : h q = some (.inr (7, [.ref b1, .ref b2, .ref b3, .long ti, .ref b4, .ref b5, .ref b6, .ref b7, .int ops, .ref b8, .int cds, .ref b9, .ref b10, .ref b11, .ref b12, .ref b13, .int tsz, .ref b14]))) (f1 : h b1 = some (.inl (E.1 0, 4000, .inl g_memory)))  : ur_Mi l yF_word wsF_word rmkF_word D vwCl (ur_v E) [.ref q, .int x] h (fun r h2 => r = fo_word g_memory x ∧ h2 = h) 0 0 := by
  intro sz
  refine ur_of (cc := cF_word) (maxL := 2) (ret := (some .int)) (by decide) rfl (Nat.le_of_ble_eq_true rfl) ?_
  intro p e s m args below meth c ls Q hsz hx hb hml hr hlocks hnm hown hts hO hK hI hQ hl
  subst hsz
  have hV := hK.1
  have hts : ∀ w ∈ ur_G, w.before args s = true := fun w hw => hts w (List.mem_cons_of_mem _ hw)
  have hZ : ur_Z E (ur_A h s.heap.size) s s.heap := hO.1
  have hown : s.vm.findClass "UnitRoomModel" = some m.cls := hown
  have hl : lv_has ls 2 [(0, .ref q), (1, .int x)] := hl
  refine lv_iload_n hx hb dF_word_0 rfl (lv_at hl 1 rfl) ?_
  refine lv_iconst (v := 0) hx hb dF_word_1 (by decide) ?_
  refine lv_sipush (v := 3999) hx hb dF_word_2 (by decide) ?_
  refine ur_xi (va_runS (As := [.int x, .int 0, .int 3999]) (rest := []) ⟨hx, hb, hml, hown, hts⟩ (kF_in l D E h x 0 3999 s.heap.size) (va_cwS 3 hts (ur_gT mw642 mw643 mw11 mw644) rfl rfl rfl (by decide +kernel) ⟨(Nat.le_of_ble_eq_true rfl), (Nat.le_of_ble_eq_true rfl)⟩) ⟨ur_blind, ur_pre hI hO hK (fun _ _ q => q)⟩ rfl rfl hl.1 rfl (lv_room (Nat.le_of_ble_eq_true rfl)) dF_word_5 ⟨Nat.le_of_ble_eq_true rfl, Nat.le_of_ble_eq_true rfl⟩) hI (fun r1 h1 H locs p1 hI => ?_)
  obtain ⟨er1, eh1⟩ := p1
  replace eh1 := eh1.symm; subst eh1
  refine lv_if_eq (tgt := 23) hx hb dF_word_8 (by decide) (fun c2 => ?_) (fun c2 => ?_)
  · have k3 : (fo_in x 0 3999) = false := um_b0 er1 c2
    refine lv_ldc (v := 2147483647) hx hb hown (hts _ mw664) dF_word_23 ?_
    exact ur_ri hx hb hr hlocks hI hQ ⟨(by unfold fo_word; rw [if_neg (by rw [k3]; decide)]), rfl⟩ dF_word_25
  · have k4 : (fo_in x 0 3999) = true := um_b1 er1 c2
    refine lv_aload_n hx hb dF_word_11 rfl (lv_at hl 0 rfl) ?_
    refine va_get (D := D) (ci := 7) (v := .ref b1) (C := "UnitRoomModel") (T := TF) (N := 18) hx hb hts inF hown hV (ur_one hI.1 f0) 0 rfl rfl 0 (by decide) (hts _ mw577) (fun _ h9 => h9) rfl dF_word_12 ?_
    refine lv_iload_n hx hb dF_word_15 rfl (lv_at hl 1 rfl) ?_
    refine va_iald hx hb hV (ur_one hI.1 f1) 0 0 rfl rfl (fo_in_iff (n := 3999) (by decide) k4).2.2 dF_word_16 ?_
    refine ur_xi (va_runS (As := [.int (g_memory x.toNatClampNeg)]) (rest := []) ⟨hx, hb, hml, hown, hts⟩ (kF_told l D E h (g_memory x.toNatClampNeg) H.size) (va_cwS 1 hts (ur_gT mw660 mw661 mw11 mw662) rfl rfl rfl (by decide +kernel) ⟨(Nat.le_of_ble_eq_true rfl), (Nat.le_of_ble_eq_true rfl)⟩) ⟨ur_blind, ur_pre hI hO hK (fun _ _ q => q)⟩ rfl rfl hl.1 rfl (lv_room (Nat.le_of_ble_eq_true rfl)) dF_word_17 ⟨Nat.le_of_ble_eq_true rfl, Nat.le_of_ble_eq_true rfl⟩) hI (fun r5 h5 H locs p5 hI => ?_)
    obtain ⟨er5, eh5⟩ := p5
    replace eh5 := eh5.symm; subst eh5
    replace er5 := er5.symm; subst er5
    refine lv_goto (tgt := 25) hx hb dF_word_20 (by decide) ?_
    exact ur_ri hx hb hr hlocks hI hQ ⟨(by unfold fo_word; rw [if_pos k4]), rfl⟩ dF_word_25
def fo_endn (n x : Int32) : Int32 := if fo_in x 0 n = true then x else n
theorem dF_end_0 : decode cF_end 0 = .ok (.iload_n 1, 1) := by decide +kernel
theorem dF_end_1 : decode cF_end 1 = .ok (.iconst 0, 1) := by decide +kernel
theorem dF_end_2 : decode cF_end 2 = .ok (.aload_n 0, 1) := by decide +kernel
theorem dF_end_3 : decode cF_end 3 = .ok (.getfield 60, 3) := by decide +kernel
theorem dF_end_6 : decode cF_end 6 = .ok (.invokestatic 64, 3) := by decide +kernel
theorem dF_end_9 : decode cF_end 9 = .ok (.ifCond .ne 5, 3) := by decide +kernel
theorem dF_end_12 : decode cF_end 12 = .ok (.iconst 0, 1) := by decide +kernel
theorem dF_end_13 : decode cF_end 13 = .ok (.ireturn, 1) := by decide +kernel
theorem dF_end_14 : decode cF_end 14 = .ok (.aload_n 0, 1) := by decide +kernel
theorem dF_end_15 : decode cF_end 15 = .ok (.iload_n 1, 1) := by decide +kernel
theorem dF_end_16 : decode cF_end 16 = .ok (.putfield 60, 3) := by decide +kernel
theorem dF_end_19 : decode cF_end 19 = .ok (.iconst 1, 1) := by decide +kernel
theorem dF_end_20 : decode cF_end 20 = .ok (.ireturn, 1) := by decide +kernel
abbrev rmkF_end : Room := { frames := 1, cells := 0, slots := 0, locals := 22 }
set_option maxHeartbeats 4000000 in
set_option maxRecDepth 100000 in
theorem kF_end (l : Launch) (D : va_G) (E : ur_Ev) (h : ur_M) (q : Nat) (b1 : Nat) (b2 : Nat) (b3 : Nat) (b4 : Nat) (b5 : Nat) (b6 : Nat) (b7 : Nat) (b8 : Nat) (b9 : Nat) (b10 : Nat) (b11 : Nat) (b12 : Nat) (b13 : Nat) (b14 : Nat) (ti : Int64) (ops : Int32) (cds : Int32) (tsz : Int32) (x : Int32) (f0 : h q = some (.inr (7, [.ref b1, .ref b2, .ref b3, .long ti, .ref b4, .ref b5, .ref b6, .ref b7, .int ops, .ref b8, .int cds, .ref b9, .ref b10, .ref b11, .ref b12, .ref b13, .int tsz, .ref b14])))  : ur_Mi l yF_end wsF_end rmkF_end D vwCl (ur_v E) [.ref q, .int x] h (fun r h2 => r = um_b (fo_in x 0 tsz) ∧ h2 = va_up h q (some (.inr (7, [.ref b1, .ref b2, .ref b3, .long ti, .ref b4, .ref b5, .ref b6, .ref b7, .int ops, .ref b8, .int cds, .ref b9, .ref b10, .ref b11, .ref b12, .ref b13, .int (fo_endn tsz x), .ref b14])))) 0 0 := by
  intro sz
  refine ur_of (cc := cF_end) (maxL := 2) (ret := (some .boolean)) (by decide) rfl (Nat.le_of_ble_eq_true rfl) ?_
  intro p e s m args below meth c ls Q hsz hx hb hml hr hlocks hnm hown hts hO hK hI hQ hl
  subst hsz
  have hV := hK.1
  have hts : ∀ w ∈ ur_G, w.before args s = true := fun w hw => hts w (List.mem_cons_of_mem _ hw)
  have hZ : ur_Z E (ur_A h s.heap.size) s s.heap := hO.1
  have hown : s.vm.findClass "UnitRoomModel" = some m.cls := hown
  have hl : lv_has ls 2 [(0, .ref q), (1, .int x)] := hl
  refine lv_iload_n hx hb dF_end_0 rfl (lv_at hl 1 rfl) ?_
  refine lv_iconst (v := 0) hx hb dF_end_1 (by decide) ?_
  refine lv_aload_n hx hb dF_end_2 rfl (lv_at hl 0 rfl) ?_
  refine va_get (D := D) (ci := 7) (v := .int tsz) (C := "UnitRoomModel") (T := TF) (N := 18) hx hb hts inF hown hV (ur_one hI.1 f0) 0 rfl rfl 16 (by decide) (hts _ mw593) (fun _ h9 => h9) rfl dF_end_3 ?_
  refine ur_xi (va_runS (As := [.int x, .int 0, .int tsz]) (rest := []) ⟨hx, hb, hml, hown, hts⟩ (kF_in l D E h x 0 tsz s.heap.size) (va_cwS 3 hts (ur_gT mw642 mw643 mw11 mw644) rfl rfl rfl (by decide +kernel) ⟨(Nat.le_of_ble_eq_true rfl), (Nat.le_of_ble_eq_true rfl)⟩) ⟨ur_blind, ur_pre hI hO hK (fun _ _ q => q)⟩ rfl rfl hl.1 rfl (lv_room (Nat.le_of_ble_eq_true rfl)) dF_end_6 ⟨Nat.le_of_ble_eq_true rfl, Nat.le_of_ble_eq_true rfl⟩) hI (fun r1 h1 H locs p1 hI => ?_)
  obtain ⟨er1, eh1⟩ := p1
  replace eh1 := eh1.symm; subst eh1
  refine lv_if_ne (tgt := 14) hx hb dF_end_9 (by decide) (fun c2 => ?_) (fun c2 => ?_)
  · have k3 : (fo_in x 0 tsz) = true := um_b1 er1 c2
    refine lv_aload_n hx hb dF_end_14 rfl (lv_at hl 0 rfl) ?_
    refine lv_iload_n hx hb dF_end_15 rfl (lv_at hl 1 rfl) ?_
    refine ur_put (D := D) (ci := 7) (v := .int x) (ty := .int) (C := "UnitRoomModel") (T := TF) (N := 18) hx hb hts inF tyF tyF_ok nmF hown hV hI f0 rfl 16 (by decide) (hts _ mw593) (fun _ h9 => h9) rfl (by decide +kernel) rfl rfl (Nat.le_of_ble_eq_true rfl) dF_end_16 (fun H locs hI => ?_)
    obtain ⟨h4, eh4⟩ : ∃ z : ur_M, z = va_up h q (some (.inr (7, [.ref b1, .ref b2, .ref b3, .long ti, .ref b4, .ref b5, .ref b6, .ref b7, .int ops, .ref b8, .int cds, .ref b9, .ref b10, .ref b11, .ref b12, .ref b13, .int x, .ref b14]))) := ⟨_, rfl⟩
    replace hI : ur_I D vwCl (ur_A h s.heap.size) s.heap h4 H locs := by rw [eh4]; exact hI
    have fq5 : h4 q = some (.inr (7, [.ref b1, .ref b2, .ref b3, .long ti, .ref b4, .ref b5, .ref b6, .ref b7, .int ops, .ref b8, .int cds, .ref b9, .ref b10, .ref b11, .ref b12, .ref b13, .int x, .ref b14])) := by rw [eh4]; exact (va_up_self _ _ _)
    refine lv_iconst (v := 1) hx hb dF_end_19 (by decide) ?_
    exact ur_rz hx hb hr hlocks hI hQ rfl ⟨(by rw [k3]; rfl), (by rw [show fo_endn tsz x = x by unfold fo_endn; rw [if_pos k3], eh4])⟩ dF_end_20
  · have k6 : (fo_in x 0 tsz) = false := um_b0 er1 c2
    refine lv_iconst (v := 0) hx hb dF_end_12 (by decide) ?_
    exact ur_rz hx hb hr hlocks hI hQ rfl ⟨(by rw [k6]; rfl), (by rw [show fo_endn tsz x = tsz by unfold fo_endn; rw [if_neg (by rw [k6]; decide)]]; exact (ur_same f0).symm)⟩ dF_end_13
