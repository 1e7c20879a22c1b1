theorem dS_coder_0 : decode cS_coder 0 = .ok (.getstatic 38, 3) := by decide +kernel
theorem dS_coder_3 : decode cS_coder 3 = .ok (.ifCond .eq 10, 3) := by decide +kernel
theorem dS_coder_6 : decode cS_coder 6 = .ok (.aload_n 0, 1) := by decide +kernel
theorem dS_coder_7 : decode cS_coder 7 = .ok (.getfield 15, 3) := by decide +kernel
theorem dS_coder_10 : decode cS_coder 10 = .ok (.goto 4, 3) := by decide +kernel
theorem dS_coder_13 : decode cS_coder 13 = .ok (.iconst 1, 1) := by decide +kernel
theorem dS_coder_14 : decode cS_coder 14 = .ok (.ireturn, 1) := by decide +kernel
abbrev rmkS_coder : Room := { frames := 0, cells := 0, slots := 0, locals := 0 }
set_option maxHeartbeats 4000000 in
set_option maxRecDepth 100000 in
theorem kS_coder (l : Launch) (D : va_G) (E : ur_Ev) (h : ur_M)    : ur_Mi l yS_coder wsS_coder rmkS_coder D vwCl (ur_v E) [.ref E.2.1] h (fun r h2 => r = 0 ∧ h2 = h) 0 0 := by
  intro sz
  refine ur_of (cc := cS_coder) (maxL := 1) (ret := (some .byte)) (by decide) rfl (Nat.le_of_ble_eq_true rfl) ?_
  intro p e s m args below meth c ls Q hsz hx hb hml hr hlocks hnm hown hts hO hK hI hQ hl
  subst hsz
  have hV := hK.1
  have hts : ∀ w ∈ ur_G, w.before args s = true := fun w hw => hts w (List.mem_cons_of_mem _ hw)
  have hZ : ur_Z E (ur_A h s.heap.size) s s.heap := hO.1
  have hown : s.vm.findClass "java/lang/String" = some m.cls := hown
  have hl : lv_has ls 1 [(0, .ref E.2.1)] := hl
  refine va_gets hx hb hZ.2.2.2.2.1 hI.2.2.1 hown (hts _ mw404) (fun _ h9 => h9) dS_coder_0 ?_
  refine lv_if_eq (tgt := 13) hx hb dS_coder_3 (by decide) (fun c1 => absurd c1 (by decide)) (fun c1 => ?_)
  refine lv_aload_n hx hb dS_coder_6 rfl (lv_at hl 0 rfl) ?_
  refine vk_getf hx hb hZ.2.1 hI.2.2.1 hown (hts _ mw754) (fun _ h9 => h9) dS_coder_7 ?_
  refine lv_goto (tgt := 14) hx hb dS_coder_10 (by decide) ?_
  exact ur_rz hx hb hr hlocks hI hQ rfl ⟨(by first | (simp only [c1, ↓reduceIte]; done) | (simp only [c1, ↓reduceIte]; rfl) | rfl), rfl⟩ dS_coder_14
theorem dS_isLatin1_0 : decode cS_isLatin1 0 = .ok (.getstatic 38, 3) := by decide +kernel
theorem dS_isLatin1_3 : decode cS_isLatin1 3 = .ok (.ifCond .eq 14, 3) := by decide +kernel
theorem dS_isLatin1_6 : decode cS_isLatin1 6 = .ok (.aload_n 0, 1) := by decide +kernel
theorem dS_isLatin1_7 : decode cS_isLatin1 7 = .ok (.getfield 15, 3) := by decide +kernel
theorem dS_isLatin1_10 : decode cS_isLatin1 10 = .ok (.ifCond .ne 7, 3) := by decide +kernel
theorem dS_isLatin1_13 : decode cS_isLatin1 13 = .ok (.iconst 1, 1) := by decide +kernel
theorem dS_isLatin1_14 : decode cS_isLatin1 14 = .ok (.goto 4, 3) := by decide +kernel
theorem dS_isLatin1_17 : decode cS_isLatin1 17 = .ok (.iconst 0, 1) := by decide +kernel
theorem dS_isLatin1_18 : decode cS_isLatin1 18 = .ok (.ireturn, 1) := by decide +kernel
abbrev rmkS_lat : Room := { frames := 0, cells := 0, slots := 0, locals := 0 }
set_option maxHeartbeats 4000000 in
set_option maxRecDepth 100000 in
theorem kS_lat (l : Launch) (D : va_G) (E : ur_Ev) (h : ur_M)    : ur_Mi l yS_isLatin1 wsS_isLatin1 rmkS_lat D vwCl (ur_v E) [.ref E.2.1] h (fun r h2 => r = um_b (true) ∧ h2 = h) 0 0 := by
  intro sz
  refine ur_of (cc := cS_isLatin1) (maxL := 1) (ret := (some .boolean)) (by decide) rfl (Nat.le_of_ble_eq_true rfl) ?_
  intro p e s m args below meth c ls Q hsz hx hb hml hr hlocks hnm hown hts hO hK hI hQ hl
  subst hsz
  have hV := hK.1
  have hts : ∀ w ∈ ur_G, w.before args s = true := fun w hw => hts w (List.mem_cons_of_mem _ hw)
  have hZ : ur_Z E (ur_A h s.heap.size) s s.heap := hO.1
  have hown : s.vm.findClass "java/lang/String" = some m.cls := hown
  have hl : lv_has ls 1 [(0, .ref E.2.1)] := hl
  refine va_gets hx hb hZ.2.2.2.2.1 hI.2.2.1 hown (hts _ mw404) (fun _ h9 => h9) dS_isLatin1_0 ?_
  refine lv_if_eq (tgt := 17) hx hb dS_isLatin1_3 (by decide) (fun c1 => absurd c1 (by decide)) (fun c1 => ?_)
  refine lv_aload_n hx hb dS_isLatin1_6 rfl (lv_at hl 0 rfl) ?_
  refine vk_getf hx hb hZ.2.1 hI.2.2.1 hown (hts _ mw754) (fun _ h9 => h9) dS_isLatin1_7 ?_
  refine lv_if_ne (tgt := 17) hx hb dS_isLatin1_10 (by decide) (fun c2 => absurd c2 (by decide)) (fun c2 => ?_)
  refine lv_iconst (v := 1) hx hb dS_isLatin1_13 (by decide) ?_
  refine lv_goto (tgt := 18) hx hb dS_isLatin1_14 (by decide) ?_
  exact ur_rz hx hb hr hlocks hI hQ rfl ⟨(by first | (simp only [c1, c2, ↓reduceIte]; done) | (simp only [c1, c2, ↓reduceIte]; rfl) | rfl), rfl⟩ dS_isLatin1_18
theorem dS_length_0 : decode cS_length 0 = .ok (.aload_n 0, 1) := by decide +kernel
theorem dS_length_1 : decode cS_length 1 = .ok (.getfield 9, 3) := by decide +kernel
theorem dS_length_4 : decode cS_length 4 = .ok (.arraylength, 1) := by decide +kernel
theorem dS_length_5 : decode cS_length 5 = .ok (.aload_n 0, 1) := by decide +kernel
theorem dS_length_6 : decode cS_length 6 = .ok (.invokevirtual 335, 3) := by decide +kernel
theorem dS_length_9 : decode cS_length 9 = .ok (.ishr, 1) := by decide +kernel
theorem dS_length_10 : decode cS_length 10 = .ok (.ireturn, 1) := by decide +kernel
abbrev rmkS_len : Room := { frames := 1, cells := 0, slots := 0, locals := 20 }
set_option maxHeartbeats 4000000 in
set_option maxRecDepth 100000 in
theorem kS_len (l : Launch) (D : va_G) (E : ur_Ev) (h : ur_M)    : ur_Mi l yS_length wsS_length rmkS_len D vwCl (ur_v E) [.ref E.2.1] h (fun r h2 => r = 56 ∧ h2 = h) 0 0 := by
  intro sz
  refine ur_of (cc := cS_length) (maxL := 1) (ret := (some .int)) (by decide) rfl (Nat.le_of_ble_eq_true rfl) ?_
  intro p e s m args below meth c ls Q hsz hx hb hml hr hlocks hnm hown hts hO hK hI hQ hl
  subst hsz
  have hV := hK.1
  have hts : ∀ w ∈ ur_G, w.before args s = true := fun w hw => hts w (List.mem_cons_of_mem _ hw)
  have hZ : ur_Z E (ur_A h s.heap.size) s s.heap := hO.1
  have hown : s.vm.findClass "java/lang/String" = some m.cls := hown
  have hl : lv_has ls 1 [(0, .ref E.2.1)] := hl
  refine lv_aload_n hx hb dS_length_0 rfl (lv_at hl 0 rfl) ?_
  refine vk_getf hx hb hZ.2.2.1 hI.2.2.1 hown (hts _ mw753) (fun _ h9 => h9) dS_length_1 ?_
  refine va_tlen (v := 56) hx hb hZ.2.2.2.1 hI.2.2.1 rfl dS_length_4 ?_
  refine lv_aload_n hx hb dS_length_5 rfl (lv_at hl 0 rfl) ?_
  refine ur_xi (va_runV (As := []) (rest := [.int 56]) ⟨hx, hb, hml, hown, hts⟩ (kS_coder l D E h s.heap.size) (cwV 0 hts (ur_gV mw400 mw401 mw402 mw13 mw403) rfl rfl rfl (by decide +kernel) ⟨(Nat.le_of_ble_eq_true rfl), (Nat.le_of_ble_eq_true rfl)⟩) ⟨ur_blind, ur_recS hZ hI.2.2.1, ur_pre hI hO hK (fun _ _ q => q)⟩ rfl rfl hl.1 rfl (lv_room (Nat.le_of_ble_eq_true rfl)) dS_length_6 ⟨Nat.le_of_ble_eq_true rfl, Nat.le_of_ble_eq_true rfl⟩) hI (fun r1 h1 H locs p1 hI => ?_)
  obtain ⟨er1, eh1⟩ := p1
  replace eh1 := eh1.symm; subst eh1
  replace er1 := er1.symm; subst er1
  refine lv_ishr hx hb dS_length_9 ?_
  exact ur_ri hx hb hr hlocks hI hQ ⟨um_shr0 56, rfl⟩ dS_length_10
theorem dP_checkIndex_0 : decode cP_checkIndex 0 = .ok (.iload_n 0, 1) := by decide +kernel
theorem dP_checkIndex_1 : decode cP_checkIndex 1 = .ok (.ifCond .lt 8, 3) := by decide +kernel
theorem dP_checkIndex_4 : decode cP_checkIndex 4 = .ok (.iload_n 0, 1) := by decide +kernel
theorem dP_checkIndex_5 : decode cP_checkIndex 5 = .ok (.iload_n 1, 1) := by decide +kernel
theorem dP_checkIndex_6 : decode cP_checkIndex 6 = .ok (.if_icmp .lt 10, 3) := by decide +kernel
theorem dP_checkIndex_9 : decode cP_checkIndex 9 = .ok (.aload_n 2, 1) := by decide +kernel
theorem dP_checkIndex_10 : decode cP_checkIndex 10 = .ok (.iload_n 0, 1) := by decide +kernel
theorem dP_checkIndex_11 : decode cP_checkIndex 11 = .ok (.iload_n 1, 1) := by decide +kernel
theorem dP_checkIndex_12 : decode cP_checkIndex 12 = .ok (.invokestatic 95, 3) := by decide +kernel
theorem dP_checkIndex_15 : decode cP_checkIndex 15 = .ok (.athrow, 1) := by decide +kernel
theorem dP_checkIndex_16 : decode cP_checkIndex 16 = .ok (.iload_n 0, 1) := by decide +kernel
theorem dP_checkIndex_17 : decode cP_checkIndex 17 = .ok (.ireturn, 1) := by decide +kernel
abbrev rmkP_ci : Room := { frames := 0, cells := 0, slots := 0, locals := 0 }
set_option maxHeartbeats 4000000 in
set_option maxRecDepth 100000 in
theorem kP_ci (l : Launch) (D : va_G) (E : ur_Ev) (h : ur_M) (x : Int32) (n : Int32) (o : Option Nat)  (hlo : ¬ x < 0) (hhi : x < n) : ur_Mi l yP_checkIndex wsP_checkIndex rmkP_ci D vwCl (ur_v E) [.int x, .int n, va_rf o] h (fun r h2 => r = x ∧ h2 = h) 0 0 := by
  intro sz
  refine ur_of (cc := cP_checkIndex) (maxL := 3) (ret := (some .int)) (by decide) rfl (by rcases o with _ | _ <;> exact Nat.le_of_ble_eq_true rfl) ?_
  intro p e s m args below meth c ls Q hsz hx hb hml hr hlocks hnm hown hts hO hK hI hQ hl
  subst hsz
  have hV := hK.1
  have hts : ∀ w ∈ ur_G, w.before args s = true := fun w hw => hts w (List.mem_cons_of_mem _ hw)
  have hZ : ur_Z E (ur_A h s.heap.size) s s.heap := hO.1
  have hown : s.vm.findClass "jdk/internal/util/Preconditions" = some m.cls := hown
  have hl : lv_has ls 3 [(0, .int x), (1, .int n), (2, va_rf o)] := hl
  refine lv_iload_n hx hb dP_checkIndex_0 rfl (lv_at hl 0 rfl) ?_
  refine lv_if_lt (tgt := 9) hx hb dP_checkIndex_1 (by decide) (fun c1 => absurd c1 hlo) (fun c1 => ?_)
  refine lv_iload_n hx hb dP_checkIndex_4 rfl (lv_at hl 0 rfl) ?_
  refine lv_iload_n hx hb dP_checkIndex_5 rfl (lv_at hl 1 rfl) ?_
  refine lv_icmp_lt (tgt := 16) hx hb dP_checkIndex_6 (by decide) (fun c2 => ?_) (fun c2 => absurd c2 (not_not_intro hhi))
  refine lv_iload_n hx hb dP_checkIndex_16 rfl (lv_at hl 0 rfl) ?_
  exact ur_ri hx hb hr hlocks hI hQ ⟨(by first | (simp only [c1, c2, ↓reduceIte]; done) | (simp only [c1, c2, ↓reduceIte]; rfl) | rfl), rfl⟩ dP_checkIndex_17
theorem dS_checkIndex_0 : decode cS_checkIndex 0 = .ok (.iload_n 0, 1) := by decide +kernel
theorem dS_checkIndex_1 : decode cS_checkIndex 1 = .ok (.iload_n 1, 1) := by decide +kernel
theorem dS_checkIndex_2 : decode cS_checkIndex 2 = .ok (.getstatic 1053, 3) := by decide +kernel
theorem dS_checkIndex_5 : decode cS_checkIndex 5 = .ok (.invokestatic 1059, 3) := by decide +kernel
theorem dS_checkIndex_8 : decode cS_checkIndex 8 = .ok (.pop, 1) := by decide +kernel
theorem dS_checkIndex_9 : decode cS_checkIndex 9 = .ok (.return_, 1) := by decide +kernel
abbrev rmkS_ci : Room := { frames := 1, cells := 0, slots := 0, locals := 22 }
set_option maxHeartbeats 4000000 in
set_option maxRecDepth 100000 in
theorem kS_ci (l : Launch) (D : va_G) (E : ur_Ev) (h : ur_M) (x : Int32) (n : Int32)  (hlo : ¬ x < 0) (hhi : x < n) : ur_Mv l yS_checkIndex wsS_checkIndex rmkS_ci D vwCl (ur_v E) [.int x, .int n] h (fun h2 => h2 = h) 0 0 := by
  intro sz
  refine ur_of (cc := cS_checkIndex) (maxL := 2) (ret := none) (by decide) rfl (Nat.le_of_ble_eq_true rfl) ?_
  intro p e s m args below meth c ls Q hsz hx hb hml hr hlocks hnm hown hts hO hK hI hQ hl
  subst hsz
  have hV := hK.1
  have hts : ∀ w ∈ ur_G, w.before args s = true := fun w hw => hts w (List.mem_cons_of_mem _ hw)
  have hZ : ur_Z E (ur_A h s.heap.size) s s.heap := hO.1
  have hown : s.vm.findClass "java/lang/String" = some m.cls := hown
  have hl : lv_has ls 2 [(0, .int x), (1, .int n)] := hl
  refine lv_iload_n hx hb dS_checkIndex_0 rfl (lv_at hl 0 rfl) ?_
  refine lv_iload_n hx hb dS_checkIndex_1 rfl (lv_at hl 1 rfl) ?_
  refine va_gets hx hb hZ.2.2.2.2.2 hI.2.2.1 hown (hts _ mw420) (fun _ h9 => h9) dS_checkIndex_2 ?_
  refine ur_xi (va_runS (As := [.int x, .int n, va_rf E.2.2.2]) (rest := []) ⟨hx, hb, hml, hown, hts⟩ (kP_ci l D E h x n E.2.2.2 (by first | assumption | omega | decide) (by first | assumption | omega | decide) s.heap.size) (va_cwS 3 hts (ur_gT mw422 mw423 mw15 mw424) rfl rfl rfl (by decide +kernel) ⟨(Nat.le_of_ble_eq_true rfl), (Nat.le_of_ble_eq_true rfl)⟩) ⟨ur_blind, ur_pre hI hO hK (fun _ _ q => q)⟩ rfl rfl hl.1 rfl (lv_room (Nat.le_of_ble_eq_true rfl)) dS_checkIndex_5 ⟨Nat.le_of_ble_eq_true rfl, Nat.le_of_ble_eq_true rfl⟩) hI (fun r1 h1 H locs p1 hI => ?_)
  obtain ⟨er1, eh1⟩ := p1
  replace eh1 := eh1.symm; subst eh1
  replace er1 := er1.symm; subst er1
  refine lv_pop hx hb dS_checkIndex_8 rfl ?_
  exact ur_rv hx hb hr hlocks hI hQ rfl dS_checkIndex_9
theorem dZ_charAt_0 : decode cZ_charAt 0 = .ok (.iload_n 1, 1) := by decide +kernel
theorem dZ_charAt_1 : decode cZ_charAt 1 = .ok (.aload_n 0, 1) := by decide +kernel
theorem dZ_charAt_2 : decode cZ_charAt 2 = .ok (.arraylength, 1) := by decide +kernel
theorem dZ_charAt_3 : decode cZ_charAt 3 = .ok (.invokestatic 9, 3) := by decide +kernel
theorem dZ_charAt_6 : decode cZ_charAt 6 = .ok (.aload_n 0, 1) := by decide +kernel
theorem dZ_charAt_7 : decode cZ_charAt 7 = .ok (.iload_n 1, 1) := by decide +kernel
theorem dZ_charAt_8 : decode cZ_charAt 8 = .ok (.baload, 1) := by decide +kernel
theorem dZ_charAt_9 : decode cZ_charAt 9 = .ok (.sipush 255, 3) := by decide +kernel
theorem dZ_charAt_12 : decode cZ_charAt 12 = .ok (.iand, 1) := by decide +kernel
theorem dZ_charAt_13 : decode cZ_charAt 13 = .ok (.i2c, 1) := by decide +kernel
theorem dZ_charAt_14 : decode cZ_charAt 14 = .ok (.ireturn, 1) := by decide +kernel
abbrev rmkZ_at : Room := { frames := 2, cells := 0, slots := 0, locals := 43 }
set_option maxHeartbeats 4000000 in
set_option maxRecDepth 100000 in
theorem kZ_at (l : Launch) (D : va_G) (E : ur_Ev) (h : ur_M) (x : Int32)  (hlo : ¬ x < 0) (hhi : x < 56) : ur_Mi l yZ_charAt wsZ_charAt rmkZ_at D vwCl (ur_v E) [.ref E.2.2.1, .int x] h (fun r h2 => r = um_let.getD x.toNatClampNeg 0 ∧ h2 = h) 0 0 := by
  intro sz
  refine ur_of (cc := cZ_charAt) (maxL := 2) (ret := (some .char)) (by decide) rfl (Nat.le_of_ble_eq_true rfl) ?_
  intro p e s m args below meth c ls Q hsz hx hb hml hr hlocks hnm hown hts hO hK hI hQ hl
  subst hsz
  have hV := hK.1
  have hts : ∀ w ∈ ur_G, w.before args s = true := fun w hw => hts w (List.mem_cons_of_mem _ hw)
  have hZ : ur_Z E (ur_A h s.heap.size) s s.heap := hO.1
  have hown : s.vm.findClass "java/lang/StringLatin1" = some m.cls := hown
  have hl : lv_has ls 2 [(0, .ref E.2.2.1), (1, .int x)] := hl
  refine lv_iload_n hx hb dZ_charAt_0 rfl (lv_at hl 1 rfl) ?_
  refine lv_aload_n hx hb dZ_charAt_1 rfl (lv_at hl 0 rfl) ?_
  refine va_tlen (v := 56) hx hb hZ.2.2.2.1 hI.2.2.1 rfl dZ_charAt_2 ?_
  refine ur_xv (va_runS (As := [.int x, .int 56]) (rest := []) ⟨hx, hb, hml, hown, hts⟩ (kS_ci l D E h x 56 (by first | assumption | omega | decide) (by first | assumption | omega | decide) s.heap.size) (va_cwS 2 hts (ur_gT mw417 mw418 mw13 mw419) rfl rfl rfl (by decide +kernel) ⟨(Nat.le_of_ble_eq_true rfl), (Nat.le_of_ble_eq_true rfl)⟩) ⟨ur_blind, ur_pre hI hO hK (fun _ _ q => q)⟩ rfl rfl hl.1 rfl (lv_room (Nat.le_of_ble_eq_true rfl)) dZ_charAt_3 ⟨Nat.le_of_ble_eq_true rfl, Nat.le_of_ble_eq_true rfl⟩) hI (fun h1 H locs p1 hI => ?_)
  have eh1 := p1
  replace eh1 := eh1.symm; subst eh1
  refine lv_aload_n hx hb dZ_charAt_6 rfl (lv_at hl 0 rfl) ?_
  refine lv_iload_n hx hb dZ_charAt_7 rfl (lv_at hl 1 rfl) ?_
  refine va_tb (v := .int (um_let.getD x.toNatClampNeg 0)) hx hb hZ.2.2.2.1 hI.2.2.1 (um_in hlo hhi (by decide)) rfl dZ_charAt_8 ?_
  refine lv_sipush (v := 255) hx hb dZ_charAt_9 (by decide) ?_
  refine lv_iand hx hb dZ_charAt_12 ?_
  refine lv_i2c hx hb dZ_charAt_13 rfl ?_
  exact ur_rz hx hb hr hlocks hI hQ (by rw [(um_ch hlo hhi).1]; exact (um_ch hlo hhi).2) ⟨(um_ch hlo hhi).1, rfl⟩ dZ_charAt_14
theorem dS_charAt_0 : decode cS_charAt 0 = .ok (.aload_n 0, 1) := by decide +kernel
theorem dS_charAt_1 : decode cS_charAt 1 = .ok (.invokevirtual 492, 3) := by decide +kernel
theorem dS_charAt_4 : decode cS_charAt 4 = .ok (.ifCond .eq 12, 3) := by decide +kernel
theorem dS_charAt_7 : decode cS_charAt 7 = .ok (.aload_n 0, 1) := by decide +kernel
theorem dS_charAt_8 : decode cS_charAt 8 = .ok (.getfield 9, 3) := by decide +kernel
theorem dS_charAt_11 : decode cS_charAt 11 = .ok (.iload_n 1, 1) := by decide +kernel
theorem dS_charAt_12 : decode cS_charAt 12 = .ok (.invokestatic 495, 3) := by decide +kernel
theorem dS_charAt_15 : decode cS_charAt 15 = .ok (.ireturn, 1) := by decide +kernel
theorem dS_charAt_16 : decode cS_charAt 16 = .ok (.aload_n 0, 1) := by decide +kernel
theorem dS_charAt_17 : decode cS_charAt 17 = .ok (.getfield 9, 3) := by decide +kernel
theorem dS_charAt_20 : decode cS_charAt 20 = .ok (.iload_n 1, 1) := by decide +kernel
theorem dS_charAt_21 : decode cS_charAt 21 = .ok (.invokestatic 498, 3) := by decide +kernel
theorem dS_charAt_24 : decode cS_charAt 24 = .ok (.ireturn, 1) := by decide +kernel
abbrev rmkS_at : Room := { frames := 3, cells := 0, slots := 0, locals := 64 }
set_option maxHeartbeats 4000000 in
set_option maxRecDepth 100000 in
theorem kS_at (l : Launch) (D : va_G) (E : ur_Ev) (h : ur_M) (x : Int32)  (hlo : ¬ x < 0) (hhi : x < 56) : ur_Mi l yS_charAt wsS_charAt rmkS_at D vwCl (ur_v E) [.ref E.2.1, .int x] h (fun r h2 => r = um_let.getD x.toNatClampNeg 0 ∧ h2 = h) 0 0 := by
  intro sz
  refine ur_of (cc := cS_charAt) (maxL := 2) (ret := (some .char)) (by decide) rfl (Nat.le_of_ble_eq_true rfl) ?_
  intro p e s m args below meth c ls Q hsz hx hb hml hr hlocks hnm hown hts hO hK hI hQ hl
  subst hsz
  have hV := hK.1
  have hts : ∀ w ∈ ur_G, w.before args s = true := fun w hw => hts w (List.mem_cons_of_mem _ hw)
  have hZ : ur_Z E (ur_A h s.heap.size) s s.heap := hO.1
  have hown : s.vm.findClass "java/lang/String" = some m.cls := hown
  have hl : lv_has ls 2 [(0, .ref E.2.1), (1, .int x)] := hl
  refine lv_aload_n hx hb dS_charAt_0 rfl (lv_at hl 0 rfl) ?_
  refine ur_xi (va_runV (As := []) (rest := []) ⟨hx, hb, hml, hown, hts⟩ (kS_lat l D E h s.heap.size) (cwV 0 hts (ur_gV mw410 mw411 mw412 mw13 mw413) rfl rfl rfl (by decide +kernel) ⟨(Nat.le_of_ble_eq_true rfl), (Nat.le_of_ble_eq_true rfl)⟩) ⟨ur_blind, ur_recS hZ hI.2.2.1, ur_pre hI hO hK (fun _ _ q => q)⟩ rfl rfl hl.1 rfl (lv_room (Nat.le_of_ble_eq_true rfl)) dS_charAt_1 ⟨Nat.le_of_ble_eq_true rfl, Nat.le_of_ble_eq_true rfl⟩) hI (fun r1 h1 H locs p1 hI => ?_)
  obtain ⟨er1, eh1⟩ := p1
  replace eh1 := eh1.symm; subst eh1
  refine lv_if_eq (tgt := 16) hx hb dS_charAt_4 (by decide) (fun c2 => absurd c2 (by rw [er1]; decide)) (fun c2 => ?_)
  refine lv_aload_n hx hb dS_charAt_7 rfl (lv_at hl 0 rfl) ?_
  refine vk_getf hx hb hZ.2.2.1 hI.2.2.1 hown (hts _ mw753) (fun _ h9 => h9) dS_charAt_8 ?_
  refine lv_iload_n hx hb dS_charAt_11 rfl (lv_at hl 1 rfl) ?_
  refine ur_xi (va_runS (As := [.ref E.2.2.1, .int x]) (rest := []) ⟨hx, hb, hml, hown, hts⟩ (kZ_at l D E h x (by first | assumption | omega | decide) (by first | assumption | omega | decide) H.size) (va_cwS 2 hts (ur_gT mw414 mw415 mw14 mw416) rfl rfl rfl (by decide +kernel) ⟨(Nat.le_of_ble_eq_true rfl), (Nat.le_of_ble_eq_true rfl)⟩) ⟨ur_blind, ur_pre hI hO hK (fun _ _ q => q)⟩ rfl rfl hl.1 rfl (lv_room (Nat.le_of_ble_eq_true rfl)) dS_charAt_12 ⟨Nat.le_of_ble_eq_true rfl, Nat.le_of_ble_eq_true rfl⟩) hI (fun r3 h3 H locs p3 hI => ?_)
  obtain ⟨er3, eh3⟩ := p3
  replace eh3 := eh3.symm; subst eh3
  replace er3 := er3.symm; subst er3
  exact ur_rz hx hb hr hlocks hI hQ (um_ch hlo hhi).2 ⟨(by first | (simp only [c2, ↓reduceIte]; done) | (simp only [c2, ↓reduceIte]; rfl) | rfl), rfl⟩ dS_charAt_15
theorem dU_letterOf_0 : decode cU_letterOf 0 = .ok (.iload_n 0, 1) := by decide +kernel
theorem dU_letterOf_1 : decode cU_letterOf 1 = .ok (.ifCond .lt 12, 3) := by decide +kernel
theorem dU_letterOf_4 : decode cU_letterOf 4 = .ok (.iload_n 0, 1) := by decide +kernel
theorem dU_letterOf_5 : decode cU_letterOf 5 = .ok (.ldc 159, 2) := by decide +kernel
theorem dU_letterOf_7 : decode cU_letterOf 7 = .ok (.invokevirtual 161, 3) := by decide +kernel
theorem dU_letterOf_10 : decode cU_letterOf 10 = .ok (.if_icmp .lt 8, 3) := by decide +kernel
theorem dU_letterOf_13 : decode cU_letterOf 13 = .ok (.bipush 63, 2) := by decide +kernel
theorem dU_letterOf_15 : decode cU_letterOf 15 = .ok (.goto 9, 3) := by decide +kernel
theorem dU_letterOf_18 : decode cU_letterOf 18 = .ok (.ldc 159, 2) := by decide +kernel
theorem dU_letterOf_20 : decode cU_letterOf 20 = .ok (.iload_n 0, 1) := by decide +kernel
theorem dU_letterOf_21 : decode cU_letterOf 21 = .ok (.invokevirtual 166, 3) := by decide +kernel
theorem dU_letterOf_24 : decode cU_letterOf 24 = .ok (.ireturn, 1) := by decide +kernel
abbrev rmkU_letterOf : Room := { frames := 4, cells := 0, slots := 0, locals := 85 }
set_option maxHeartbeats 4000000 in
set_option maxRecDepth 100000 in
theorem kU_letterOf (l : Launch) (D : va_G) (E : ur_Ev) (h : ur_M) (x : Int32)   : ur_Mi l yU_letterOf wsU_letterOf rmkU_letterOf D vwCl (ur_v E) [.int x] h (fun r h2 => r = um_letter x ∧ h2 = h) 0 0 := by
  intro sz
  refine ur_of (cc := cU_letterOf) (maxL := 1) (ret := (some .char)) (by decide) rfl (Nat.le_of_ble_eq_true rfl) ?_
  intro p e s m args below meth c ls Q hsz hx hb hml hr hlocks hnm hown hts hO hK hI hQ hl
  subst hsz
  have hV := hK.1
  have hts : ∀ w ∈ ur_G, w.before args s = true := fun w hw => hts w (List.mem_cons_of_mem _ hw)
  have hZ : ur_Z E (ur_A h s.heap.size) s s.heap := hO.1
  have hown : s.vm.findClass "UnitRoom" = some m.cls := hown
  have hl : lv_has ls 1 [(0, .int x)] := hl
  refine lv_iload_n hx hb dU_letterOf_0 rfl (lv_at hl 0 rfl) ?_
  refine lv_if_lt (tgt := 13) hx hb dU_letterOf_1 (by decide) (fun c1 => ?_) (fun c1 => ?_)
  · refine lv_bipush (v := 63) hx hb dU_letterOf_13 (by decide) ?_
    refine lv_goto (tgt := 24) hx hb dU_letterOf_15 (by decide) ?_
    exact ur_rz hx hb hr hlocks hI hQ rfl ⟨(by first | (simp only [um_letter, c1, ↓reduceIte]; done) | (simp only [um_letter, c1, ↓reduceIte]; rfl) | rfl), rfl⟩ dU_letterOf_24
  · refine lv_iload_n hx hb dU_letterOf_4 rfl (lv_at hl 0 rfl) ?_
    refine va_ldcS hx hb hown hK.2.1.2.2.2.2.2.2.2.2 dU_letterOf_5 ?_
    refine ur_xi (va_runV (As := []) (rest := [.int x]) ⟨hx, hb, hml, hown, hts⟩ (kS_len l D E h s.heap.size) (cwV 0 hts (ur_gV mw396 mw397 mw398 mw13 mw399) rfl rfl rfl (by decide +kernel) ⟨(Nat.le_of_ble_eq_true rfl), (Nat.le_of_ble_eq_true rfl)⟩) ⟨ur_blind, ur_recS hZ hI.2.2.1, ur_pre hI hO hK (fun _ _ q => q)⟩ rfl rfl hl.1 rfl (lv_room (Nat.le_of_ble_eq_true rfl)) dU_letterOf_7 ⟨Nat.le_of_ble_eq_true rfl, Nat.le_of_ble_eq_true rfl⟩) hI (fun r2 h2 H locs p2 hI => ?_)
    obtain ⟨er2, eh2⟩ := p2
    replace eh2 := eh2.symm; subst eh2
    replace er2 := er2.symm; subst er2
    refine lv_icmp_lt (tgt := 18) hx hb dU_letterOf_10 (by decide) (fun c3 => ?_) (fun c3 => ?_)
    · refine va_ldcS hx hb hown hK.2.1.2.2.2.2.2.2.2.2 dU_letterOf_18 ?_
      refine lv_iload_n hx hb dU_letterOf_20 rfl (lv_at hl 0 rfl) ?_
      refine ur_xi (va_runV (As := [.int x]) (rest := []) ⟨hx, hb, hml, hown, hts⟩ (kS_at l D E h x (by first | assumption | omega | decide) (by first | assumption | omega | decide) H.size) (cwV 1 hts (ur_gV mw406 mw407 mw408 mw13 mw409) rfl rfl rfl (by decide +kernel) ⟨(Nat.le_of_ble_eq_true rfl), (Nat.le_of_ble_eq_true rfl)⟩) ⟨ur_blind, ur_recS hZ hI.2.2.1, ur_pre hI hO hK (fun _ _ q => q)⟩ rfl rfl hl.1 rfl (lv_room (Nat.le_of_ble_eq_true rfl)) dU_letterOf_21 ⟨Nat.le_of_ble_eq_true rfl, Nat.le_of_ble_eq_true rfl⟩) hI (fun r4 h4 H locs p4 hI => ?_)
      obtain ⟨er4, eh4⟩ := p4
      replace eh4 := eh4.symm; subst eh4
      replace er4 := er4.symm; subst er4
      exact ur_rz hx hb hr hlocks hI hQ (um_ch (by assumption) (by assumption)).2 ⟨(by first | (simp only [um_letter, c1, c3, ↓reduceIte]; done) | (simp only [um_letter, c1, c3, ↓reduceIte]; rfl) | rfl), rfl⟩ dU_letterOf_24
    · refine lv_bipush (v := 63) hx hb dU_letterOf_13 (by decide) ?_
      refine lv_goto (tgt := 24) hx hb dU_letterOf_15 (by decide) ?_
      exact ur_rz hx hb hr hlocks hI hQ rfl ⟨(by first | (simp only [um_letter, c1, c3, ↓reduceIte]; done) | (simp only [um_letter, c1, c3, ↓reduceIte]; rfl) | rfl), rfl⟩ dU_letterOf_24
theorem dZ_canEncode_0 : decode cZ_canEncode 0 = .ok (.iload_n 0, 1) := by decide +kernel
theorem dZ_canEncode_1 : decode cZ_canEncode 1 = .ok (.ifCond .lt 14, 3) := by decide +kernel
theorem dZ_canEncode_4 : decode cZ_canEncode 4 = .ok (.iload_n 0, 1) := by decide +kernel
theorem dZ_canEncode_5 : decode cZ_canEncode 5 = .ok (.sipush 255, 3) := by decide +kernel
theorem dZ_canEncode_8 : decode cZ_canEncode 8 = .ok (.if_icmp .gt 7, 3) := by decide +kernel
theorem dZ_canEncode_11 : decode cZ_canEncode 11 = .ok (.iconst 1, 1) := by decide +kernel
theorem dZ_canEncode_12 : decode cZ_canEncode 12 = .ok (.goto 4, 3) := by decide +kernel
theorem dZ_canEncode_15 : decode cZ_canEncode 15 = .ok (.iconst 0, 1) := by decide +kernel
theorem dZ_canEncode_16 : decode cZ_canEncode 16 = .ok (.ireturn, 1) := by decide +kernel
abbrev rmkZ_enc : Room := { frames := 0, cells := 0, slots := 0, locals := 0 }
set_option maxHeartbeats 4000000 in
set_option maxRecDepth 100000 in
theorem kZ_enc (l : Launch) (D : va_G) (E : ur_Ev) (h : ur_M) (x : Int32)   : ur_Mi l yZ_canEncode wsZ_canEncode rmkZ_enc D vwCl (ur_v E) [.int x] h (fun r h2 => r = um_b (um_enc x) ∧ h2 = h) 0 0 := by
  intro sz
  refine ur_of (cc := cZ_canEncode) (maxL := 1) (ret := (some .boolean)) (by decide) rfl (Nat.le_of_ble_eq_true rfl) ?_
  intro p e s m args below meth c ls Q hsz hx hb hml hr hlocks hnm hown hts hO hK hI hQ hl
  subst hsz
  have hV := hK.1
  have hts : ∀ w ∈ ur_G, w.before args s = true := fun w hw => hts w (List.mem_cons_of_mem _ hw)
  have hZ : ur_Z E (ur_A h s.heap.size) s s.heap := hO.1
  have hown : s.vm.findClass "java/lang/StringLatin1" = some m.cls := hown
  have hl : lv_has ls 1 [(0, .int x)] := hl
  refine lv_iload_n hx hb dZ_canEncode_0 rfl (lv_at hl 0 rfl) ?_
  refine lv_if_lt (tgt := 15) hx hb dZ_canEncode_1 (by decide) (fun c1 => ?_) (fun c1 => ?_)
  · refine lv_iconst (v := 0) hx hb dZ_canEncode_15 (by decide) ?_
    exact ur_rz hx hb hr hlocks hI hQ rfl ⟨(by first | (simp only [um_enc, c1, ↓reduceIte]; done) | (simp only [um_enc, c1, ↓reduceIte]; rfl) | rfl), rfl⟩ dZ_canEncode_16
  · refine lv_iload_n hx hb dZ_canEncode_4 rfl (lv_at hl 0 rfl) ?_
    refine lv_sipush (v := 255) hx hb dZ_canEncode_5 (by decide) ?_
    refine lv_icmp_gt (tgt := 15) hx hb dZ_canEncode_8 (by decide) (fun c2 => ?_) (fun c2 => ?_)
    · refine lv_iconst (v := 0) hx hb dZ_canEncode_15 (by decide) ?_
      exact ur_rz hx hb hr hlocks hI hQ rfl ⟨(by first | (simp only [um_enc, c1, c2, ↓reduceIte]; done) | (simp only [um_enc, c1, c2, ↓reduceIte]; rfl) | rfl), rfl⟩ dZ_canEncode_16
    · refine lv_iconst (v := 1) hx hb dZ_canEncode_11 (by decide) ?_
      refine lv_goto (tgt := 16) hx hb dZ_canEncode_12 (by decide) ?_
      exact ur_rz hx hb hr hlocks hI hQ rfl ⟨(by first | (simp only [um_enc, c1, c2, ↓reduceIte]; done) | (simp only [um_enc, c1, c2, ↓reduceIte]; rfl) | rfl), rfl⟩ dZ_canEncode_16
theorem dZ_indexOfChar_0 : decode cZ_indexOfChar 0 = .ok (.iload_n 1, 1) := by decide +kernel
theorem dZ_indexOfChar_1 : decode cZ_indexOfChar 1 = .ok (.i2b, 1) := by decide +kernel
theorem dZ_indexOfChar_2 : decode cZ_indexOfChar 2 = .ok (.istore 4, 2) := by decide +kernel
theorem dZ_indexOfChar_4 : decode cZ_indexOfChar 4 = .ok (.iload_n 2, 1) := by decide +kernel
theorem dZ_indexOfChar_5 : decode cZ_indexOfChar 5 = .ok (.istore 5, 2) := by decide +kernel
theorem dZ_indexOfChar_7 : decode cZ_indexOfChar 7 = .ok (.iload 5, 2) := by decide +kernel
theorem dZ_indexOfChar_9 : decode cZ_indexOfChar 9 = .ok (.iload_n 3, 1) := by decide +kernel
theorem dZ_indexOfChar_10 : decode cZ_indexOfChar 10 = .ok (.if_icmp .ge 21, 3) := by decide +kernel
theorem dZ_indexOfChar_13 : decode cZ_indexOfChar 13 = .ok (.aload_n 0, 1) := by decide +kernel
theorem dZ_indexOfChar_14 : decode cZ_indexOfChar 14 = .ok (.iload 5, 2) := by decide +kernel
theorem dZ_indexOfChar_16 : decode cZ_indexOfChar 16 = .ok (.baload, 1) := by decide +kernel
theorem dZ_indexOfChar_17 : decode cZ_indexOfChar 17 = .ok (.iload 4, 2) := by decide +kernel
theorem dZ_indexOfChar_19 : decode cZ_indexOfChar 19 = .ok (.if_icmp .ne 6, 3) := by decide +kernel
theorem dZ_indexOfChar_22 : decode cZ_indexOfChar 22 = .ok (.iload 5, 2) := by decide +kernel
theorem dZ_indexOfChar_24 : decode cZ_indexOfChar 24 = .ok (.ireturn, 1) := by decide +kernel
theorem dZ_indexOfChar_25 : decode cZ_indexOfChar 25 = .ok (.iinc 5 1, 3) := by decide +kernel
theorem dZ_indexOfChar_28 : decode cZ_indexOfChar 28 = .ok (.goto (-21), 3) := by decide +kernel
theorem dZ_indexOfChar_31 : decode cZ_indexOfChar 31 = .ok (.iconst (-1), 1) := by decide +kernel
theorem dZ_indexOfChar_32 : decode cZ_indexOfChar 32 = .ok (.ireturn, 1) := by decide +kernel
abbrev rmkZ_ioc : Room := { frames := 0, cells := 0, slots := 0, locals := 0 }
set_option maxHeartbeats 4000000 in
set_option maxRecDepth 100000 in
theorem kZ_ioc (l : Launch) (D : va_G) (E : ur_Ev) (h : ur_M) (x : Int32)  (hk : um_enc x = true) : ur_Mi l yZ_indexOfChar wsZ_indexOfChar rmkZ_ioc D vwCl (ur_v E) [.ref E.2.2.1, .int x, .int 0, .int 56] h (fun r h2 => r = um_find x 56 0 ∧ h2 = h) 0 0 := by
  intro sz
  refine ur_of (cc := cZ_indexOfChar) (maxL := 6) (ret := (some .int)) (by decide) rfl (Nat.le_of_ble_eq_true rfl) ?_
  intro p e s m args below meth c ls Q hsz hx hb hml hr hlocks hnm hown hts hO hK hI hQ hl
  subst hsz
  have hV := hK.1
  have hts : ∀ w ∈ ur_G, w.before args s = true := fun w hw => hts w (List.mem_cons_of_mem _ hw)
  have hZ : ur_Z E (ur_A h s.heap.size) s s.heap := hO.1
  have hown : s.vm.findClass "java/lang/StringLatin1" = some m.cls := hown
  have hl : lv_has ls 6 [(0, .ref E.2.2.1), (1, .int x), (2, .int 0), (3, .int 56)] := hl
  refine lv_iload_n hx hb dZ_indexOfChar_0 rfl (lv_at hl 1 rfl) ?_
  refine lv_i2b hx hb dZ_indexOfChar_1 rfl ?_
  refine lv_istore (lv' := [(4, .int (x.toInt8.toInt32)), (0, .ref E.2.2.1), (1, .int x), (2, .int 0), (3, .int 56)]) hx hb dZ_indexOfChar_2 hl (by decide) rfl (fun ls hl => ?_)
  refine lv_iload_n hx hb dZ_indexOfChar_4 rfl (lv_at hl 3 rfl) ?_
  refine lv_istore (lv' := [(5, .int 0), (4, .int (x.toInt8.toInt32)), (0, .ref E.2.2.1), (1, .int x), (2, .int 0), (3, .int 56)]) hx hb dZ_indexOfChar_5 hl (by decide) rfl (fun ls hl => ?_)
  have lpn1 : ∀ (n1 : Nat) (i : Nat) (H : Heap) (locs : List Loc) (ls : Array Slot), 56 - i < n1 → (i ≤ 56) → (um_find x 56 0 = um_find x (56 - i) i) → ur_I D vwCl (ur_A h s.heap.size) s.heap h H locs → lv_has ls 6 [(0, .ref E.2.2.1), (1, .int x), (3, .int 56), (4, .int (x.toInt8.toInt32)), (5, .int (nI i))] → W p l e rmkZ_ioc s m args below meth c H locs 0 0 Q (F0 m 7 ls []) := by
    intro n1
    induction n1 with
    | zero => intro i H locs ls hnn1; exact absurd hnn1 (Nat.not_lt_zero _)
    | succ n1 ihn1 =>
      intro i H locs ls hnn1 hi hf hI hl
      refine lv_iload hx hb dZ_indexOfChar_7 (lv_at hl 4 rfl) ?_
      refine lv_iload_n hx hb dZ_indexOfChar_9 rfl (lv_at hl 2 rfl) ?_
      refine lv_icmp_ge (tgt := 31) hx hb dZ_indexOfChar_10 (by decide) (fun c2 => ?_) (fun c2 => ?_)
      · refine lv_iconst (v := (-1)) hx hb dZ_indexOfChar_31 (by decide) ?_
        exact ur_ri hx hb hr hlocks hI hQ ⟨(by rw [hf, show i = 56 from Nat.le_antisymm hi (Nat.not_lt.mp (fun z9 => nI_ge z9 (by decide) c2))]; rfl), rfl⟩ dZ_indexOfChar_32
      · have hlt : i < 56 := Nat.not_le.mp (fun z9 => c2 (nI_le z9 (by omega)))
        refine lv_aload_n hx hb dZ_indexOfChar_13 rfl (lv_at hl 0 rfl) ?_
        refine lv_iload hx hb dZ_indexOfChar_14 (lv_at hl 4 rfl) ?_
        refine va_tb (v := .int (um_let.getD (Int32.toNatClampNeg (nI i)) 0)) hx hb hZ.2.2.2.1 hI.2.2.1 (vp_in_nI hlt (by decide)) rfl dZ_indexOfChar_16 ?_
        refine lv_iload hx hb dZ_indexOfChar_17 (lv_at hl 3 rfl) ?_
        refine lv_icmp_ne (tgt := 25) hx hb dZ_indexOfChar_19 (by decide) (fun c3 => ?_) (fun c3 => ?_)
        · refine lv_iinc (v := ((nI i) + 1)) (lv' := [(5, .int ((nI i) + 1)), (0, .ref E.2.2.1), (1, .int x), (3, .int 56), (4, .int (x.toInt8.toInt32))]) hx hb dZ_indexOfChar_25 hl (k := 4) rfl rfl (by decide) rfl (fun ls hl => ?_)
          refine lv_goto (tgt := 7) hx hb dZ_indexOfChar_28 (by decide) ?_
          rw [nI_clamp (by omega)] at c3
          rw [nI_1] at hl
          exact ihn1 (i + 1) H locs ls (by omega) hlt (by rw [hf, show 56 - i = (56 - (i + 1)) + 1 by omega, um_find, if_neg (fun z9 => c3 ((um_fb hk hlt).mpr z9))]) hI (lv_sub hl [1, 2, 3, 4, 0] rfl)
        · refine lv_iload hx hb dZ_indexOfChar_22 (lv_at hl 4 rfl) ?_
          exact ur_ri hx hb hr hlocks hI hQ ⟨(by rw [hf, show 56 - i = (56 - (i + 1)) + 1 by omega, um_find, if_pos ((um_fb hk hlt).mp (by rw [nI_clamp (by omega)] at c3; exact c3))]), rfl⟩ dZ_indexOfChar_24
  exact lpn1 _ 0 _ _ ls (Nat.lt_succ_self _) (by decide) rfl hI (lv_sub hl [2, 3, 5, 1, 0] rfl)
theorem dZ_indexOf_0 : decode cZ_indexOf 0 = .ok (.iload_n 1, 1) := by decide +kernel
theorem dZ_indexOf_1 : decode cZ_indexOf 1 = .ok (.invokestatic 88, 3) := by decide +kernel
theorem dZ_indexOf_4 : decode cZ_indexOf 4 = .ok (.ifCond .ne 5, 3) := by decide +kernel
theorem dZ_indexOf_7 : decode cZ_indexOf 7 = .ok (.iconst (-1), 1) := by decide +kernel
theorem dZ_indexOf_8 : decode cZ_indexOf 8 = .ok (.ireturn, 1) := by decide +kernel
theorem dZ_indexOf_9 : decode cZ_indexOf 9 = .ok (.iload_n 2, 1) := by decide +kernel
theorem dZ_indexOf_10 : decode cZ_indexOf 10 = .ok (.iconst 0, 1) := by decide +kernel
theorem dZ_indexOf_11 : decode cZ_indexOf 11 = .ok (.invokestatic 92, 3) := by decide +kernel
theorem dZ_indexOf_14 : decode cZ_indexOf 14 = .ok (.istore_n 2, 1) := by decide +kernel
theorem dZ_indexOf_15 : decode cZ_indexOf 15 = .ok (.iload_n 3, 1) := by decide +kernel
theorem dZ_indexOf_16 : decode cZ_indexOf 16 = .ok (.aload_n 0, 1) := by decide +kernel
theorem dZ_indexOf_17 : decode cZ_indexOf 17 = .ok (.arraylength, 1) := by decide +kernel
theorem dZ_indexOf_18 : decode cZ_indexOf 18 = .ok (.invokestatic 38, 3) := by decide +kernel
theorem dZ_indexOf_21 : decode cZ_indexOf 21 = .ok (.istore_n 3, 1) := by decide +kernel
theorem dZ_indexOf_22 : decode cZ_indexOf 22 = .ok (.iload_n 2, 1) := by decide +kernel
theorem dZ_indexOf_23 : decode cZ_indexOf 23 = .ok (.iload_n 3, 1) := by decide +kernel
theorem dZ_indexOf_24 : decode cZ_indexOf 24 = .ok (.if_icmp .lt 5, 3) := by decide +kernel
theorem dZ_indexOf_27 : decode cZ_indexOf 27 = .ok (.iconst (-1), 1) := by decide +kernel
theorem dZ_indexOf_28 : decode cZ_indexOf 28 = .ok (.ireturn, 1) := by decide +kernel
theorem dZ_indexOf_29 : decode cZ_indexOf 29 = .ok (.aload_n 0, 1) := by decide +kernel
theorem dZ_indexOf_30 : decode cZ_indexOf 30 = .ok (.iload_n 1, 1) := by decide +kernel
theorem dZ_indexOf_31 : decode cZ_indexOf 31 = .ok (.iload_n 2, 1) := by decide +kernel
theorem dZ_indexOf_32 : decode cZ_indexOf 32 = .ok (.iload_n 3, 1) := by decide +kernel
theorem dZ_indexOf_33 : decode cZ_indexOf 33 = .ok (.invokestatic 95, 3) := by decide +kernel
theorem dZ_indexOf_36 : decode cZ_indexOf 36 = .ok (.ireturn, 1) := by decide +kernel
abbrev rmkZ_io : Room := { frames := 1, cells := 0, slots := 0, locals := 25 }
set_option maxHeartbeats 4000000 in
set_option maxRecDepth 100000 in
theorem kZ_io (l : Launch) (D : va_G) (E : ur_Ev) (h : ur_M) (x : Int32)   : ur_Mi l yZ_indexOf wsZ_indexOf rmkZ_io D vwCl (ur_v E) [.ref E.2.2.1, .int x, .int 0, .int 56] h (fun r h2 => r = um_find x 56 0 ∧ h2 = h) 0 0 := by
  intro sz
  refine ur_of (cc := cZ_indexOf) (maxL := 4) (ret := (some .int)) (by decide) rfl (Nat.le_of_ble_eq_true rfl) ?_
  intro p e s m args below meth c ls Q hsz hx hb hml hr hlocks hnm hown hts hO hK hI hQ hl
  subst hsz
  have hV := hK.1
  have hts : ∀ w ∈ ur_G, w.before args s = true := fun w hw => hts w (List.mem_cons_of_mem _ hw)
  have hZ : ur_Z E (ur_A h s.heap.size) s s.heap := hO.1
  have hown : s.vm.findClass "java/lang/StringLatin1" = some m.cls := hown
  have hl : lv_has ls 4 [(0, .ref E.2.2.1), (1, .int x), (2, .int 0), (3, .int 56)] := hl
  refine lv_iload_n hx hb dZ_indexOf_0 rfl (lv_at hl 1 rfl) ?_
  refine ur_xi (va_runS (As := [.int x]) (rest := []) ⟨hx, hb, hml, hown, hts⟩ (kZ_enc l D E h x s.heap.size) (va_cwS 1 hts (ur_gT mw490 mw491 mw14 mw492) rfl rfl rfl (by decide +kernel) ⟨(Nat.le_of_ble_eq_true rfl), (Nat.le_of_ble_eq_true rfl)⟩) ⟨ur_blind, ur_pre hI hO hK (fun _ _ q => q)⟩ rfl rfl hl.1 rfl (lv_room (Nat.le_of_ble_eq_true rfl)) dZ_indexOf_1 ⟨Nat.le_of_ble_eq_true rfl, Nat.le_of_ble_eq_true rfl⟩) hI (fun r1 h1 H locs p1 hI => ?_)
  obtain ⟨er1, eh1⟩ := p1
  replace eh1 := eh1.symm; subst eh1
  refine lv_if_ne (tgt := 9) hx hb dZ_indexOf_4 (by decide) (fun c2 => ?_) (fun c2 => ?_)
  · have k3 : (um_enc x) = true := um_b1 er1 c2
    refine lv_iload_n hx hb dZ_indexOf_9 rfl (lv_at hl 2 rfl) ?_
    refine lv_iconst (v := 0) hx hb dZ_indexOf_10 (by decide) ?_
    refine va_mmax hx hb (hml.trans hl.1.symm) hown (hts _ mw493) (hts _ mw61) (hts _ mw6) (hts _ mw62) (Nat.le_of_ble_eq_true rfl) (Nat.le_of_ble_eq_true rfl) (Nat.le_of_ble_eq_true rfl) (Nat.le_of_ble_eq_true rfl) dZ_indexOf_11 ?_
    refine lv_istore_n (lv' := [(2, .int (if 0 < 0 then 0 else 0)), (0, .ref E.2.2.1), (1, .int x), (3, .int 56)]) hx hb dZ_indexOf_14 rfl hl (by decide) rfl (fun ls hl => ?_)
    refine lv_iload_n hx hb dZ_indexOf_15 rfl (lv_at hl 3 rfl) ?_
    refine lv_aload_n hx hb dZ_indexOf_16 rfl (lv_at hl 1 rfl) ?_
    refine va_tlen (v := 56) hx hb hZ.2.2.2.1 hI.2.2.1 rfl dZ_indexOf_17 ?_
    refine va_mmin hx hb (hml.trans hl.1.symm) hown (hts _ mw494) (hts _ mw453) (hts _ mw6) (hts _ mw454) (Nat.le_of_ble_eq_true rfl) (Nat.le_of_ble_eq_true rfl) (Nat.le_of_ble_eq_true rfl) (Nat.le_of_ble_eq_true rfl) dZ_indexOf_18 ?_
    refine lv_istore_n (lv' := [(3, .int (if 56 < 56 then 56 else 56)), (2, .int (if 0 < 0 then 0 else 0)), (0, .ref E.2.2.1), (1, .int x)]) hx hb dZ_indexOf_21 rfl hl (by decide) rfl (fun ls hl => ?_)
    refine lv_iload_n hx hb dZ_indexOf_22 rfl (lv_at hl 1 rfl) ?_
    refine lv_iload_n hx hb dZ_indexOf_23 rfl (lv_at hl 0 rfl) ?_
    refine lv_icmp_lt (tgt := 29) hx hb dZ_indexOf_24 (by decide) (fun c4 => ?_) (fun c4 => absurd c4 (by decide))
    refine lv_aload_n hx hb dZ_indexOf_29 rfl (lv_at hl 2 rfl) ?_
    refine lv_iload_n hx hb dZ_indexOf_30 rfl (lv_at hl 3 rfl) ?_
    refine lv_iload_n hx hb dZ_indexOf_31 rfl (lv_at hl 1 rfl) ?_
    refine lv_iload_n hx hb dZ_indexOf_32 rfl (lv_at hl 0 rfl) ?_
    refine ur_xi (va_runS (As := [.ref E.2.2.1, .int x, .int (if 0 < 0 then 0 else 0), .int (if 56 < 56 then 56 else 56)]) (rest := []) ⟨hx, hb, hml, hown, hts⟩ (kZ_ioc l D E h x (by first | assumption | omega | decide) H.size) (va_cwS 4 hts (ur_gT mw495 mw496 mw14 mw497) rfl rfl rfl (by decide +kernel) ⟨(Nat.le_of_ble_eq_true rfl), (Nat.le_of_ble_eq_true rfl)⟩) ⟨ur_blind, ur_pre hI hO hK (fun _ _ q => q)⟩ rfl rfl hl.1 rfl (lv_room (Nat.le_of_ble_eq_true rfl)) dZ_indexOf_33 ⟨Nat.le_of_ble_eq_true rfl, Nat.le_of_ble_eq_true rfl⟩) hI (fun r5 h5 H locs p5 hI => ?_)
    obtain ⟨er5, eh5⟩ := p5
    replace eh5 := eh5.symm; subst eh5
    replace er5 := er5.symm; subst er5
    exact ur_ri hx hb hr hlocks hI hQ ⟨rfl, rfl⟩ dZ_indexOf_36
  · have k6 : (um_enc x) = false := um_b0 er1 c2
    refine lv_iconst (v := (-1)) hx hb dZ_indexOf_7 (by decide) ?_
    exact ur_ri hx hb hr hlocks hI hQ ⟨(um_find_no k6 56 0 rfl).symm, rfl⟩ dZ_indexOf_8
theorem dS_indexOf2_0 : decode cS_indexOf2 0 = .ok (.aload_n 0, 1) := by decide +kernel
theorem dS_indexOf2_1 : decode cS_indexOf2 1 = .ok (.invokevirtual 492, 3) := by decide +kernel
theorem dS_indexOf2_4 : decode cS_indexOf2 4 = .ok (.ifCond .eq 19, 3) := by decide +kernel
theorem dS_indexOf2_7 : decode cS_indexOf2 7 = .ok (.aload_n 0, 1) := by decide +kernel
theorem dS_indexOf2_8 : decode cS_indexOf2 8 = .ok (.getfield 9, 3) := by decide +kernel
theorem dS_indexOf2_11 : decode cS_indexOf2 11 = .ok (.iload_n 1, 1) := by decide +kernel
theorem dS_indexOf2_12 : decode cS_indexOf2 12 = .ok (.iload_n 2, 1) := by decide +kernel
theorem dS_indexOf2_13 : decode cS_indexOf2 13 = .ok (.aload_n 0, 1) := by decide +kernel
theorem dS_indexOf2_14 : decode cS_indexOf2 14 = .ok (.invokevirtual 505, 3) := by decide +kernel
theorem dS_indexOf2_17 : decode cS_indexOf2 17 = .ok (.invokestatic 637, 3) := by decide +kernel
theorem dS_indexOf2_20 : decode cS_indexOf2 20 = .ok (.goto 16, 3) := by decide +kernel
theorem dS_indexOf2_23 : decode cS_indexOf2 23 = .ok (.aload_n 0, 1) := by decide +kernel
theorem dS_indexOf2_24 : decode cS_indexOf2 24 = .ok (.getfield 9, 3) := by decide +kernel
theorem dS_indexOf2_27 : decode cS_indexOf2 27 = .ok (.iload_n 1, 1) := by decide +kernel
theorem dS_indexOf2_28 : decode cS_indexOf2 28 = .ok (.iload_n 2, 1) := by decide +kernel
theorem dS_indexOf2_29 : decode cS_indexOf2 29 = .ok (.aload_n 0, 1) := by decide +kernel
theorem dS_indexOf2_30 : decode cS_indexOf2 30 = .ok (.invokevirtual 505, 3) := by decide +kernel
theorem dS_indexOf2_33 : decode cS_indexOf2 33 = .ok (.invokestatic 640, 3) := by decide +kernel
theorem dS_indexOf2_36 : decode cS_indexOf2 36 = .ok (.ireturn, 1) := by decide +kernel
abbrev rmkS_io2 : Room := { frames := 2, cells := 0, slots := 0, locals := 48 }
set_option maxHeartbeats 4000000 in
set_option maxRecDepth 100000 in
theorem kS_io2 (l : Launch) (D : va_G) (E : ur_Ev) (h : ur_M) (x : Int32)   : ur_Mi l yS_indexOf2 wsS_indexOf2 rmkS_io2 D vwCl (ur_v E) [.ref E.2.1, .int x, .int 0] h (fun r h2 => r = um_find x 56 0 ∧ h2 = h) 0 0 := by
  intro sz
  refine ur_of (cc := cS_indexOf2) (maxL := 3) (ret := (some .int)) (by decide) rfl (Nat.le_of_ble_eq_true rfl) ?_
  intro p e s m args below meth c ls Q hsz hx hb hml hr hlocks hnm hown hts hO hK hI hQ hl
  subst hsz
  have hV := hK.1
  have hts : ∀ w ∈ ur_G, w.before args s = true := fun w hw => hts w (List.mem_cons_of_mem _ hw)
  have hZ : ur_Z E (ur_A h s.heap.size) s s.heap := hO.1
  have hown : s.vm.findClass "java/lang/String" = some m.cls := hown
  have hl : lv_has ls 3 [(0, .ref E.2.1), (1, .int x), (2, .int 0)] := hl
  refine lv_aload_n hx hb dS_indexOf2_0 rfl (lv_at hl 0 rfl) ?_
  refine ur_xi (va_runV (As := []) (rest := []) ⟨hx, hb, hml, hown, hts⟩ (kS_lat l D E h s.heap.size) (cwV 0 hts (ur_gV mw410 mw411 mw412 mw13 mw413) rfl rfl rfl (by decide +kernel) ⟨(Nat.le_of_ble_eq_true rfl), (Nat.le_of_ble_eq_true rfl)⟩) ⟨ur_blind, ur_recS hZ hI.2.2.1, ur_pre hI hO hK (fun _ _ q => q)⟩ rfl rfl hl.1 rfl (lv_room (Nat.le_of_ble_eq_true rfl)) dS_indexOf2_1 ⟨Nat.le_of_ble_eq_true rfl, Nat.le_of_ble_eq_true rfl⟩) hI (fun r1 h1 H locs p1 hI => ?_)
  obtain ⟨er1, eh1⟩ := p1
  replace eh1 := eh1.symm; subst eh1
  refine lv_if_eq (tgt := 23) hx hb dS_indexOf2_4 (by decide) (fun c2 => absurd c2 (by rw [er1]; decide)) (fun c2 => ?_)
  refine lv_aload_n hx hb dS_indexOf2_7 rfl (lv_at hl 0 rfl) ?_
  refine vk_getf hx hb hZ.2.2.1 hI.2.2.1 hown (hts _ mw753) (fun _ h9 => h9) dS_indexOf2_8 ?_
  refine lv_iload_n hx hb dS_indexOf2_11 rfl (lv_at hl 1 rfl) ?_
  refine lv_iload_n hx hb dS_indexOf2_12 rfl (lv_at hl 2 rfl) ?_
  refine lv_aload_n hx hb dS_indexOf2_13 rfl (lv_at hl 0 rfl) ?_
  refine ur_xi (va_runV (As := []) (rest := [.int 0, .int x, .ref E.2.2.1]) ⟨hx, hb, hml, hown, hts⟩ (kS_len l D E h H.size) (cwV 0 hts (ur_gV mw486 mw397 mw398 mw13 mw399) rfl rfl rfl (by decide +kernel) ⟨(Nat.le_of_ble_eq_true rfl), (Nat.le_of_ble_eq_true rfl)⟩) ⟨ur_blind, ur_recS hZ hI.2.2.1, ur_pre hI hO hK (fun _ _ q => q)⟩ rfl rfl hl.1 rfl (lv_room (Nat.le_of_ble_eq_true rfl)) dS_indexOf2_14 ⟨Nat.le_of_ble_eq_true rfl, Nat.le_of_ble_eq_true rfl⟩) hI (fun r3 h3 H locs p3 hI => ?_)
  obtain ⟨er3, eh3⟩ := p3
  replace eh3 := eh3.symm; subst eh3
  replace er3 := er3.symm; subst er3
  refine ur_xi (va_runS (As := [.ref E.2.2.1, .int x, .int 0, .int (56)]) (rest := []) ⟨hx, hb, hml, hown, hts⟩ (kZ_io l D E h x H.size) (va_cwS 4 hts (ur_gT mw487 mw488 mw14 mw489) rfl rfl rfl (by decide +kernel) ⟨(Nat.le_of_ble_eq_true rfl), (Nat.le_of_ble_eq_true rfl)⟩) ⟨ur_blind, ur_pre hI hO hK (fun _ _ q => q)⟩ rfl rfl hl.1 rfl (lv_room (Nat.le_of_ble_eq_true rfl)) dS_indexOf2_17 ⟨Nat.le_of_ble_eq_true rfl, Nat.le_of_ble_eq_true rfl⟩) hI (fun r4 h4 H locs p4 hI => ?_)
  obtain ⟨er4, eh4⟩ := p4
  replace eh4 := eh4.symm; subst eh4
  replace er4 := er4.symm; subst er4
  refine lv_goto (tgt := 36) hx hb dS_indexOf2_20 (by decide) ?_
  exact ur_ri hx hb hr hlocks hI hQ ⟨(by first | (simp only [c2, ↓reduceIte]; done) | (simp only [c2, ↓reduceIte]; rfl) | rfl), rfl⟩ dS_indexOf2_36
theorem dS_indexOf_0 : decode cS_indexOf 0 = .ok (.aload_n 0, 1) := by decide +kernel
theorem dS_indexOf_1 : decode cS_indexOf 1 = .ok (.iload_n 1, 1) := by decide +kernel
theorem dS_indexOf_2 : decode cS_indexOf 2 = .ok (.iconst 0, 1) := by decide +kernel
theorem dS_indexOf_3 : decode cS_indexOf 3 = .ok (.invokevirtual 633, 3) := by decide +kernel
theorem dS_indexOf_6 : decode cS_indexOf 6 = .ok (.ireturn, 1) := by decide +kernel
abbrev rmkS_io : Room := { frames := 3, cells := 0, slots := 0, locals := 70 }
set_option maxHeartbeats 4000000 in
set_option maxRecDepth 100000 in
theorem kS_io (l : Launch) (D : va_G) (E : ur_Ev) (h : ur_M) (x : Int32)   : ur_Mi l yS_indexOf wsS_indexOf rmkS_io D vwCl (ur_v E) [.ref E.2.1, .int x] h (fun r h2 => r = um_find x 56 0 ∧ h2 = h) 0 0 := by
  intro sz
  refine ur_of (cc := cS_indexOf) (maxL := 2) (ret := (some .int)) (by decide) rfl (Nat.le_of_ble_eq_true rfl) ?_
  intro p e s m args below meth c ls Q hsz hx hb hml hr hlocks hnm hown hts hO hK hI hQ hl
  subst hsz
  have hV := hK.1
  have hts : ∀ w ∈ ur_G, w.before args s = true := fun w hw => hts w (List.mem_cons_of_mem _ hw)
  have hZ : ur_Z E (ur_A h s.heap.size) s s.heap := hO.1
  have hown : s.vm.findClass "java/lang/String" = some m.cls := hown
  have hl : lv_has ls 2 [(0, .ref E.2.1), (1, .int x)] := hl
  refine lv_aload_n hx hb dS_indexOf_0 rfl (lv_at hl 0 rfl) ?_
  refine lv_iload_n hx hb dS_indexOf_1 rfl (lv_at hl 1 rfl) ?_
  refine lv_iconst (v := 0) hx hb dS_indexOf_2 (by decide) ?_
  refine ur_xi (va_runV (As := [.int x, .int 0]) (rest := []) ⟨hx, hb, hml, hown, hts⟩ (kS_io2 l D E h x s.heap.size) (cwV 2 hts (ur_gV mw482 mw483 mw484 mw13 mw485) rfl rfl rfl (by decide +kernel) ⟨(Nat.le_of_ble_eq_true rfl), (Nat.le_of_ble_eq_true rfl)⟩) ⟨ur_blind, ur_recS hZ hI.2.2.1, ur_pre hI hO hK (fun _ _ q => q)⟩ rfl rfl hl.1 rfl (lv_room (Nat.le_of_ble_eq_true rfl)) dS_indexOf_3 ⟨Nat.le_of_ble_eq_true rfl, Nat.le_of_ble_eq_true rfl⟩) hI (fun r1 h1 H locs p1 hI => ?_)
  obtain ⟨er1, eh1⟩ := p1
  replace eh1 := eh1.symm; subst eh1
  replace er1 := er1.symm; subst er1
  exact ur_ri hx hb hr hlocks hI hQ ⟨(by first | (simp only [↓reduceIte]; done) | (simp only [↓reduceIte]; rfl) | rfl), rfl⟩ dS_indexOf_6
theorem dU_codeOf_0 : decode cU_codeOf 0 = .ok (.iload_n 0, 1) := by decide +kernel
theorem dU_codeOf_1 : decode cU_codeOf 1 = .ok (.bipush 97, 2) := by decide +kernel
theorem dU_codeOf_3 : decode cU_codeOf 3 = .ok (.if_icmp .lt 19, 3) := by decide +kernel
theorem dU_codeOf_6 : decode cU_codeOf 6 = .ok (.iload_n 0, 1) := by decide +kernel
theorem dU_codeOf_7 : decode cU_codeOf 7 = .ok (.bipush 122, 2) := by decide +kernel
theorem dU_codeOf_9 : decode cU_codeOf 9 = .ok (.if_icmp .gt 13, 3) := by decide +kernel
theorem dU_codeOf_12 : decode cU_codeOf 12 = .ok (.iload_n 0, 1) := by decide +kernel
theorem dU_codeOf_13 : decode cU_codeOf 13 = .ok (.bipush 97, 2) := by decide +kernel
theorem dU_codeOf_15 : decode cU_codeOf 15 = .ok (.isub, 1) := by decide +kernel
theorem dU_codeOf_16 : decode cU_codeOf 16 = .ok (.bipush 65, 2) := by decide +kernel
theorem dU_codeOf_18 : decode cU_codeOf 18 = .ok (.iadd, 1) := by decide +kernel
theorem dU_codeOf_19 : decode cU_codeOf 19 = .ok (.goto 4, 3) := by decide +kernel
theorem dU_codeOf_22 : decode cU_codeOf 22 = .ok (.iload_n 0, 1) := by decide +kernel
theorem dU_codeOf_23 : decode cU_codeOf 23 = .ok (.istore_n 1, 1) := by decide +kernel
theorem dU_codeOf_24 : decode cU_codeOf 24 = .ok (.iconst 0, 1) := by decide +kernel
theorem dU_codeOf_25 : decode cU_codeOf 25 = .ok (.ldc 159, 2) := by decide +kernel
theorem dU_codeOf_27 : decode cU_codeOf 27 = .ok (.iload_n 1, 1) := by decide +kernel
theorem dU_codeOf_28 : decode cU_codeOf 28 = .ok (.i2c, 1) := by decide +kernel
theorem dU_codeOf_29 : decode cU_codeOf 29 = .ok (.invokevirtual 170, 3) := by decide +kernel
theorem dU_codeOf_32 : decode cU_codeOf 32 = .ok (.invokestatic 116, 3) := by decide +kernel
theorem dU_codeOf_35 : decode cU_codeOf 35 = .ok (.ireturn, 1) := by decide +kernel
abbrev rmkU_codeOf : Room := { frames := 4, cells := 0, slots := 0, locals := 91 }
set_option maxHeartbeats 4000000 in
set_option maxRecDepth 100000 in
theorem kU_codeOf (l : Launch) (D : va_G) (E : ur_Ev) (h : ur_M) (x : Int32)   : ur_Mi l yU_codeOf wsU_codeOf rmkU_codeOf D vwCl (ur_v E) [.int x] h (fun r h2 => r = um_code x ∧ h2 = h) 0 0 := by
  intro sz
  refine ur_of (cc := cU_codeOf) (maxL := 2) (ret := (some .int)) (by decide) rfl (Nat.le_of_ble_eq_true rfl) ?_
  intro p e s m args below meth c ls Q hsz hx hb hml hr hlocks hnm hown hts hO hK hI hQ hl
  subst hsz
  have hV := hK.1
  have hts : ∀ w ∈ ur_G, w.before args s = true := fun w hw => hts w (List.mem_cons_of_mem _ hw)
  have hZ : ur_Z E (ur_A h s.heap.size) s s.heap := hO.1
  have hown : s.vm.findClass "UnitRoom" = some m.cls := hown
  have hl : lv_has ls 2 [(0, .int x)] := hl
  refine lv_iload_n hx hb dU_codeOf_0 rfl (lv_at hl 0 rfl) ?_
  refine lv_bipush (v := 97) hx hb dU_codeOf_1 (by decide) ?_
  refine lv_icmp_lt (tgt := 22) hx hb dU_codeOf_3 (by decide) (fun c1 => ?_) (fun c1 => ?_)
  · refine lv_iload_n hx hb dU_codeOf_22 rfl (lv_at hl 0 rfl) ?_
    refine lv_istore_n (lv' := [(1, .int x), (0, .int x)]) hx hb dU_codeOf_23 rfl hl (by decide) rfl (fun ls hl => ?_)
    refine lv_iconst (v := 0) hx hb dU_codeOf_24 (by decide) ?_
    refine va_ldcS hx hb hown hK.2.1.2.2.2.2.2.2.2.2 dU_codeOf_25 ?_
    refine lv_iload_n hx hb dU_codeOf_27 rfl (lv_at hl 0 rfl) ?_
    refine lv_i2c hx hb dU_codeOf_28 rfl ?_
    refine ur_xi (va_runV (As := [.int ((x.toUInt32 % 65536).toInt32)]) (rest := [.int 0]) ⟨hx, hb, hml, hown, hts⟩ (kS_io l D E h ((x.toUInt32 % 65536).toInt32) s.heap.size) (cwV 1 hts (ur_gV mw478 mw479 mw480 mw13 mw481) rfl rfl rfl (by decide +kernel) ⟨(Nat.le_of_ble_eq_true rfl), (Nat.le_of_ble_eq_true rfl)⟩) ⟨ur_blind, ur_recS hZ hI.2.2.1, ur_pre hI hO hK (fun _ _ q => q)⟩ rfl rfl hl.1 rfl (lv_room (Nat.le_of_ble_eq_true rfl)) dU_codeOf_29 ⟨Nat.le_of_ble_eq_true rfl, Nat.le_of_ble_eq_true rfl⟩) hI (fun r2 h2 H locs p2 hI => ?_)
    obtain ⟨er2, eh2⟩ := p2
    replace eh2 := eh2.symm; subst eh2
    replace er2 := er2.symm; subst er2
    refine va_mmax hx hb (hml.trans hl.1.symm) hown (hts _ mw455) (hts _ mw61) (hts _ mw6) (hts _ mw62) (Nat.le_of_ble_eq_true rfl) (Nat.le_of_ble_eq_true rfl) (Nat.le_of_ble_eq_true rfl) (Nat.le_of_ble_eq_true rfl) dU_codeOf_32 ?_
    exact ur_ri hx hb hr hlocks hI hQ ⟨(by first | (simp only [um_code, um_great, c1, ↓reduceIte]; done) | (simp only [um_code, um_great, c1, ↓reduceIte]; rfl) | rfl), rfl⟩ dU_codeOf_35
  · refine lv_iload_n hx hb dU_codeOf_6 rfl (lv_at hl 0 rfl) ?_
    refine lv_bipush (v := 122) hx hb dU_codeOf_7 (by decide) ?_
    refine lv_icmp_gt (tgt := 22) hx hb dU_codeOf_9 (by decide) (fun c3 => ?_) (fun c3 => ?_)
    · refine lv_iload_n hx hb dU_codeOf_22 rfl (lv_at hl 0 rfl) ?_
      refine lv_istore_n (lv' := [(1, .int x), (0, .int x)]) hx hb dU_codeOf_23 rfl hl (by decide) rfl (fun ls hl => ?_)
      refine lv_iconst (v := 0) hx hb dU_codeOf_24 (by decide) ?_
      refine va_ldcS hx hb hown hK.2.1.2.2.2.2.2.2.2.2 dU_codeOf_25 ?_
      refine lv_iload_n hx hb dU_codeOf_27 rfl (lv_at hl 0 rfl) ?_
      refine lv_i2c hx hb dU_codeOf_28 rfl ?_
      refine ur_xi (va_runV (As := [.int ((x.toUInt32 % 65536).toInt32)]) (rest := [.int 0]) ⟨hx, hb, hml, hown, hts⟩ (kS_io l D E h ((x.toUInt32 % 65536).toInt32) s.heap.size) (cwV 1 hts (ur_gV mw478 mw479 mw480 mw13 mw481) rfl rfl rfl (by decide +kernel) ⟨(Nat.le_of_ble_eq_true rfl), (Nat.le_of_ble_eq_true rfl)⟩) ⟨ur_blind, ur_recS hZ hI.2.2.1, ur_pre hI hO hK (fun _ _ q => q)⟩ rfl rfl hl.1 rfl (lv_room (Nat.le_of_ble_eq_true rfl)) dU_codeOf_29 ⟨Nat.le_of_ble_eq_true rfl, Nat.le_of_ble_eq_true rfl⟩) hI (fun r4 h4 H locs p4 hI => ?_)
      obtain ⟨er4, eh4⟩ := p4
      replace eh4 := eh4.symm; subst eh4
      replace er4 := er4.symm; subst er4
      refine va_mmax hx hb (hml.trans hl.1.symm) hown (hts _ mw455) (hts _ mw61) (hts _ mw6) (hts _ mw62) (Nat.le_of_ble_eq_true rfl) (Nat.le_of_ble_eq_true rfl) (Nat.le_of_ble_eq_true rfl) (Nat.le_of_ble_eq_true rfl) dU_codeOf_32 ?_
      exact ur_ri hx hb hr hlocks hI hQ ⟨(by first | (simp only [um_code, um_great, c1, c3, ↓reduceIte]; done) | (simp only [um_code, um_great, c1, c3, ↓reduceIte]; rfl) | rfl), rfl⟩ dU_codeOf_35
    · refine lv_iload_n hx hb dU_codeOf_12 rfl (lv_at hl 0 rfl) ?_
      refine lv_bipush (v := 97) hx hb dU_codeOf_13 (by decide) ?_
      refine lv_isub hx hb dU_codeOf_15 ?_
      refine lv_bipush (v := 65) hx hb dU_codeOf_16 (by decide) ?_
      refine lv_iadd hx hb dU_codeOf_18 ?_
      refine lv_goto (tgt := 23) hx hb dU_codeOf_19 (by decide) ?_
      refine lv_istore_n (lv' := [(1, .int ((x - 97) + 65)), (0, .int x)]) hx hb dU_codeOf_23 rfl hl (by decide) rfl (fun ls hl => ?_)
      refine lv_iconst (v := 0) hx hb dU_codeOf_24 (by decide) ?_
      refine va_ldcS hx hb hown hK.2.1.2.2.2.2.2.2.2.2 dU_codeOf_25 ?_
      refine lv_iload_n hx hb dU_codeOf_27 rfl (lv_at hl 0 rfl) ?_
      refine lv_i2c hx hb dU_codeOf_28 rfl ?_
      refine ur_xi (va_runV (As := [.int ((((x - 97) + 65).toUInt32 % 65536).toInt32)]) (rest := [.int 0]) ⟨hx, hb, hml, hown, hts⟩ (kS_io l D E h ((((x - 97) + 65).toUInt32 % 65536).toInt32) s.heap.size) (cwV 1 hts (ur_gV mw478 mw479 mw480 mw13 mw481) rfl rfl rfl (by decide +kernel) ⟨(Nat.le_of_ble_eq_true rfl), (Nat.le_of_ble_eq_true rfl)⟩) ⟨ur_blind, ur_recS hZ hI.2.2.1, ur_pre hI hO hK (fun _ _ q => q)⟩ rfl rfl hl.1 rfl (lv_room (Nat.le_of_ble_eq_true rfl)) dU_codeOf_29 ⟨Nat.le_of_ble_eq_true rfl, Nat.le_of_ble_eq_true rfl⟩) hI (fun r5 h5 H locs p5 hI => ?_)
      obtain ⟨er5, eh5⟩ := p5
      replace eh5 := eh5.symm; subst eh5
      replace er5 := er5.symm; subst er5
      refine va_mmax hx hb (hml.trans hl.1.symm) hown (hts _ mw455) (hts _ mw61) (hts _ mw6) (hts _ mw62) (Nat.le_of_ble_eq_true rfl) (Nat.le_of_ble_eq_true rfl) (Nat.le_of_ble_eq_true rfl) (Nat.le_of_ble_eq_true rfl) dU_codeOf_32 ?_
      exact ur_ri hx hb hr hlocks hI hQ ⟨(by first | (simp only [um_code, um_great, c1, c3, ↓reduceIte]; done) | (simp only [um_code, um_great, c1, c3, ↓reduceIte]; rfl) | rfl), rfl⟩ dU_codeOf_35
