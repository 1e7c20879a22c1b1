abbrev rmkF_ctl8 : Room := { frames := 1, cells := 0, slots := 0, locals := 21 }
set_option maxHeartbeats 4000000 in
set_option maxRecDepth 100000 in
theorem kF_ctl8 (l : Launch) (D : va_G) (E : ur_Ev) (h : ur_M) (q : Nat) (b1 : Nat) (b2 : Nat) (b3 : Nat) (b4 : Nat) (b5 : Nat) (b6 : Nat) (b7 : Nat) (b8 : Nat) (b9 : Nat) (b10 : Nat) (b11 : Nat) (b12 : Nat) (b13 : Nat) (b14 : Nat) (ti : Int64) (ops : Int32) (cds : Int32) (tsz : Int32) (kn : Nat) (mv : Int32) (g_letters : Nat → Int32) (g_lengths : Nat → Int32) (g_lines : Nat → Int32) (f0 : h q = some (.inr (7, [.ref b1, .ref b2, .ref b3, .long ti, .ref b4, .ref b5, .ref b6, .ref b7, .int ops, .ref b8, .int cds, .ref b9, .ref b10, .ref b11, .ref b12, .ref b13, .int tsz, .ref b14]))) (f1 : h b12 = some (.inl (E.1 1, 108000, .inl g_letters))) (f2 : h b11 = some (.inl (E.1 0, 900, .inl g_lengths))) (f3 : h b10 = some (.inl (E.1 0, 3, .inl g_lines))) (h1 : g_lines 1 = nI kn) (hk : kn < 300) : ur_Mv l yF_control wsF_control rmkF_ctl8 D vwCl (ur_v E) [.ref q, .int 8, .int mv] h (fun h2 => h2 = va_up (va_up (va_up h b12 (some (.inl (E.1 1, 108000, .inl (upd g_letters (120 * (300 + kn)) (vp_nar .byte 12)))))) b11 (some (.inl (E.1 0, 900, .inl (upd g_lengths (300 + kn) 1))))) b10 (some (.inl (E.1 0, 3, .inl (upd g_lines 1 (nI (kn + 1))))))) 0 0 := by
  intro sz
  refine ur_of (cc := cF_control) (maxL := 5) (ret := none) (by decide) rfl (Nat.le_of_ble_eq_true rfl) ?_
  intro p e s m args below meth c ls Q hsz hx hb hml hr hlocks hnm hown hts hO hK hI hQ hl
  subst hsz
  have hV := hK.1
  have hts : ∀ w ∈ ur_G, w.before args s = true := fun w hw => hts w (List.mem_cons_of_mem _ hw)
  have hZ : ur_Z E (ur_A h s.heap.size) s s.heap := hO.1
  have hown : s.vm.findClass "UnitRoomModel" = some m.cls := hown
  have hl : lv_has ls 5 [(0, .ref q), (1, .int 8), (2, .int mv)] := hl
  refine lv_iload_n hx hb dF_control_0 rfl (lv_at hl 1 rfl) ?_
  refine lv_iconst (v := 4) hx hb dF_control_1 (by decide) ?_
  refine lv_icmp_ge (tgt := 58) hx hb dF_control_2 (by decide) (fun c1 => ?_) (fun c1 => absurd c1 (by decide))
  refine lv_iload_n hx hb dF_control_58 rfl (lv_at hl 1 rfl) ?_
  refine lv_bipush (v := 8) hx hb dF_control_59 (by decide) ?_
  refine lv_icmp_ne (tgt := 68) hx hb dF_control_61 (by decide) (fun c2 => absurd c2 (by decide)) (fun c2 => ?_)
  refine lv_aload_n hx hb dF_control_64 rfl (lv_at hl 0 rfl) ?_
  refine ur_xv (va_runV (As := []) (rest := []) ⟨hx, hb, hml, hown, hts⟩ (kF_ff l D E h q b1 b2 b3 b4 b5 b6 b7 b8 b9 b10 b11 b12 b13 b14 ti ops cds tsz kn g_letters g_lengths g_lines f0 f1 f2 f3 (by first | assumption | omega | decide) (by first | assumption | omega | decide) s.heap.size) (cwV 0 hts (ur_gV mw698 mw700 ms11 mw11 mw701) rfl rfl rfl (by decide +kernel) ⟨(Nat.le_of_ble_eq_true rfl), (Nat.le_of_ble_eq_true rfl)⟩) ⟨ur_blind, va_recv hV (ur_one hI.1 f0) (ci := 7) (q0 := 0) rfl rfl, ur_pre hI hO hK (fun _ _ q => q)⟩ rfl rfl hl.1 rfl (lv_room (Nat.le_of_ble_eq_true rfl)) dF_control_65 ⟨Nat.le_of_ble_eq_true rfl, Nat.le_of_ble_eq_true rfl⟩) hI (fun h3 H locs p3 hI => ?_)
  have eh3 := p3
  have fq4 : h3 q = some (.inr (7, [.ref b1, .ref b2, .ref b3, .long ti, .ref b4, .ref b5, .ref b6, .ref b7, .int ops, .ref b8, .int cds, .ref b9, .ref b10, .ref b11, .ref b12, .ref b13, .int tsz, .ref b14])) := by rw [eh3]; exact ((va_up_ne _ _ (ur_ne f0 f3 (by intro z; simp at z))).trans ((va_up_ne _ _ (ur_ne f0 f2 (by intro z; simp at z))).trans ((va_up_ne _ _ (ur_ne f0 f1 (by intro z; simp at z))).trans f0)))
  have fq5 : h3 b12 = some (.inl (E.1 1, 108000, .inl (upd g_letters (120 * (300 + kn)) (vp_nar .byte 12)))) := by rw [eh3]; exact ((va_up_ne _ _ (ur_ne f1 f3 (by intro z; simp at z))).trans ((va_up_ne _ _ (ur_ne f1 f2 (by intro z; simp at z))).trans (va_up_self _ _ _)))
  have fq6 : h3 b11 = some (.inl (E.1 0, 900, .inl (upd g_lengths (300 + kn) 1))) := by rw [eh3]; exact ((va_up_ne _ _ (ur_ne f2 f3 (by intro z; simp at z))).trans (va_up_self _ _ _))
  have fq7 : h3 b10 = some (.inl (E.1 0, 3, .inl (upd g_lines 1 (nI (kn + 1))))) := by rw [eh3]; exact (va_up_self _ _ _)
  exact ur_rv hx hb hr hlocks hI hQ (by first | rfl | rw [eh3]) dF_control_68
abbrev rmkF_ctl8F : Room := { frames := 1, cells := 0, slots := 0, locals := 21 }
set_option maxHeartbeats 4000000 in
set_option maxRecDepth 100000 in
theorem kF_ctl8F (l : Launch) (D : va_G) (E : ur_Ev) (h : ur_M) (q : Nat) (b1 : Nat) (b2 : Nat) (b3 : Nat) (b4 : Nat) (b5 : Nat) (b6 : Nat) (b7 : Nat) (b8 : Nat) (b9 : Nat) (b10 : Nat) (b11 : Nat) (b12 : Nat) (b13 : Nat) (b14 : Nat) (ti : Int64) (ops : Int32) (cds : Int32) (tsz : Int32) (kn : Nat) (mv : Int32) (g_letters : Nat → Int32) (g_lengths : Nat → Int32) (g_lines : Nat → Int32) (f0 : h q = some (.inr (7, [.ref b1, .ref b2, .ref b3, .long ti, .ref b4, .ref b5, .ref b6, .ref b7, .int ops, .ref b8, .int cds, .ref b9, .ref b10, .ref b11, .ref b12, .ref b13, .int tsz, .ref b14]))) (f1 : h b12 = some (.inl (E.1 1, 108000, .inl g_letters))) (f2 : h b11 = some (.inl (E.1 0, 900, .inl g_lengths))) (f3 : h b10 = some (.inl (E.1 0, 3, .inl g_lines))) (h1 : g_lines 1 = nI kn) (hk : kn = 300) : ur_Mv l yF_control wsF_control rmkF_ctl8F D vwCl (ur_v E) [.ref q, .int 8, .int mv] h (fun h2 => h2 = h) 0 0 := by
  intro sz
  refine ur_of (cc := cF_control) (maxL := 5) (ret := none) (by decide) rfl (Nat.le_of_ble_eq_true rfl) ?_
  intro p e s m args below meth c ls Q hsz hx hb hml hr hlocks hnm hown hts hO hK hI hQ hl
  subst hsz
  have hV := hK.1
  have hts : ∀ w ∈ ur_G, w.before args s = true := fun w hw => hts w (List.mem_cons_of_mem _ hw)
  have hZ : ur_Z E (ur_A h s.heap.size) s s.heap := hO.1
  have hown : s.vm.findClass "UnitRoomModel" = some m.cls := hown
  have hl : lv_has ls 5 [(0, .ref q), (1, .int 8), (2, .int mv)] := hl
  refine lv_iload_n hx hb dF_control_0 rfl (lv_at hl 1 rfl) ?_
  refine lv_iconst (v := 4) hx hb dF_control_1 (by decide) ?_
  refine lv_icmp_ge (tgt := 58) hx hb dF_control_2 (by decide) (fun c1 => ?_) (fun c1 => absurd c1 (by decide))
  refine lv_iload_n hx hb dF_control_58 rfl (lv_at hl 1 rfl) ?_
  refine lv_bipush (v := 8) hx hb dF_control_59 (by decide) ?_
  refine lv_icmp_ne (tgt := 68) hx hb dF_control_61 (by decide) (fun c2 => absurd c2 (by decide)) (fun c2 => ?_)
  refine lv_aload_n hx hb dF_control_64 rfl (lv_at hl 0 rfl) ?_
  refine ur_xv (va_runV (As := []) (rest := []) ⟨hx, hb, hml, hown, hts⟩ (kF_ffF l D E h q b1 b2 b3 b4 b5 b6 b7 b8 b9 b10 b11 b12 b13 b14 ti ops cds tsz kn g_letters g_lengths g_lines f0 f1 f2 f3 (by first | assumption | omega | decide) (by first | assumption | omega | decide) s.heap.size) (cwV 0 hts (ur_gV mw698 mw700 ms11 mw11 mw701) rfl rfl rfl (by decide +kernel) ⟨(Nat.le_of_ble_eq_true rfl), (Nat.le_of_ble_eq_true rfl)⟩) ⟨ur_blind, va_recv hV (ur_one hI.1 f0) (ci := 7) (q0 := 0) rfl rfl, ur_pre hI hO hK (fun _ _ q => q)⟩ rfl rfl hl.1 rfl (lv_room (Nat.le_of_ble_eq_true rfl)) dF_control_65 ⟨Nat.le_of_ble_eq_true rfl, Nat.le_of_ble_eq_true rfl⟩) hI (fun h3 H locs p3 hI => ?_)
  have eh3 := p3
  replace eh3 := eh3.symm; subst eh3
  exact ur_rv hx hb hr hlocks hI hQ rfl dF_control_68
