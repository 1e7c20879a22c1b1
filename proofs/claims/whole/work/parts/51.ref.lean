theorem dF_feedForm_0 : decode cF_feedForm 0 = .ok (.sipush 300, 3) := by decide +kernel
theorem dF_feedForm_3 : decode cF_feedForm 3 = .ok (.aload_n 0, 1) := by decide +kernel
theorem dF_feedForm_4 : decode cF_feedForm 4 = .ok (.getfield 40, 3) := by decide +kernel
theorem dF_feedForm_7 : decode cF_feedForm 7 = .ok (.iconst 1, 1) := by decide +kernel
theorem dF_feedForm_8 : decode cF_feedForm 8 = .ok (.iaload, 1) := by decide +kernel
theorem dF_feedForm_9 : decode cF_feedForm 9 = .ok (.iadd, 1) := by decide +kernel
theorem dF_feedForm_10 : decode cF_feedForm 10 = .ok (.istore_n 1, 1) := by decide +kernel
theorem dF_feedForm_11 : decode cF_feedForm 11 = .ok (.aload_n 0, 1) := by decide +kernel
theorem dF_feedForm_12 : decode cF_feedForm 12 = .ok (.getfield 40, 3) := by decide +kernel
theorem dF_feedForm_15 : decode cF_feedForm 15 = .ok (.iconst 1, 1) := by decide +kernel
theorem dF_feedForm_16 : decode cF_feedForm 16 = .ok (.iaload, 1) := by decide +kernel
theorem dF_feedForm_17 : decode cF_feedForm 17 = .ok (.sipush 300, 3) := by decide +kernel
theorem dF_feedForm_20 : decode cF_feedForm 20 = .ok (.if_icmp .ge 31, 3) := by decide +kernel
theorem dF_feedForm_23 : decode cF_feedForm 23 = .ok (.aload_n 0, 1) := by decide +kernel
theorem dF_feedForm_24 : decode cF_feedForm 24 = .ok (.getfield 47, 3) := by decide +kernel
theorem dF_feedForm_27 : decode cF_feedForm 27 = .ok (.bipush 120, 2) := by decide +kernel
theorem dF_feedForm_29 : decode cF_feedForm 29 = .ok (.iload_n 1, 1) := by decide +kernel
theorem dF_feedForm_30 : decode cF_feedForm 30 = .ok (.imul, 1) := by decide +kernel
theorem dF_feedForm_31 : decode cF_feedForm 31 = .ok (.bipush 12, 2) := by decide +kernel
theorem dF_feedForm_33 : decode cF_feedForm 33 = .ok (.bastore, 1) := by decide +kernel
theorem dF_feedForm_34 : decode cF_feedForm 34 = .ok (.aload_n 0, 1) := by decide +kernel
theorem dF_feedForm_35 : decode cF_feedForm 35 = .ok (.getfield 43, 3) := by decide +kernel
theorem dF_feedForm_38 : decode cF_feedForm 38 = .ok (.iload_n 1, 1) := by decide +kernel
theorem dF_feedForm_39 : decode cF_feedForm 39 = .ok (.iconst 1, 1) := by decide +kernel
theorem dF_feedForm_40 : decode cF_feedForm 40 = .ok (.iastore, 1) := by decide +kernel
theorem dF_feedForm_41 : decode cF_feedForm 41 = .ok (.aload_n 0, 1) := by decide +kernel
theorem dF_feedForm_42 : decode cF_feedForm 42 = .ok (.getfield 40, 3) := by decide +kernel
theorem dF_feedForm_45 : decode cF_feedForm 45 = .ok (.iconst 1, 1) := by decide +kernel
theorem dF_feedForm_46 : decode cF_feedForm 46 = .ok (.dup2, 1) := by decide +kernel
theorem dF_feedForm_47 : decode cF_feedForm 47 = .ok (.iaload, 1) := by decide +kernel
theorem dF_feedForm_48 : decode cF_feedForm 48 = .ok (.iconst 1, 1) := by decide +kernel
theorem dF_feedForm_49 : decode cF_feedForm 49 = .ok (.iadd, 1) := by decide +kernel
theorem dF_feedForm_50 : decode cF_feedForm 50 = .ok (.iastore, 1) := by decide +kernel
theorem dF_feedForm_51 : decode cF_feedForm 51 = .ok (.return_, 1) := by decide +kernel
abbrev rmkF_ff : Room := { frames := 0, cells := 0, slots := 0, locals := 0 }
set_option maxHeartbeats 4000000 in
set_option maxRecDepth 100000 in
theorem kF_ff (l : Launch) (D : va_G) (E : ur_Ev) (h : ur_M) (q : Nat) (b1 : Nat) (b2 : Nat) (b3 : Nat) (b4 : Nat) (b5 : Nat) (b6 : Nat) (b7 : Nat) (b8 : Nat) (b9 : Nat) (b10 : Nat) (b11 : Nat) (b12 : Nat) (b13 : Nat) (b14 : Nat) (ti : Int64) (ops : Int32) (cds : Int32) (tsz : Int32) (kn : Nat) (g_letters : Nat → Int32) (g_lengths : Nat → Int32) (g_lines : Nat → Int32) (f0 : h q = some (.inr (7, [.ref b1, .ref b2, .ref b3, .long ti, .ref b4, .ref b5, .ref b6, .ref b7, .int ops, .ref b8, .int cds, .ref b9, .ref b10, .ref b11, .ref b12, .ref b13, .int tsz, .ref b14]))) (f1 : h b12 = some (.inl (E.1 1, 108000, .inl g_letters))) (f2 : h b11 = some (.inl (E.1 0, 900, .inl g_lengths))) (f3 : h b10 = some (.inl (E.1 0, 3, .inl g_lines))) (h1 : g_lines 1 = nI kn) (hk : kn < 300) : ur_Mv l yF_feedForm wsF_feedForm rmkF_ff D vwCl (ur_v E) [.ref q] h (fun h2 => h2 = va_up (va_up (va_up h b12 (some (.inl (E.1 1, 108000, .inl (upd g_letters (120 * (300 + kn)) (vp_nar .byte 12)))))) b11 (some (.inl (E.1 0, 900, .inl (upd g_lengths (300 + kn) 1))))) b10 (some (.inl (E.1 0, 3, .inl (upd g_lines 1 (nI (kn + 1))))))) 0 0 := by
  intro sz
  refine ur_of (cc := cF_feedForm) (maxL := 2) (ret := none) (by decide) rfl (Nat.le_of_ble_eq_true rfl) ?_
  intro p e s m args below meth c ls Q hsz hx hb hml hr hlocks hnm hown hts hO hK hI hQ hl
  subst hsz
  have hV := hK.1
  have hts : ∀ w ∈ ur_G, w.before args s = true := fun w hw => hts w (List.mem_cons_of_mem _ hw)
  have hZ : ur_Z E (ur_A h s.heap.size) s s.heap := hO.1
  have hown : s.vm.findClass "UnitRoomModel" = some m.cls := hown
  have hl : lv_has ls 2 [(0, .ref q)] := hl
  refine lv_sipush (v := 300) hx hb dF_feedForm_0 (by decide) ?_
  refine lv_aload_n hx hb dF_feedForm_3 rfl (lv_at hl 0 rfl) ?_
  refine va_get (D := D) (ci := 7) (v := .ref b10) (C := "UnitRoomModel") (T := TF) (N := 18) hx hb hts inF hown hV (ur_one hI.1 f0) 0 rfl rfl 12 (by decide) (hts _ mw589) (fun _ h9 => h9) rfl dF_feedForm_4 ?_
  refine lv_iconst (v := 1) hx hb dF_feedForm_7 (by decide) ?_
  refine va_iald hx hb hV (ur_one hI.1 f3) 0 0 rfl rfl (vp_in_nI (n := 1) (by decide) (by decide)) dF_feedForm_8 ?_
  rw [show Int32.toNatClampNeg 1 = 1 from rfl, h1]
  refine lv_iadd hx hb dF_feedForm_9 ?_
  rw [fo_300]
  refine lv_istore_n (lv' := [(1, .int (nI (300 + kn))), (0, .ref q)]) hx hb dF_feedForm_10 rfl hl (by decide) rfl (fun ls hl => ?_)
  refine lv_aload_n hx hb dF_feedForm_11 rfl (lv_at hl 1 rfl) ?_
  refine va_get (D := D) (ci := 7) (v := .ref b10) (C := "UnitRoomModel") (T := TF) (N := 18) hx hb hts inF hown hV (ur_one hI.1 f0) 0 rfl rfl 12 (by decide) (hts _ mw589) (fun _ h9 => h9) rfl dF_feedForm_12 ?_
  refine lv_iconst (v := 1) hx hb dF_feedForm_15 (by decide) ?_
  refine va_iald hx hb hV (ur_one hI.1 f3) 0 0 rfl rfl (vp_in_nI (n := 1) (by decide) (by decide)) dF_feedForm_16 ?_
  rw [show Int32.toNatClampNeg 1 = 1 from rfl, h1]
  refine lv_sipush (v := 300) hx hb dF_feedForm_17 (by decide) ?_
  refine lv_icmp_ge (tgt := 51) hx hb dF_feedForm_20 (by decide) (fun c1 => absurd c1 (nI_ge (b := 300) hk (by decide))) (fun c1 => ?_)
  refine lv_aload_n hx hb dF_feedForm_23 rfl (lv_at hl 1 rfl) ?_
  refine va_get (D := D) (ci := 7) (v := .ref b12) (C := "UnitRoomModel") (T := TF) (N := 18) hx hb hts inF hown hV (ur_one hI.1 f0) 0 rfl rfl 14 (by decide) (hts _ mw591) (fun _ h9 => h9) rfl dF_feedForm_24 ?_
  refine lv_bipush (v := 120) hx hb dF_feedForm_27 (by decide) ?_
  refine lv_iload_n hx hb dF_feedForm_29 rfl (lv_at hl 0 rfl) ?_
  refine lv_imul hx hb dF_feedForm_30 ?_
  refine lv_bipush (v := 12) hx hb dF_feedForm_31 (by decide) ?_
  refine ur_bast hx hb hV hI 1 f1 rfl (by rw [fo_120]; exact vp_in_nI (by omega) (by decide)) dF_feedForm_33 (fun H locs hI => ?_)
  obtain ⟨h2, eh2⟩ : ∃ z : ur_M, z = va_up h b12 (some (.inl (E.1 1, 108000, .inl (upd g_letters (Int32.toNatClampNeg (120 * (nI (300 + kn)))) (vp_nar .byte 12))))) := ⟨_, rfl⟩
  replace hI : ur_I D vwCl (ur_A h s.heap.size) s.heap h2 H locs := by rw [eh2]; exact hI
  have fq3 : h2 q = some (.inr (7, [.ref b1, .ref b2, .ref b3, .long ti, .ref b4, .ref b5, .ref b6, .ref b7, .int ops, .ref b8, .int cds, .ref b9, .ref b10, .ref b11, .ref b12, .ref b13, .int tsz, .ref b14])) := by rw [eh2]; exact ((va_up_ne _ _ (ur_ne f0 f1 (by intro z; simp at z))).trans f0)
  have fq4 : h2 b12 = some (.inl (E.1 1, 108000, .inl (upd g_letters (Int32.toNatClampNeg (120 * (nI (300 + kn)))) (vp_nar .byte 12)))) := by rw [eh2]; exact (va_up_self _ _ _)
  have fq5 : h2 b11 = some (.inl (E.1 0, 900, .inl g_lengths)) := by rw [eh2]; exact ((va_up_ne _ _ (ur_ne f2 f1 (by intro z; simp at z))).trans f2)
  have fq6 : h2 b10 = some (.inl (E.1 0, 3, .inl g_lines)) := by rw [eh2]; exact ((va_up_ne _ _ (ur_ne f3 f1 (by intro z; simp at z))).trans f3)
  refine lv_aload_n hx hb dF_feedForm_34 rfl (lv_at hl 1 rfl) ?_
  refine va_get (D := D) (ci := 7) (v := .ref b11) (C := "UnitRoomModel") (T := TF) (N := 18) hx hb hts inF hown hV (ur_one hI.1 fq3) 0 rfl rfl 13 (by decide) (hts _ mw590) (fun _ h9 => h9) rfl dF_feedForm_35 ?_
  refine lv_iload_n hx hb dF_feedForm_38 rfl (lv_at hl 0 rfl) ?_
  refine lv_iconst (v := 1) hx hb dF_feedForm_39 (by decide) ?_
  refine ur_iast hx hb hV hI 0 fq5 rfl (vp_in_nI (by omega) (by decide)) dF_feedForm_40 (fun H locs hI => ?_)
  obtain ⟨h7, eh7⟩ : ∃ z : ur_M, z = va_up h2 b11 (some (.inl (E.1 0, 900, .inl (upd g_lengths (Int32.toNatClampNeg (nI (300 + kn))) 1)))) := ⟨_, rfl⟩
  replace hI : ur_I D vwCl (ur_A h s.heap.size) s.heap h7 H locs := by rw [eh7]; exact hI
  have fq8 : h7 q = some (.inr (7, [.ref b1, .ref b2, .ref b3, .long ti, .ref b4, .ref b5, .ref b6, .ref b7, .int ops, .ref b8, .int cds, .ref b9, .ref b10, .ref b11, .ref b12, .ref b13, .int tsz, .ref b14])) := by rw [eh7]; exact ((va_up_ne _ _ (ur_ne fq3 fq5 (by intro z; simp at z))).trans fq3)
  have fq9 : h7 b12 = some (.inl (E.1 1, 108000, .inl (upd g_letters (Int32.toNatClampNeg (120 * (nI (300 + kn)))) (vp_nar .byte 12)))) := by rw [eh7]; exact ((va_up_ne _ _ (ur_ne fq4 fq5 (by intro z; simp at z))).trans fq4)
  have fq10 : h7 b11 = some (.inl (E.1 0, 900, .inl (upd g_lengths (Int32.toNatClampNeg (nI (300 + kn))) 1))) := by rw [eh7]; exact (va_up_self _ _ _)
  have fq11 : h7 b10 = some (.inl (E.1 0, 3, .inl g_lines)) := by rw [eh7]; exact ((va_up_ne _ _ (ur_ne fq6 fq5 (by intro z; simp at z))).trans fq6)
  refine lv_aload_n hx hb dF_feedForm_41 rfl (lv_at hl 1 rfl) ?_
  refine va_get (D := D) (ci := 7) (v := .ref b10) (C := "UnitRoomModel") (T := TF) (N := 18) hx hb hts inF hown hV (ur_one hI.1 fq8) 0 rfl rfl 12 (by decide) (hts _ mw589) (fun _ h9 => h9) rfl dF_feedForm_42 ?_
  refine lv_iconst (v := 1) hx hb dF_feedForm_45 (by decide) ?_
  refine lv_dup2_11 hx hb dF_feedForm_46 rfl rfl ?_
  refine va_iald hx hb hV (ur_one hI.1 fq11) 0 0 rfl rfl (vp_in_nI (n := 1) (by decide) (by decide)) dF_feedForm_47 ?_
  rw [show Int32.toNatClampNeg 1 = 1 from rfl, h1]
  refine lv_iconst (v := 1) hx hb dF_feedForm_48 (by decide) ?_
  refine lv_iadd hx hb dF_feedForm_49 ?_
  refine ur_iast hx hb hV hI 0 fq11 rfl (vp_in_nI (n := 1) (by decide) (by decide)) dF_feedForm_50 (fun H locs hI => ?_)
  obtain ⟨h12, eh12⟩ : ∃ z : ur_M, z = va_up h7 b10 (some (.inl (E.1 0, 3, .inl (upd g_lines (Int32.toNatClampNeg 1) ((nI kn) + 1))))) := ⟨_, rfl⟩
  replace hI : ur_I D vwCl (ur_A h s.heap.size) s.heap h12 H locs := by rw [eh12]; exact hI
  have fq13 : h12 q = some (.inr (7, [.ref b1, .ref b2, .ref b3, .long ti, .ref b4, .ref b5, .ref b6, .ref b7, .int ops, .ref b8, .int cds, .ref b9, .ref b10, .ref b11, .ref b12, .ref b13, .int tsz, .ref b14])) := by rw [eh12]; exact ((va_up_ne _ _ (ur_ne fq8 fq11 (by intro z; simp at z))).trans fq8)
  have fq14 : h12 b12 = some (.inl (E.1 1, 108000, .inl (upd g_letters (Int32.toNatClampNeg (120 * (nI (300 + kn)))) (vp_nar .byte 12)))) := by rw [eh12]; exact ((va_up_ne _ _ (ur_ne fq9 fq11 (by intro z; simp at z))).trans fq9)
  have fq15 : h12 b11 = some (.inl (E.1 0, 900, .inl (upd g_lengths (Int32.toNatClampNeg (nI (300 + kn))) 1))) := by rw [eh12]; exact ((va_up_ne _ _ (ur_ne fq10 fq11 (by intro z; simp at z))).trans fq10)
  have fq16 : h12 b10 = some (.inl (E.1 0, 3, .inl (upd g_lines (Int32.toNatClampNeg 1) ((nI kn) + 1)))) := by rw [eh12]; exact (va_up_self _ _ _)
  exact ur_rv hx hb hr hlocks hI hQ (by rw [eh12, eh7, eh2, fo_120, nI_clamp (show 120 * (300 + kn) < 2 ^ 31 by omega), nI_clamp (show 300 + kn < 2 ^ 31 by omega), nI_1]; rfl) dF_feedForm_51
abbrev rmkF_ffF : Room := { frames := 0, cells := 0, slots := 0, locals := 0 }
set_option maxHeartbeats 4000000 in
set_option maxRecDepth 100000 in
theorem kF_ffF (l : Launch) (D : va_G) (E : ur_Ev) (h : ur_M) (q : Nat) (b1 : Nat) (b2 : Nat) (b3 : Nat) (b4 : Nat) (b5 : Nat) (b6 : Nat) (b7 : Nat) (b8 : Nat) (b9 : Nat) (b10 : Nat) (b11 : Nat) (b12 : Nat) (b13 : Nat) (b14 : Nat) (ti : Int64) (ops : Int32) (cds : Int32) (tsz : Int32) (kn : Nat) (g_letters : Nat → Int32) (g_lengths : Nat → Int32) (g_lines : Nat → Int32) (f0 : h q = some (.inr (7, [.ref b1, .ref b2, .ref b3, .long ti, .ref b4, .ref b5, .ref b6, .ref b7, .int ops, .ref b8, .int cds, .ref b9, .ref b10, .ref b11, .ref b12, .ref b13, .int tsz, .ref b14]))) (f1 : h b12 = some (.inl (E.1 1, 108000, .inl g_letters))) (f2 : h b11 = some (.inl (E.1 0, 900, .inl g_lengths))) (f3 : h b10 = some (.inl (E.1 0, 3, .inl g_lines))) (h1 : g_lines 1 = nI kn) (hk : kn = 300) : ur_Mv l yF_feedForm wsF_feedForm rmkF_ffF D vwCl (ur_v E) [.ref q] h (fun h2 => h2 = h) 0 0 := by
  intro sz
  refine ur_of (cc := cF_feedForm) (maxL := 2) (ret := none) (by decide) rfl (Nat.le_of_ble_eq_true rfl) ?_
  intro p e s m args below meth c ls Q hsz hx hb hml hr hlocks hnm hown hts hO hK hI hQ hl
  subst hsz
  have hV := hK.1
  have hts : ∀ w ∈ ur_G, w.before args s = true := fun w hw => hts w (List.mem_cons_of_mem _ hw)
  have hZ : ur_Z E (ur_A h s.heap.size) s s.heap := hO.1
  have hown : s.vm.findClass "UnitRoomModel" = some m.cls := hown
  have hl : lv_has ls 2 [(0, .ref q)] := hl
  refine lv_sipush (v := 300) hx hb dF_feedForm_0 (by decide) ?_
  refine lv_aload_n hx hb dF_feedForm_3 rfl (lv_at hl 0 rfl) ?_
  refine va_get (D := D) (ci := 7) (v := .ref b10) (C := "UnitRoomModel") (T := TF) (N := 18) hx hb hts inF hown hV (ur_one hI.1 f0) 0 rfl rfl 12 (by decide) (hts _ mw589) (fun _ h9 => h9) rfl dF_feedForm_4 ?_
  refine lv_iconst (v := 1) hx hb dF_feedForm_7 (by decide) ?_
  refine va_iald hx hb hV (ur_one hI.1 f3) 0 0 rfl rfl (vp_in_nI (n := 1) (by decide) (by decide)) dF_feedForm_8 ?_
  rw [show Int32.toNatClampNeg 1 = 1 from rfl, h1]
  refine lv_iadd hx hb dF_feedForm_9 ?_
  refine lv_istore_n (lv' := [(1, .int (300 + (nI kn))), (0, .ref q)]) hx hb dF_feedForm_10 rfl hl (by decide) rfl (fun ls hl => ?_)
  refine lv_aload_n hx hb dF_feedForm_11 rfl (lv_at hl 1 rfl) ?_
  refine va_get (D := D) (ci := 7) (v := .ref b10) (C := "UnitRoomModel") (T := TF) (N := 18) hx hb hts inF hown hV (ur_one hI.1 f0) 0 rfl rfl 12 (by decide) (hts _ mw589) (fun _ h9 => h9) rfl dF_feedForm_12 ?_
  refine lv_iconst (v := 1) hx hb dF_feedForm_15 (by decide) ?_
  refine va_iald hx hb hV (ur_one hI.1 f3) 0 0 rfl rfl (vp_in_nI (n := 1) (by decide) (by decide)) dF_feedForm_16 ?_
  rw [show Int32.toNatClampNeg 1 = 1 from rfl, h1]
  refine lv_sipush (v := 300) hx hb dF_feedForm_17 (by decide) ?_
  refine lv_icmp_ge (tgt := 51) hx hb dF_feedForm_20 (by decide) (fun c1 => ?_) (fun c1 => absurd c1 (not_not_intro (by rw [hk]; decide)))
  exact ur_rv hx hb hr hlocks hI hQ rfl dF_feedForm_51
theorem dF_control_0 : decode cF_control 0 = .ok (.iload_n 1, 1) := by decide +kernel
theorem dF_control_1 : decode cF_control 1 = .ok (.iconst 4, 1) := by decide +kernel
theorem dF_control_2 : decode cF_control 2 = .ok (.if_icmp .ge 56, 3) := by decide +kernel
theorem dF_control_5 : decode cF_control 5 = .ok (.iload_n 2, 1) := by decide +kernel
theorem dF_control_6 : decode cF_control 6 = .ok (.ifCond .ne 7, 3) := by decide +kernel
theorem dF_control_9 : decode cF_control 9 = .ok (.lconst 0, 1) := by decide +kernel
theorem dF_control_10 : decode cF_control 10 = .ok (.goto 13, 3) := by decide +kernel
theorem dF_control_13 : decode cF_control 13 = .ok (.aload_n 0, 1) := by decide +kernel
theorem dF_control_14 : decode cF_control 14 = .ok (.getfield 17, 3) := by decide +kernel
theorem dF_control_17 : decode cF_control 17 = .ok (.iload_n 1, 1) := by decide +kernel
theorem dF_control_18 : decode cF_control 18 = .ok (.iaload, 1) := by decide +kernel
theorem dF_control_19 : decode cF_control 19 = .ok (.i2l, 1) := by decide +kernel
theorem dF_control_20 : decode cF_control 20 = .ok (.iload_n 2, 1) := by decide +kernel
theorem dF_control_21 : decode cF_control 21 = .ok (.i2l, 1) := by decide +kernel
theorem dF_control_22 : decode cF_control 22 = .ok (.ladd, 1) := by decide +kernel
theorem dF_control_23 : decode cF_control 23 = .ok (.lstore_n 3, 1) := by decide +kernel
theorem dF_control_24 : decode cF_control 24 = .ok (.aload_n 0, 1) := by decide +kernel
theorem dF_control_25 : decode cF_control 25 = .ok (.getfield 17, 3) := by decide +kernel
theorem dF_control_28 : decode cF_control 28 = .ok (.iload_n 1, 1) := by decide +kernel
theorem dF_control_29 : decode cF_control 29 = .ok (.lload_n 3, 1) := by decide +kernel
theorem dF_control_30 : decode cF_control 30 = .ok (.lconst 0, 1) := by decide +kernel
theorem dF_control_31 : decode cF_control 31 = .ok (.lcmp, 1) := by decide +kernel
theorem dF_control_32 : decode cF_control 32 = .ok (.ifCond .ge 7, 3) := by decide +kernel
theorem dF_control_35 : decode cF_control 35 = .ok (.iconst 0, 1) := by decide +kernel
theorem dF_control_36 : decode cF_control 36 = .ok (.goto 18, 3) := by decide +kernel
theorem dF_control_39 : decode cF_control 39 = .ok (.lload_n 3, 1) := by decide +kernel
theorem dF_control_40 : decode cF_control 40 = .ok (.ldc2_w 97, 3) := by decide +kernel
theorem dF_control_43 : decode cF_control 43 = .ok (.lcmp, 1) := by decide +kernel
theorem dF_control_44 : decode cF_control 44 = .ok (.ifCond .le 8, 3) := by decide +kernel
theorem dF_control_47 : decode cF_control 47 = .ok (.bipush 64, 2) := by decide +kernel
theorem dF_control_49 : decode cF_control 49 = .ok (.goto 5, 3) := by decide +kernel
theorem dF_control_52 : decode cF_control 52 = .ok (.lload_n 3, 1) := by decide +kernel
theorem dF_control_53 : decode cF_control 53 = .ok (.l2i, 1) := by decide +kernel
theorem dF_control_54 : decode cF_control 54 = .ok (.iastore, 1) := by decide +kernel
theorem dF_control_55 : decode cF_control 55 = .ok (.goto 13, 3) := by decide +kernel
theorem dF_control_58 : decode cF_control 58 = .ok (.iload_n 1, 1) := by decide +kernel
theorem dF_control_59 : decode cF_control 59 = .ok (.bipush 8, 2) := by decide +kernel
theorem dF_control_61 : decode cF_control 61 = .ok (.if_icmp .ne 7, 3) := by decide +kernel
theorem dF_control_64 : decode cF_control 64 = .ok (.aload_n 0, 1) := by decide +kernel
theorem dF_control_65 : decode cF_control 65 = .ok (.invokevirtual 99, 3) := by decide +kernel
theorem dF_control_68 : decode cF_control 68 = .ok (.return_, 1) := by decide +kernel
abbrev rmkF_ctl4 : Room := { frames := 0, cells := 0, slots := 0, locals := 0 }
set_option maxHeartbeats 4000000 in
set_option maxRecDepth 100000 in
theorem kF_ctl4 (l : Launch) (D : va_G) (E : ur_Ev) (h : ur_M) (q : Nat) (b1 : Nat) (b2 : Nat) (b3 : Nat) (b4 : Nat) (b5 : Nat) (b6 : Nat) (b7 : Nat) (b8 : Nat) (b9 : Nat) (b10 : Nat) (b11 : Nat) (b12 : Nat) (b13 : Nat) (b14 : Nat) (ti : Int64) (ops : Int32) (cds : Int32) (tsz : Int32) (pn : Nat) (mv : Int32) (g_stands : Nat → Int32) (f0 : h q = some (.inr (7, [.ref b1, .ref b2, .ref b3, .long ti, .ref b4, .ref b5, .ref b6, .ref b7, .int ops, .ref b8, .int cds, .ref b9, .ref b10, .ref b11, .ref b12, .ref b13, .int tsz, .ref b14]))) (f1 : h b3 = some (.inl (E.1 0, 4, .inl g_stands))) (hp : pn < 4) : ur_Mv l yF_control wsF_control rmkF_ctl4 D vwCl (ur_v E) [.ref q, .int (nI pn), .int mv] h (fun h2 => h2 = va_up h b3 (some (.inl (E.1 0, 4, .inl (upd g_stands pn (fo_ps (g_stands pn) mv)))))) 0 0 := by
  intro sz
  refine ur_of (cc := cF_control) (maxL := 5) (ret := none) (by decide) rfl (Nat.le_of_ble_eq_true rfl) ?_
  intro p e s m args below meth c ls Q hsz hx hb hml hr hlocks hnm hown hts hO hK hI hQ hl
  subst hsz
  have hV := hK.1
  have hts : ∀ w ∈ ur_G, w.before args s = true := fun w hw => hts w (List.mem_cons_of_mem _ hw)
  have hZ : ur_Z E (ur_A h s.heap.size) s s.heap := hO.1
  have hown : s.vm.findClass "UnitRoomModel" = some m.cls := hown
  have hl : lv_has ls 5 [(0, .ref q), (1, .int (nI pn)), (2, .int mv)] := hl
  refine lv_iload_n hx hb dF_control_0 rfl (lv_at hl 1 rfl) ?_
  refine lv_iconst (v := 4) hx hb dF_control_1 (by decide) ?_
  refine lv_icmp_ge (tgt := 58) hx hb dF_control_2 (by decide) (fun c1 => absurd c1 (nI_ge (b := 4) hp (by decide))) (fun c1 => ?_)
  refine lv_iload_n hx hb dF_control_5 rfl (lv_at hl 2 rfl) ?_
  refine lv_if_ne (tgt := 13) hx hb dF_control_6 (by decide) (fun c2 => ?_) (fun c2 => ?_)
  · refine lv_aload_n hx hb dF_control_13 rfl (lv_at hl 0 rfl) ?_
    refine va_get (D := D) (ci := 7) (v := .ref b3) (C := "UnitRoomModel") (T := TF) (N := 18) hx hb hts inF hown hV (ur_one hI.1 f0) 0 rfl rfl 2 (by decide) (hts _ mw579) (fun _ h9 => h9) rfl dF_control_14 ?_
    refine lv_iload_n hx hb dF_control_17 rfl (lv_at hl 1 rfl) ?_
    refine va_iald hx hb hV (ur_one hI.1 f1) 0 0 rfl rfl (vp_in_nI hp (by decide)) dF_control_18 ?_
    refine lv_i2l hx hb dF_control_19 rfl ?_
    refine lv_iload_n hx hb dF_control_20 rfl (lv_at hl 2 rfl) ?_
    refine lv_i2l hx hb dF_control_21 rfl ?_
    refine lv_ladd hx hb dF_control_22 ?_
    refine lv_topl (fun x9 ex9 => ?_)
    replace ex9 : x9 = fo_a (g_stands pn) mv := by rw [ex9]; unfold fo_a; rw [if_neg c2]; rw [nI_clamp (by omega)]
    subst ex9
    refine lv_lstore_n (lv' := [(3, .long (fo_a (g_stands pn) mv)), (0, .ref q), (1, .int (nI pn)), (2, .int mv)]) hx hb dF_control_23 rfl hl (by decide) rfl (fun ls hl => ?_)
    refine lv_aload_n hx hb dF_control_24 rfl (lv_at hl 1 rfl) ?_
    refine va_get (D := D) (ci := 7) (v := .ref b3) (C := "UnitRoomModel") (T := TF) (N := 18) hx hb hts inF hown hV (ur_one hI.1 f0) 0 rfl rfl 2 (by decide) (hts _ mw579) (fun _ h9 => h9) rfl dF_control_25 ?_
    refine lv_iload_n hx hb dF_control_28 rfl (lv_at hl 2 rfl) ?_
    refine lv_lload_n hx hb dF_control_29 rfl (lv_at hl 0 rfl) ?_
    refine lv_lconst (v := 0) hx hb dF_control_30 (by decide) ?_
    refine W.lcmp hx hb dF_control_31 ?_
    refine lv_if_ge (tgt := 39) hx hb dF_control_32 (by decide) (fun c3 => ?_) (fun c3 => ?_)
    · refine lv_lload_n hx hb dF_control_39 rfl (lv_at hl 0 rfl) ?_
      refine lv_ldc2 (v := 64) hx hb hown (hts _ mw697) dF_control_40 ?_
      refine W.lcmp hx hb dF_control_43 ?_
      refine lv_if_le (tgt := 52) hx hb dF_control_44 (by decide) (fun c4 => ?_) (fun c4 => ?_)
      · refine lv_lload_n hx hb dF_control_52 rfl (lv_at hl 0 rfl) ?_
        refine lv_l2i hx hb dF_control_53 rfl ?_
        refine ur_iast hx hb hV hI 0 f1 rfl (vp_in_nI hp (by decide)) dF_control_54 (fun H locs hI => ?_)
        obtain ⟨h5, eh5⟩ : ∃ z : ur_M, z = va_up h b3 (some (.inl (E.1 0, 4, .inl (upd g_stands (Int32.toNatClampNeg (nI pn)) ((fo_a (g_stands pn) mv).toInt32))))) := ⟨_, rfl⟩
        replace hI : ur_I D vwCl (ur_A h s.heap.size) s.heap h5 H locs := by rw [eh5]; exact hI
        have fq6 : h5 q = some (.inr (7, [.ref b1, .ref b2, .ref b3, .long ti, .ref b4, .ref b5, .ref b6, .ref b7, .int ops, .ref b8, .int cds, .ref b9, .ref b10, .ref b11, .ref b12, .ref b13, .int tsz, .ref b14])) := by rw [eh5]; exact ((va_up_ne _ _ (ur_ne f0 f1 (by intro z; simp at z))).trans f0)
        have fq7 : h5 b3 = some (.inl (E.1 0, 4, .inl (upd g_stands (Int32.toNatClampNeg (nI pn)) ((fo_a (g_stands pn) mv).toInt32)))) := by rw [eh5]; exact (va_up_self _ _ _)
        refine lv_goto (tgt := 68) hx hb dF_control_55 (by decide) ?_
        exact ur_rv hx hb hr hlocks hI hQ (by rw [eh5, nI_clamp (show pn < 2 ^ 31 by omega)]; unfold fo_ps; rw [if_pos c3, if_pos c4]) dF_control_68
      · refine lv_bipush (v := 64) hx hb dF_control_47 (by decide) ?_
        refine lv_goto (tgt := 54) hx hb dF_control_49 (by decide) ?_
        refine ur_iast hx hb hV hI 0 f1 rfl (vp_in_nI hp (by decide)) dF_control_54 (fun H locs hI => ?_)
        obtain ⟨h8, eh8⟩ : ∃ z : ur_M, z = va_up h b3 (some (.inl (E.1 0, 4, .inl (upd g_stands (Int32.toNatClampNeg (nI pn)) 64)))) := ⟨_, rfl⟩
        replace hI : ur_I D vwCl (ur_A h s.heap.size) s.heap h8 H locs := by rw [eh8]; exact hI
        have fq9 : h8 q = some (.inr (7, [.ref b1, .ref b2, .ref b3, .long ti, .ref b4, .ref b5, .ref b6, .ref b7, .int ops, .ref b8, .int cds, .ref b9, .ref b10, .ref b11, .ref b12, .ref b13, .int tsz, .ref b14])) := by rw [eh8]; exact ((va_up_ne _ _ (ur_ne f0 f1 (by intro z; simp at z))).trans f0)
        have fq10 : h8 b3 = some (.inl (E.1 0, 4, .inl (upd g_stands (Int32.toNatClampNeg (nI pn)) 64))) := by rw [eh8]; exact (va_up_self _ _ _)
        refine lv_goto (tgt := 68) hx hb dF_control_55 (by decide) ?_
        exact ur_rv hx hb hr hlocks hI hQ (by rw [eh8, nI_clamp (show pn < 2 ^ 31 by omega)]; unfold fo_ps; rw [if_pos c3, if_neg c4]) dF_control_68
    · refine lv_iconst (v := 0) hx hb dF_control_35 (by decide) ?_
      refine lv_goto (tgt := 54) hx hb dF_control_36 (by decide) ?_
      refine ur_iast hx hb hV hI 0 f1 rfl (vp_in_nI hp (by decide)) dF_control_54 (fun H locs hI => ?_)
      obtain ⟨h11, eh11⟩ : ∃ z : ur_M, z = va_up h b3 (some (.inl (E.1 0, 4, .inl (upd g_stands (Int32.toNatClampNeg (nI pn)) 0)))) := ⟨_, rfl⟩
      replace hI : ur_I D vwCl (ur_A h s.heap.size) s.heap h11 H locs := by rw [eh11]; exact hI
      have fq12 : h11 q = some (.inr (7, [.ref b1, .ref b2, .ref b3, .long ti, .ref b4, .ref b5, .ref b6, .ref b7, .int ops, .ref b8, .int cds, .ref b9, .ref b10, .ref b11, .ref b12, .ref b13, .int tsz, .ref b14])) := by rw [eh11]; exact ((va_up_ne _ _ (ur_ne f0 f1 (by intro z; simp at z))).trans f0)
      have fq13 : h11 b3 = some (.inl (E.1 0, 4, .inl (upd g_stands (Int32.toNatClampNeg (nI pn)) 0))) := by rw [eh11]; exact (va_up_self _ _ _)
      refine lv_goto (tgt := 68) hx hb dF_control_55 (by decide) ?_
      exact ur_rv hx hb hr hlocks hI hQ (by rw [eh11, nI_clamp (show pn < 2 ^ 31 by omega)]; unfold fo_ps; rw [if_neg c3]) dF_control_68
  · refine lv_lconst (v := 0) hx hb dF_control_9 (by decide) ?_
    refine lv_goto (tgt := 23) hx hb dF_control_10 (by decide) ?_
    refine lv_topl (fun x9 ex9 => ?_)
    replace ex9 : x9 = fo_a (g_stands pn) mv := by rw [ex9]; unfold fo_a; rw [if_pos c2]
    subst ex9
    refine lv_lstore_n (lv' := [(3, .long (fo_a (g_stands pn) mv)), (0, .ref q), (1, .int (nI pn)), (2, .int mv)]) hx hb dF_control_23 rfl hl (by decide) rfl (fun ls hl => ?_)
    refine lv_aload_n hx hb dF_control_24 rfl (lv_at hl 1 rfl) ?_
    refine va_get (D := D) (ci := 7) (v := .ref b3) (C := "UnitRoomModel") (T := TF) (N := 18) hx hb hts inF hown hV (ur_one hI.1 f0) 0 rfl rfl 2 (by decide) (hts _ mw579) (fun _ h9 => h9) rfl dF_control_25 ?_
    refine lv_iload_n hx hb dF_control_28 rfl (lv_at hl 2 rfl) ?_
    refine lv_lload_n hx hb dF_control_29 rfl (lv_at hl 0 rfl) ?_
    refine lv_lconst (v := 0) hx hb dF_control_30 (by decide) ?_
    refine W.lcmp hx hb dF_control_31 ?_
    refine lv_if_ge (tgt := 39) hx hb dF_control_32 (by decide) (fun c14 => ?_) (fun c14 => ?_)
    · refine lv_lload_n hx hb dF_control_39 rfl (lv_at hl 0 rfl) ?_
      refine lv_ldc2 (v := 64) hx hb hown (hts _ mw697) dF_control_40 ?_
      refine W.lcmp hx hb dF_control_43 ?_
      refine lv_if_le (tgt := 52) hx hb dF_control_44 (by decide) (fun c15 => ?_) (fun c15 => ?_)
      · refine lv_lload_n hx hb dF_control_52 rfl (lv_at hl 0 rfl) ?_
        refine lv_l2i hx hb dF_control_53 rfl ?_
        refine ur_iast hx hb hV hI 0 f1 rfl (vp_in_nI hp (by decide)) dF_control_54 (fun H locs hI => ?_)
        obtain ⟨h16, eh16⟩ : ∃ z : ur_M, z = va_up h b3 (some (.inl (E.1 0, 4, .inl (upd g_stands (Int32.toNatClampNeg (nI pn)) ((fo_a (g_stands pn) mv).toInt32))))) := ⟨_, rfl⟩
        replace hI : ur_I D vwCl (ur_A h s.heap.size) s.heap h16 H locs := by rw [eh16]; exact hI
        have fq17 : h16 q = some (.inr (7, [.ref b1, .ref b2, .ref b3, .long ti, .ref b4, .ref b5, .ref b6, .ref b7, .int ops, .ref b8, .int cds, .ref b9, .ref b10, .ref b11, .ref b12, .ref b13, .int tsz, .ref b14])) := by rw [eh16]; exact ((va_up_ne _ _ (ur_ne f0 f1 (by intro z; simp at z))).trans f0)
        have fq18 : h16 b3 = some (.inl (E.1 0, 4, .inl (upd g_stands (Int32.toNatClampNeg (nI pn)) ((fo_a (g_stands pn) mv).toInt32)))) := by rw [eh16]; exact (va_up_self _ _ _)
        refine lv_goto (tgt := 68) hx hb dF_control_55 (by decide) ?_
        exact ur_rv hx hb hr hlocks hI hQ (by rw [eh16, nI_clamp (show pn < 2 ^ 31 by omega)]; unfold fo_ps; rw [if_pos c14, if_pos c15]) dF_control_68
      · refine lv_bipush (v := 64) hx hb dF_control_47 (by decide) ?_
        refine lv_goto (tgt := 54) hx hb dF_control_49 (by decide) ?_
        refine ur_iast hx hb hV hI 0 f1 rfl (vp_in_nI hp (by decide)) dF_control_54 (fun H locs hI => ?_)
        obtain ⟨h19, eh19⟩ : ∃ z : ur_M, z = va_up h b3 (some (.inl (E.1 0, 4, .inl (upd g_stands (Int32.toNatClampNeg (nI pn)) 64)))) := ⟨_, rfl⟩
        replace hI : ur_I D vwCl (ur_A h s.heap.size) s.heap h19 H locs := by rw [eh19]; exact hI
        have fq20 : h19 q = some (.inr (7, [.ref b1, .ref b2, .ref b3, .long ti, .ref b4, .ref b5, .ref b6, .ref b7, .int ops, .ref b8, .int cds, .ref b9, .ref b10, .ref b11, .ref b12, .ref b13, .int tsz, .ref b14])) := by rw [eh19]; exact ((va_up_ne _ _ (ur_ne f0 f1 (by intro z; simp at z))).trans f0)
        have fq21 : h19 b3 = some (.inl (E.1 0, 4, .inl (upd g_stands (Int32.toNatClampNeg (nI pn)) 64))) := by rw [eh19]; exact (va_up_self _ _ _)
        refine lv_goto (tgt := 68) hx hb dF_control_55 (by decide) ?_
        exact ur_rv hx hb hr hlocks hI hQ (by rw [eh19, nI_clamp (show pn < 2 ^ 31 by omega)]; unfold fo_ps; rw [if_pos c14, if_neg c15]) dF_control_68
    · refine lv_iconst (v := 0) hx hb dF_control_35 (by decide) ?_
      refine lv_goto (tgt := 54) hx hb dF_control_36 (by decide) ?_
      refine ur_iast hx hb hV hI 0 f1 rfl (vp_in_nI hp (by decide)) dF_control_54 (fun H locs hI => ?_)
      obtain ⟨h22, eh22⟩ : ∃ z : ur_M, z = va_up h b3 (some (.inl (E.1 0, 4, .inl (upd g_stands (Int32.toNatClampNeg (nI pn)) 0)))) := ⟨_, rfl⟩
      replace hI : ur_I D vwCl (ur_A h s.heap.size) s.heap h22 H locs := by rw [eh22]; exact hI
      have fq23 : h22 q = some (.inr (7, [.ref b1, .ref b2, .ref b3, .long ti, .ref b4, .ref b5, .ref b6, .ref b7, .int ops, .ref b8, .int cds, .ref b9, .ref b10, .ref b11, .ref b12, .ref b13, .int tsz, .ref b14])) := by rw [eh22]; exact ((va_up_ne _ _ (ur_ne f0 f1 (by intro z; simp at z))).trans f0)
      have fq24 : h22 b3 = some (.inl (E.1 0, 4, .inl (upd g_stands (Int32.toNatClampNeg (nI pn)) 0))) := by rw [eh22]; exact (va_up_self _ _ _)
      refine lv_goto (tgt := 68) hx hb dF_control_55 (by decide) ?_
      exact ur_rv hx hb hr hlocks hI hQ (by rw [eh22, nI_clamp (show pn < 2 ^ 31 by omega)]; unfold fo_ps; rw [if_neg c14]) dF_control_68
abbrev rmkF_ctlN : Room := { frames := 0, cells := 0, slots := 0, locals := 0 }
set_option maxHeartbeats 4000000 in
set_option maxRecDepth 100000 in
theorem kF_ctlN (l : Launch) (D : va_G) (E : ur_Ev) (h : ur_M) (q : Nat) (b1 : Nat) (b2 : Nat) (b3 : Nat) (b4 : Nat) (b5 : Nat) (b6 : Nat) (b7 : Nat) (b8 : Nat) (b9 : Nat) (b10 : Nat) (b11 : Nat) (b12 : Nat) (b13 : Nat) (b14 : Nat) (ti : Int64) (ops : Int32) (cds : Int32) (tsz : Int32) (pp : Int32) (mv : Int32) (f0 : h q = some (.inr (7, [.ref b1, .ref b2, .ref b3, .long ti, .ref b4, .ref b5, .ref b6, .ref b7, .int ops, .ref b8, .int cds, .ref b9, .ref b10, .ref b11, .ref b12, .ref b13, .int tsz, .ref b14]))) (hp : 4 ≤ pp) (hp8 : ¬ pp = 8) : ur_Mv l yF_control wsF_control rmkF_ctlN D vwCl (ur_v E) [.ref q, .int pp, .int mv] h (fun h2 => h2 = h) 0 0 := by
  intro sz
  refine ur_of (cc := cF_control) (maxL := 5) (ret := none) (by decide) rfl (Nat.le_of_ble_eq_true rfl) ?_
  intro p e s m args below meth c ls Q hsz hx hb hml hr hlocks hnm hown hts hO hK hI hQ hl
  subst hsz
  have hV := hK.1
  have hts : ∀ w ∈ ur_G, w.before args s = true := fun w hw => hts w (List.mem_cons_of_mem _ hw)
  have hZ : ur_Z E (ur_A h s.heap.size) s s.heap := hO.1
  have hown : s.vm.findClass "UnitRoomModel" = some m.cls := hown
  have hl : lv_has ls 5 [(0, .ref q), (1, .int pp), (2, .int mv)] := hl
  refine lv_iload_n hx hb dF_control_0 rfl (lv_at hl 1 rfl) ?_
  refine lv_iconst (v := 4) hx hb dF_control_1 (by decide) ?_
  refine lv_icmp_ge (tgt := 58) hx hb dF_control_2 (by decide) (fun c1 => ?_) (fun c1 => absurd c1 (not_not_intro hp))
  refine lv_iload_n hx hb dF_control_58 rfl (lv_at hl 1 rfl) ?_
  refine lv_bipush (v := 8) hx hb dF_control_59 (by decide) ?_
  refine lv_icmp_ne (tgt := 68) hx hb dF_control_61 (by decide) (fun c2 => ?_) (fun c2 => absurd c2 hp8)
  exact ur_rv hx hb hr hlocks hI hQ rfl dF_control_68
