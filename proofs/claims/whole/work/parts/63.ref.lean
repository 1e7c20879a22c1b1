theorem dF_operate_0 : decode cF_operate 0 = .ok (.iload_n 1, 1) := by decide +kernel
theorem dF_operate_1 : decode cF_operate 1 = .ok (.invokestatic 102, 3) := by decide +kernel
theorem dF_operate_4 : decode cF_operate 4 = .ok (.istore 5, 2) := by decide +kernel
theorem dF_operate_6 : decode cF_operate 6 = .ok (.aload_n 0, 1) := by decide +kernel
theorem dF_operate_7 : decode cF_operate 7 = .ok (.iload 5, 2) := by decide +kernel
theorem dF_operate_9 : decode cF_operate 9 = .ok (.iload_n 2, 1) := by decide +kernel
theorem dF_operate_10 : decode cF_operate 10 = .ok (.iload_n 3, 1) := by decide +kernel
theorem dF_operate_11 : decode cF_operate 11 = .ok (.iload 4, 2) := by decide +kernel
theorem dF_operate_13 : decode cF_operate 13 = .ok (.invokevirtual 105, 3) := by decide +kernel
theorem dF_operate_16 : decode cF_operate 16 = .ok (.istore 6, 2) := by decide +kernel
theorem dF_operate_18 : decode cF_operate 18 = .ok (.iload 6, 2) := by decide +kernel
theorem dF_operate_20 : decode cF_operate 20 = .ok (.ifCond .le 6, 3) := by decide +kernel
theorem dF_operate_23 : decode cF_operate 23 = .ok (.iload 6, 2) := by decide +kernel
theorem dF_operate_25 : decode cF_operate 25 = .ok (.ireturn, 1) := by decide +kernel
theorem dF_operate_26 : decode cF_operate 26 = .ok (.aload_n 0, 1) := by decide +kernel
theorem dF_operate_27 : decode cF_operate 27 = .ok (.getfield 20, 3) := by decide +kernel
theorem dF_operate_30 : decode cF_operate 30 = .ok (.iload 5, 2) := by decide +kernel
theorem dF_operate_32 : decode cF_operate 32 = .ok (.laload, 1) := by decide +kernel
theorem dF_operate_33 : decode cF_operate 33 = .ok (.aload_n 0, 1) := by decide +kernel
theorem dF_operate_34 : decode cF_operate 34 = .ok (.getfield 83, 3) := by decide +kernel
theorem dF_operate_37 : decode cF_operate 37 = .ok (.lcmp, 1) := by decide +kernel
theorem dF_operate_38 : decode cF_operate 38 = .ok (.ifCond .le 14, 3) := by decide +kernel
theorem dF_operate_41 : decode cF_operate 41 = .ok (.aload_n 0, 1) := by decide +kernel
theorem dF_operate_42 : decode cF_operate 42 = .ok (.aload_n 0, 1) := by decide +kernel
theorem dF_operate_43 : decode cF_operate 43 = .ok (.getfield 20, 3) := by decide +kernel
theorem dF_operate_46 : decode cF_operate 46 = .ok (.iload 5, 2) := by decide +kernel
theorem dF_operate_48 : decode cF_operate 48 = .ok (.laload, 1) := by decide +kernel
theorem dF_operate_49 : decode cF_operate 49 = .ok (.invokevirtual 109, 3) := by decide +kernel
theorem dF_operate_52 : decode cF_operate 52 = .ok (.aload_n 0, 1) := by decide +kernel
theorem dF_operate_53 : decode cF_operate 53 = .ok (.getfield 20, 3) := by decide +kernel
theorem dF_operate_56 : decode cF_operate 56 = .ok (.iload 5, 2) := by decide +kernel
theorem dF_operate_58 : decode cF_operate 58 = .ok (.aload_n 0, 1) := by decide +kernel
theorem dF_operate_59 : decode cF_operate 59 = .ok (.getfield 83, 3) := by decide +kernel
theorem dF_operate_62 : decode cF_operate 62 = .ok (.iload 5, 2) := by decide +kernel
theorem dF_operate_64 : decode cF_operate 64 = .ok (.invokestatic 113, 3) := by decide +kernel
theorem dF_operate_67 : decode cF_operate 67 = .ok (.i2l, 1) := by decide +kernel
theorem dF_operate_68 : decode cF_operate 68 = .ok (.ladd, 1) := by decide +kernel
theorem dF_operate_69 : decode cF_operate 69 = .ok (.lastore, 1) := by decide +kernel
theorem dF_operate_70 : decode cF_operate 70 = .ok (.aload_n 0, 1) := by decide +kernel
theorem dF_operate_71 : decode cF_operate 71 = .ok (.getfield 31, 3) := by decide +kernel
theorem dF_operate_74 : decode cF_operate 74 = .ok (.iload 5, 2) := by decide +kernel
theorem dF_operate_76 : decode cF_operate 76 = .ok (.aload_n 0, 1) := by decide +kernel
theorem dF_operate_77 : decode cF_operate 77 = .ok (.getfield 116, 3) := by decide +kernel
theorem dF_operate_80 : decode cF_operate 80 = .ok (.iastore, 1) := by decide +kernel
theorem dF_operate_81 : decode cF_operate 81 = .ok (.aload_n 0, 1) := by decide +kernel
theorem dF_operate_82 : decode cF_operate 82 = .ok (.dup, 1) := by decide +kernel
theorem dF_operate_83 : decode cF_operate 83 = .ok (.getfield 116, 3) := by decide +kernel
theorem dF_operate_86 : decode cF_operate 86 = .ok (.iconst 1, 1) := by decide +kernel
theorem dF_operate_87 : decode cF_operate 87 = .ok (.iadd, 1) := by decide +kernel
theorem dF_operate_88 : decode cF_operate 88 = .ok (.putfield 116, 3) := by decide +kernel
theorem dF_operate_91 : decode cF_operate 91 = .ok (.aload_n 0, 1) := by decide +kernel
theorem dF_operate_92 : decode cF_operate 92 = .ok (.getfield 24, 3) := by decide +kernel
theorem dF_operate_95 : decode cF_operate 95 = .ok (.iload 5, 2) := by decide +kernel
theorem dF_operate_97 : decode cF_operate 97 = .ok (.iload_n 2, 1) := by decide +kernel
theorem dF_operate_98 : decode cF_operate 98 = .ok (.iconst 1, 1) := by decide +kernel
theorem dF_operate_99 : decode cF_operate 99 = .ok (.if_icmp .ne 7, 3) := by decide +kernel
theorem dF_operate_102 : decode cF_operate 102 = .ok (.iconst 1, 1) := by decide +kernel
theorem dF_operate_103 : decode cF_operate 103 = .ok (.goto 4, 3) := by decide +kernel
theorem dF_operate_106 : decode cF_operate 106 = .ok (.iconst 0, 1) := by decide +kernel
theorem dF_operate_107 : decode cF_operate 107 = .ok (.bastore, 1) := by decide +kernel
theorem dF_operate_108 : decode cF_operate 108 = .ok (.aload_n 0, 1) := by decide +kernel
theorem dF_operate_109 : decode cF_operate 109 = .ok (.getfield 28, 3) := by decide +kernel
theorem dF_operate_112 : decode cF_operate 112 = .ok (.iload 5, 2) := by decide +kernel
theorem dF_operate_114 : decode cF_operate 114 = .ok (.iload_n 3, 1) := by decide +kernel
theorem dF_operate_115 : decode cF_operate 115 = .ok (.iastore, 1) := by decide +kernel
theorem dF_operate_116 : decode cF_operate 116 = .ok (.iload_n 2, 1) := by decide +kernel
theorem dF_operate_117 : decode cF_operate 117 = .ok (.ifCond .ne 13, 3) := by decide +kernel
theorem dF_operate_120 : decode cF_operate 120 = .ok (.aload_n 0, 1) := by decide +kernel
theorem dF_operate_121 : decode cF_operate 121 = .ok (.iload 5, 2) := by decide +kernel
theorem dF_operate_123 : decode cF_operate 123 = .ok (.iload_n 3, 1) := by decide +kernel
theorem dF_operate_124 : decode cF_operate 124 = .ok (.invokevirtual 119, 3) := by decide +kernel
theorem dF_operate_127 : decode cF_operate 127 = .ok (.goto 79, 3) := by decide +kernel
theorem dF_operate_130 : decode cF_operate 130 = .ok (.iload 5, 2) := by decide +kernel
theorem dF_operate_132 : decode cF_operate 132 = .ok (.iconst 4, 1) := by decide +kernel
theorem dF_operate_133 : decode cF_operate 133 = .ok (.if_icmp .ge 32, 3) := by decide +kernel
theorem dF_operate_136 : decode cF_operate 136 = .ok (.aload_n 0, 1) := by decide +kernel
theorem dF_operate_137 : decode cF_operate 137 = .ok (.iload 5, 2) := by decide +kernel
theorem dF_operate_139 : decode cF_operate 139 = .ok (.iload_n 2, 1) := by decide +kernel
theorem dF_operate_140 : decode cF_operate 140 = .ok (.iload_n 3, 1) := by decide +kernel
theorem dF_operate_141 : decode cF_operate 141 = .ok (.aload_n 0, 1) := by decide +kernel
theorem dF_operate_142 : decode cF_operate 142 = .ok (.getfield 17, 3) := by decide +kernel
theorem dF_operate_145 : decode cF_operate 145 = .ok (.iload 5, 2) := by decide +kernel
theorem dF_operate_147 : decode cF_operate 147 = .ok (.iaload, 1) := by decide +kernel
theorem dF_operate_148 : decode cF_operate 148 = .ok (.invokevirtual 123, 3) := by decide +kernel
theorem dF_operate_151 : decode cF_operate 151 = .ok (.aload_n 0, 1) := by decide +kernel
theorem dF_operate_152 : decode cF_operate 152 = .ok (.getfield 17, 3) := by decide +kernel
theorem dF_operate_155 : decode cF_operate 155 = .ok (.iload 5, 2) := by decide +kernel
theorem dF_operate_157 : decode cF_operate 157 = .ok (.dup2, 1) := by decide +kernel
theorem dF_operate_158 : decode cF_operate 158 = .ok (.iaload, 1) := by decide +kernel
theorem dF_operate_159 : decode cF_operate 159 = .ok (.iconst 1, 1) := by decide +kernel
theorem dF_operate_160 : decode cF_operate 160 = .ok (.iadd, 1) := by decide +kernel
theorem dF_operate_161 : decode cF_operate 161 = .ok (.iastore, 1) := by decide +kernel
theorem dF_operate_162 : decode cF_operate 162 = .ok (.goto 44, 3) := by decide +kernel
theorem dF_operate_165 : decode cF_operate 165 = .ok (.iload 5, 2) := by decide +kernel
theorem dF_operate_167 : decode cF_operate 167 = .ok (.bipush 6, 2) := by decide +kernel
theorem dF_operate_169 : decode cF_operate 169 = .ok (.if_icmp .ge 16, 3) := by decide +kernel
theorem dF_operate_172 : decode cF_operate 172 = .ok (.aload_n 0, 1) := by decide +kernel
theorem dF_operate_173 : decode cF_operate 173 = .ok (.iload 5, 2) := by decide +kernel
theorem dF_operate_175 : decode cF_operate 175 = .ok (.iload_n 2, 1) := by decide +kernel
theorem dF_operate_176 : decode cF_operate 176 = .ok (.iload_n 3, 1) := by decide +kernel
theorem dF_operate_177 : decode cF_operate 177 = .ok (.iload 4, 2) := by decide +kernel
theorem dF_operate_179 : decode cF_operate 179 = .ok (.invokevirtual 123, 3) := by decide +kernel
theorem dF_operate_182 : decode cF_operate 182 = .ok (.goto 24, 3) := by decide +kernel
theorem dF_operate_185 : decode cF_operate 185 = .ok (.iload 5, 2) := by decide +kernel
theorem dF_operate_187 : decode cF_operate 187 = .ok (.bipush 6, 2) := by decide +kernel
theorem dF_operate_189 : decode cF_operate 189 = .ok (.if_icmp .ne 10, 3) := by decide +kernel
theorem dF_operate_192 : decode cF_operate 192 = .ok (.aload_n 0, 1) := by decide +kernel
theorem dF_operate_193 : decode cF_operate 193 = .ok (.invokevirtual 127, 3) := by decide +kernel
theorem dF_operate_196 : decode cF_operate 196 = .ok (.goto 10, 3) := by decide +kernel
theorem dF_operate_199 : decode cF_operate 199 = .ok (.aload_n 0, 1) := by decide +kernel
theorem dF_operate_200 : decode cF_operate 200 = .ok (.iload 5, 2) := by decide +kernel
theorem dF_operate_202 : decode cF_operate 202 = .ok (.iload_n 3, 1) := by decide +kernel
theorem dF_operate_203 : decode cF_operate 203 = .ok (.invokevirtual 130, 3) := by decide +kernel
theorem dF_operate_206 : decode cF_operate 206 = .ok (.iconst 0, 1) := by decide +kernel
theorem dF_operate_207 : decode cF_operate 207 = .ok (.ireturn, 1) := by decide +kernel
abbrev rmkF_opE : Room := { frames := 2, cells := 0, slots := 0, locals := 48 }
set_option maxHeartbeats 4000000 in
set_option maxRecDepth 100000 in
theorem kF_opE (l : Launch) (D : va_G) (E : ur_Ev) (h : ur_M) (b : Nat → Nat) (T : fo_S) (u : Int32) (op : Int32) (mv : Int32) (x : Int32)  (hT : fo_R E b T h) (hf : 0 < fo_flt (T.2.2 3) T.1.2.2.1 (fo_pl u) op mv x) : ur_Mi l yF_operate wsF_operate rmkF_opE D vwCl (ur_v E) [.ref (b 0), .int u, .int op, .int mv, .int x] h (fun r h2 => r = fo_flt (T.2.2 3) T.1.2.2.1 (fo_pl u) op mv x ∧ h2 = h) 0 0 := by
  intro sz
  refine ur_of (cc := cF_operate) (maxL := 7) (ret := (some .int)) (by decide) rfl (Nat.le_of_ble_eq_true rfl) ?_
  intro p e s m args below meth c ls Q hsz hx hb hml hr hlocks hnm hown hts hO hK hI hQ hl
  subst hsz
  have hV := hK.1
  have hts : ∀ w ∈ ur_G, w.before args s = true := fun w hw => hts w (List.mem_cons_of_mem _ hw)
  have hZ : ur_Z E (ur_A h s.heap.size) s s.heap := hO.1
  have hown : s.vm.findClass "UnitRoomModel" = some m.cls := hown
  have hl : lv_has ls 7 [(0, .ref (b 0)), (1, .int u), (2, .int op), (3, .int mv), (4, .int x)] := hl
  have g0 : h (b 0) = some (.inr (7, [.ref (b 1), .ref (b 2), .ref (b 3), .long (T.1.1), .ref (b 4), .ref (b 5), .ref (b 6), .ref (b 7), .int (T.1.2.1), .ref (b 8), .int (T.1.2.2.1), .ref (b 9), .ref (b 10), .ref (b 11), .ref (b 12), .ref (b 13), .int (T.1.2.2.2), .ref (b 14)])) := hT.obj
  have g3 : h (b 3) = some (.inl (E.1 0, 4, .inl (T.2.2 3))) := hT.arr 3 (by decide) (by decide) (by decide)
  refine lv_iload_n hx hb dF_operate_0 rfl (lv_at hl 1 rfl) ?_
  refine ur_xi (va_runS (As := [.int u]) (rest := []) ⟨hx, hb, hml, hown, hts⟩ (kF_placeOf l D E h u s.heap.size) (va_cwS 1 hts (ur_gT mw669 mw670 mw11 mw671) rfl rfl rfl (by decide +kernel) ⟨(Nat.le_of_ble_eq_true rfl), (Nat.le_of_ble_eq_true rfl)⟩) ⟨ur_blind, ur_pre hI hO hK (fun _ _ q => q)⟩ rfl rfl hl.1 rfl (lv_room (Nat.le_of_ble_eq_true rfl)) dF_operate_1 ⟨Nat.le_of_ble_eq_true rfl, Nat.le_of_ble_eq_true rfl⟩) hI (fun r1 h1 H locs p1 hI => ?_)
  obtain ⟨er1, eh1⟩ := p1
  replace eh1 := eh1.symm; subst eh1
  replace er1 := er1.symm; subst er1
  refine lv_istore (lv' := [(5, .int (fo_pl u)), (0, .ref (b 0)), (1, .int u), (2, .int op), (3, .int mv), (4, .int x)]) hx hb dF_operate_4 hl (by decide) rfl (fun ls hl => ?_)
  refine lv_aload_n hx hb dF_operate_6 rfl (lv_at hl 1 rfl) ?_
  refine lv_iload hx hb dF_operate_7 (lv_at hl 0 rfl) ?_
  refine lv_iload_n hx hb dF_operate_9 rfl (lv_at hl 3 rfl) ?_
  refine lv_iload_n hx hb dF_operate_10 rfl (lv_at hl 4 rfl) ?_
  refine lv_iload hx hb dF_operate_11 (lv_at hl 5 rfl) ?_
  refine ur_xi (va_runV (As := [.int (fo_pl u), .int op, .int mv, .int x]) (rest := []) ⟨hx, hb, hml, hown, hts⟩ (kF_fault l D E h (b 0) (b 1) (b 2) (b 3) (b 4) (b 5) (b 6) (b 7) (b 8) (b 9) (b 10) (b 11) (b 12) (b 13) (b 14) (T.1.1) (T.1.2.1) (T.1.2.2.1) (T.1.2.2.2) (T.2.2 3) (fo_pl u) op mv x g0 g3 H.size) (cwV 4 hts (ur_gV mw672 mw674 ms7 mw11 mw675) rfl rfl rfl (by decide +kernel) ⟨(Nat.le_of_ble_eq_true rfl), (Nat.le_of_ble_eq_true rfl)⟩) ⟨ur_blind, va_recv hV (ur_one hI.1 g0) (ci := 7) (q0 := 0) rfl rfl, ur_pre hI hO hK (fun _ _ q => q)⟩ rfl rfl hl.1 rfl (lv_room (Nat.le_of_ble_eq_true rfl)) dF_operate_13 ⟨Nat.le_of_ble_eq_true rfl, Nat.le_of_ble_eq_true rfl⟩) hI (fun r2 h2 H locs p2 hI => ?_)
  obtain ⟨er2, eh2⟩ := p2
  replace eh2 := eh2.symm; subst eh2
  replace er2 := er2.symm; subst er2
  refine lv_istore (lv' := [(6, .int (fo_flt (T.2.2 3) (T.1.2.2.1) (fo_pl u) op mv x)), (5, .int (fo_pl u)), (0, .ref (b 0)), (1, .int u), (2, .int op), (3, .int mv), (4, .int x)]) hx hb dF_operate_16 hl (by decide) rfl (fun ls hl => ?_)
  refine lv_iload hx hb dF_operate_18 (lv_at hl 0 rfl) ?_
  refine lv_if_le (tgt := 26) hx hb dF_operate_20 (by decide) (fun c3 => absurd c3 (Int32.not_le.mpr hf)) (fun c3 => ?_)
  refine lv_iload hx hb dF_operate_23 (lv_at hl 0 rfl) ?_
  exact ur_ri hx hb hr hlocks hI hQ ⟨rfl, rfl⟩ dF_operate_25
abbrev rmkF_op : Room := { frames := 3, cells := 0, slots := 0, locals := 69 }
set_option maxHeartbeats 4000000 in
set_option maxRecDepth 100000 in
theorem kF_op (l : Launch) (D : va_G) (E : ur_Ev) (h : ur_M) (b : Nat → Nat) (T : fo_S) (u : Int32) (op : Int32) (mv : Int32) (x : Int32) (pn : Nat) (K : fo_S → fo_S)  (hT : fo_R E b T h) (hG : fo_Gl T) (hpl : fo_pl u = nI pn) (hpn : pn < 10) (hf : fo_flt (T.2.2 3) T.1.2.2.1 (fo_pl u) op mv x = 0) (hC : fo_case T pn op mv x K) : ur_Mi l yF_operate wsF_operate rmkF_op D vwCl (ur_v E) [.ref (b 0), .int u, .int op, .int mv, .int x] h (fun r h2 => r = 0 ∧ fo_R E b (K (fo_bg (fo_gg T pn) pn op mv)) h2) 0 0 := by
  intro sz
  refine ur_of (cc := cF_operate) (maxL := 7) (ret := (some .int)) (by decide) rfl (Nat.le_of_ble_eq_true rfl) ?_
  intro p e s m args below meth c ls Q hsz hx hb hml hr hlocks hnm hown hts hO hK hI hQ hl
  subst hsz
  have hV := hK.1
  have hts : ∀ w ∈ ur_G, w.before args s = true := fun w hw => hts w (List.mem_cons_of_mem _ hw)
  have hZ : ur_Z E (ur_A h s.heap.size) s s.heap := hO.1
  have hown : s.vm.findClass "UnitRoomModel" = some m.cls := hown
  have hl : lv_has ls 7 [(0, .ref (b 0)), (1, .int u), (2, .int op), (3, .int mv), (4, .int x)] := hl
  have g0 : h (b 0) = some (.inr (7, [.ref (b 1), .ref (b 2), .ref (b 3), .long (T.1.1), .ref (b 4), .ref (b 5), .ref (b 6), .ref (b 7), .int (T.1.2.1), .ref (b 8), .int (T.1.2.2.1), .ref (b 9), .ref (b 10), .ref (b 11), .ref (b 12), .ref (b 13), .int (T.1.2.2.2), .ref (b 14)])) := hT.obj
  have g3 : h (b 3) = some (.inl (E.1 0, 4, .inl (T.2.2 3))) := hT.arr 3 (by decide) (by decide) (by decide)
  have g4 : h (b 4) = some (.inl (E.1 5, 10, .inr (.inl (T.2.1)))) := hT.frees
  refine lv_iload_n hx hb dF_operate_0 rfl (lv_at hl 1 rfl) ?_
  refine ur_xi (va_runS (As := [.int u]) (rest := []) ⟨hx, hb, hml, hown, hts⟩ (kF_placeOf l D E h u s.heap.size) (va_cwS 1 hts (ur_gT mw669 mw670 mw11 mw671) rfl rfl rfl (by decide +kernel) ⟨(Nat.le_of_ble_eq_true rfl), (Nat.le_of_ble_eq_true rfl)⟩) ⟨ur_blind, ur_pre hI hO hK (fun _ _ q => q)⟩ rfl rfl hl.1 rfl (lv_room (Nat.le_of_ble_eq_true rfl)) dF_operate_1 ⟨Nat.le_of_ble_eq_true rfl, Nat.le_of_ble_eq_true rfl⟩) hI (fun r1 h1 H locs p1 hI => ?_)
  obtain ⟨er1, eh1⟩ := p1
  replace eh1 := eh1.symm; subst eh1
  replace er1 := er1.symm; subst er1
  rw [hpl]
  rw [hpl] at hf
  refine lv_istore (lv' := [(5, .int (nI pn)), (0, .ref (b 0)), (1, .int u), (2, .int op), (3, .int mv), (4, .int x)]) hx hb dF_operate_4 hl (by decide) rfl (fun ls hl => ?_)
  refine lv_aload_n hx hb dF_operate_6 rfl (lv_at hl 1 rfl) ?_
  refine lv_iload hx hb dF_operate_7 (lv_at hl 0 rfl) ?_
  refine lv_iload_n hx hb dF_operate_9 rfl (lv_at hl 3 rfl) ?_
  refine lv_iload_n hx hb dF_operate_10 rfl (lv_at hl 4 rfl) ?_
  refine lv_iload hx hb dF_operate_11 (lv_at hl 5 rfl) ?_
  refine ur_xi (va_runV (As := [.int (nI pn), .int op, .int mv, .int x]) (rest := []) ⟨hx, hb, hml, hown, hts⟩ (kF_fault l D E h (b 0) (b 1) (b 2) (b 3) (b 4) (b 5) (b 6) (b 7) (b 8) (b 9) (b 10) (b 11) (b 12) (b 13) (b 14) (T.1.1) (T.1.2.1) (T.1.2.2.1) (T.1.2.2.2) (T.2.2 3) (nI pn) op mv x g0 g3 H.size) (cwV 4 hts (ur_gV mw672 mw674 ms7 mw11 mw675) rfl rfl rfl (by decide +kernel) ⟨(Nat.le_of_ble_eq_true rfl), (Nat.le_of_ble_eq_true rfl)⟩) ⟨ur_blind, va_recv hV (ur_one hI.1 g0) (ci := 7) (q0 := 0) rfl rfl, ur_pre hI hO hK (fun _ _ q => q)⟩ rfl rfl hl.1 rfl (lv_room (Nat.le_of_ble_eq_true rfl)) dF_operate_13 ⟨Nat.le_of_ble_eq_true rfl, Nat.le_of_ble_eq_true rfl⟩) hI (fun r2 h2 H locs p2 hI => ?_)
  obtain ⟨er2, eh2⟩ := p2
  replace eh2 := eh2.symm; subst eh2
  replace er2 := er2.symm; subst er2
  rw [hf]
  refine lv_istore (lv' := [(6, .int 0), (5, .int (nI pn)), (0, .ref (b 0)), (1, .int u), (2, .int op), (3, .int mv), (4, .int x)]) hx hb dF_operate_16 hl (by decide) rfl (fun ls hl => ?_)
  refine lv_iload hx hb dF_operate_18 (lv_at hl 0 rfl) ?_
  refine lv_if_le (tgt := 26) hx hb dF_operate_20 (by decide) (fun c3 => ?_) (fun c3 => absurd c3 (by decide))
  have tail : ∀ (T1 : fo_S) (h1 : ur_M) (H : Heap) (locs : List Loc) (ls : Array Slot), fo_R E b T1 h1 → fo_gg T pn = T1 → ur_I D vwCl (ur_A h s.heap.size) s.heap h1 H locs → lv_has ls 7 [(0, .ref (b 0)), (2, .int op), (3, .int mv), (4, .int x), (5, .int (nI pn))] → W p l e rmkF_op s m args below meth c H locs 0 0 Q (F0 m 52 ls []) := by
    intro T1 h1 H locs ls hT1 hgg hI hl
    have hr9 := fo_gg_r T pn
    rw [hgg] at hr9
    have k0 : h1 (b 0) = some (.inr (7, [.ref (b 1), .ref (b 2), .ref (b 3), .long (T1.1.1), .ref (b 4), .ref (b 5), .ref (b 6), .ref (b 7), .int (T1.1.2.1), .ref (b 8), .int (T1.1.2.2.1), .ref (b 9), .ref (b 10), .ref (b 11), .ref (b 12), .ref (b 13), .int (T1.1.2.2.2), .ref (b 14)])) := hT1.obj
    have k4 : h1 (b 4) = some (.inl (E.1 5, 10, .inr (.inl (T1.2.1)))) := hT1.frees
    have k5 : h1 (b 5) = some (.inl (E.1 6, 10, .inl (T1.2.2 5))) := hT1.arr 5 (by decide) (by decide) (by decide)
    have k6 : h1 (b 6) = some (.inl (E.1 0, 10, .inl (T1.2.2 6))) := hT1.arr 6 (by decide) (by decide) (by decide)
    have k7 : h1 (b 7) = some (.inl (E.1 0, 10, .inl (T1.2.2 7))) := hT1.arr 7 (by decide) (by decide) (by decide)
    rcases hC with ⟨hp4, rfl, rfl⟩ | ⟨hp4, hp6, rfl, rfl⟩ | ⟨rfl, rfl, kn, hkn, hli, rfl⟩ | ⟨rfl, rfl, hli, rfl⟩ | ⟨hp4, rfl, sn, hsn, hst, rfl⟩ | ⟨hp4, rfl, sn, mn, hsn, hst, rfl, hmn, rfl⟩ | ⟨hp4, hp6, rfl, xn, hxn, rfl, rfl⟩ | ⟨hp4, hp6, rfl, xn, mn, hxn, rfl, rfl, hmn, rfl⟩ | ⟨rfl, rfl, cn, hc0, hc1, hcd, rfl⟩ | ⟨l0, kn, mn, hl0, rfl, rfl, hkn, hli, rfl, hmn, rfl⟩ | ⟨l0, mn, hl0, rfl, rfl, hli, rfl, hmn, rfl⟩
    · have hl : lv_has ls 7 [(0, .ref (b 0)), (2, .int 0), (3, .int mv), (4, .int x), (5, .int (nI pn))] := hl
      refine lv_aload_n hx hb dF_operate_52 rfl (lv_at hl 0 rfl) ?_
      refine va_get (D := D) (ci := 7) (v := .ref (b 4)) (C := "UnitRoomModel") (T := TF) (N := 18) hx hb hts inF hown hV (ur_one hI.1 k0) 0 rfl rfl 4 (by decide) (hts _ mw581) (fun _ h9 => h9) rfl dF_operate_53 ?_
      refine lv_iload hx hb dF_operate_56 (lv_at hl 4 rfl) ?_
      refine lv_aload_n hx hb dF_operate_58 rfl (lv_at hl 0 rfl) ?_
      refine va_get (D := D) (ci := 7) (v := .long (T1.1.1)) (C := "UnitRoomModel") (T := TF) (N := 18) hx hb hts inF hown hV (ur_one hI.1 k0) 0 rfl rfl 3 (by decide) (hts _ mw580) (fun _ h9 => h9) rfl dF_operate_59 ?_
      refine lv_iload hx hb dF_operate_62 (lv_at hl 4 rfl) ?_
      refine ur_xi (va_runS (As := [.int (nI pn)]) (rest := [.long (T1.1.1), .int (nI pn), .ref (b 4)]) ⟨hx, hb, hml, hown, hts⟩ (kF_timeOf l D E h1 (nI pn) H.size) (va_cwS 1 hts (ur_gT mw690 mw691 mw11 mw692) rfl rfl rfl (by decide +kernel) ⟨(Nat.le_of_ble_eq_true rfl), (Nat.le_of_ble_eq_true rfl)⟩) ⟨ur_blind, ur_pre hI hO hK (fun _ _ q => q)⟩ rfl rfl hl.1 rfl (lv_room (Nat.le_of_ble_eq_true rfl)) dF_operate_64 ⟨Nat.le_of_ble_eq_true rfl, Nat.le_of_ble_eq_true rfl⟩) hI (fun r4 h4 H locs p4 hI => ?_)
      obtain ⟨er4, eh4⟩ := p4
      replace eh4 := eh4.symm; subst eh4
      replace er4 := er4.symm; subst er4
      refine lv_i2l hx hb dF_operate_67 rfl ?_
      refine lv_ladd hx hb dF_operate_68 ?_
      refine ur_last hx hb hV hI 5 k4 rfl (vp_in_nI (by omega) (by decide)) dF_operate_69 (fun H locs hI => ?_)
      obtain ⟨h5, eh5⟩ : ∃ z : ur_M, z = va_up h1 (b 4) (some (.inl (E.1 5, 10, .inr (.inl (vp_updL (T1.2.1) (Int32.toNatClampNeg (nI pn)) ((T1.1.1) + ((fo_tm (nI pn)).toInt64))))))) := ⟨_, rfl⟩
      replace hI : ur_I D vwCl (ur_A h s.heap.size) s.heap h5 H locs := by rw [eh5]; exact hI
      have fq6 : h5 (b 0) = some (.inr (7, [.ref (b 1), .ref (b 2), .ref (b 3), .long (T1.1.1), .ref (b 4), .ref (b 5), .ref (b 6), .ref (b 7), .int (T1.1.2.1), .ref (b 8), .int (T1.1.2.2.1), .ref (b 9), .ref (b 10), .ref (b 11), .ref (b 12), .ref (b 13), .int (T1.1.2.2.2), .ref (b 14)])) := by rw [eh5]; exact ((va_up_ne _ _ (hT.ne (i := 0) (j := 4) (by decide) (by decide) (by decide))).trans k0)
      have fq7 : h5 (b 4) = some (.inl (E.1 5, 10, .inr (.inl (vp_updL (T1.2.1) (Int32.toNatClampNeg (nI pn)) ((T1.1.1) + ((fo_tm (nI pn)).toInt64)))))) := by rw [eh5]; exact (va_up_self _ _ _)
      have fq8 : h5 (b 5) = some (.inl (E.1 6, 10, .inl (T1.2.2 5))) := by rw [eh5]; exact ((va_up_ne _ _ (hT.ne (i := 5) (j := 4) (by decide) (by decide) (by decide))).trans k5)
      have fq9 : h5 (b 6) = some (.inl (E.1 0, 10, .inl (T1.2.2 6))) := by rw [eh5]; exact ((va_up_ne _ _ (hT.ne (i := 6) (j := 4) (by decide) (by decide) (by decide))).trans k6)
      have fq10 : h5 (b 7) = some (.inl (E.1 0, 10, .inl (T1.2.2 7))) := by rw [eh5]; exact ((va_up_ne _ _ (hT.ne (i := 7) (j := 4) (by decide) (by decide) (by decide))).trans k7)
      have s1 : fo_R E b (fo_pJ T1 (vp_updL T1.2.1 pn (T1.1.1 + (fo_tm (nI pn)).toInt64))) h5 := by rw [eh5, (show Int32.toNatClampNeg (nI pn) = pn from nI_clamp (by omega))]; exact hT1.pJ _
      refine lv_aload_n hx hb dF_operate_70 rfl (lv_at hl 0 rfl) ?_
      refine va_get (D := D) (ci := 7) (v := .ref (b 7)) (C := "UnitRoomModel") (T := TF) (N := 18) hx hb hts inF hown hV (ur_one hI.1 fq6) 0 rfl rfl 7 (by decide) (hts _ mw584) (fun _ h9 => h9) rfl dF_operate_71 ?_
      refine lv_iload hx hb dF_operate_74 (lv_at hl 4 rfl) ?_
      refine lv_aload_n hx hb dF_operate_76 rfl (lv_at hl 0 rfl) ?_
      refine va_get (D := D) (ci := 7) (v := .int (T1.1.2.1)) (C := "UnitRoomModel") (T := TF) (N := 18) hx hb hts inF hown hV (ur_one hI.1 fq6) 0 rfl rfl 8 (by decide) (hts _ mw585) (fun _ h9 => h9) rfl dF_operate_77 ?_
      refine ur_iast hx hb hV hI 0 fq10 rfl (vp_in_nI (by omega) (by decide)) dF_operate_80 (fun H locs hI => ?_)
      obtain ⟨h11, eh11⟩ : ∃ z : ur_M, z = va_up h5 (b 7) (some (.inl (E.1 0, 10, .inl (upd (T1.2.2 7) (Int32.toNatClampNeg (nI pn)) (T1.1.2.1))))) := ⟨_, rfl⟩
      replace hI : ur_I D vwCl (ur_A h s.heap.size) s.heap h11 H locs := by rw [eh11]; exact hI
      have fq12 : h11 (b 0) = some (.inr (7, [.ref (b 1), .ref (b 2), .ref (b 3), .long (T1.1.1), .ref (b 4), .ref (b 5), .ref (b 6), .ref (b 7), .int (T1.1.2.1), .ref (b 8), .int (T1.1.2.2.1), .ref (b 9), .ref (b 10), .ref (b 11), .ref (b 12), .ref (b 13), .int (T1.1.2.2.2), .ref (b 14)])) := by rw [eh11]; exact ((va_up_ne _ _ (hT.ne (i := 0) (j := 7) (by decide) (by decide) (by decide))).trans fq6)
      have fq13 : h11 (b 4) = some (.inl (E.1 5, 10, .inr (.inl (vp_updL (T1.2.1) (Int32.toNatClampNeg (nI pn)) ((T1.1.1) + ((fo_tm (nI pn)).toInt64)))))) := by rw [eh11]; exact ((va_up_ne _ _ (hT.ne (i := 4) (j := 7) (by decide) (by decide) (by decide))).trans fq7)
      have fq14 : h11 (b 5) = some (.inl (E.1 6, 10, .inl (T1.2.2 5))) := by rw [eh11]; exact ((va_up_ne _ _ (hT.ne (i := 5) (j := 7) (by decide) (by decide) (by decide))).trans fq8)
      have fq15 : h11 (b 6) = some (.inl (E.1 0, 10, .inl (T1.2.2 6))) := by rw [eh11]; exact ((va_up_ne _ _ (hT.ne (i := 6) (j := 7) (by decide) (by decide) (by decide))).trans fq9)
      have fq16 : h11 (b 7) = some (.inl (E.1 0, 10, .inl (upd (T1.2.2 7) (Int32.toNatClampNeg (nI pn)) (T1.1.2.1)))) := by rw [eh11]; exact (va_up_self _ _ _)
      have s2 : fo_R E b (fo_pa (fo_pJ T1 (vp_updL T1.2.1 pn (T1.1.1 + (fo_tm (nI pn)).toInt64))) 7 (upd (T1.2.2 7) pn T1.1.2.1)) h11 := by rw [eh11, (show Int32.toNatClampNeg (nI pn) = pn from nI_clamp (by omega))]; exact s1.pa 7 _ (by decide) (by decide) (by decide)
      refine lv_aload_n hx hb dF_operate_81 rfl (lv_at hl 0 rfl) ?_
      refine lv_dup hx hb dF_operate_82 rfl ?_
      refine va_get (D := D) (ci := 7) (v := .int (T1.1.2.1)) (C := "UnitRoomModel") (T := TF) (N := 18) hx hb hts inF hown hV (ur_one hI.1 fq12) 0 rfl rfl 8 (by decide) (hts _ mw585) (fun _ h9 => h9) rfl dF_operate_83 ?_
      refine lv_iconst (v := 1) hx hb dF_operate_86 (by decide) ?_
      refine lv_iadd hx hb dF_operate_87 ?_
      refine ur_put (D := D) (ci := 7) (v := .int ((T1.1.2.1) + 1)) (ty := .int) (C := "UnitRoomModel") (T := TF) (N := 18) hx hb hts inF tyF tyF_ok nmF hown hV hI fq12 rfl 8 (by decide) (hts _ mw585) (fun _ h9 => h9) rfl (by decide +kernel) rfl rfl (Nat.le_of_ble_eq_true rfl) dF_operate_88 (fun H locs hI => ?_)
      obtain ⟨h17, eh17⟩ : ∃ z : ur_M, z = va_up h11 (b 0) (some (.inr (7, [.ref (b 1), .ref (b 2), .ref (b 3), .long (T1.1.1), .ref (b 4), .ref (b 5), .ref (b 6), .ref (b 7), .int ((T1.1.2.1) + 1), .ref (b 8), .int (T1.1.2.2.1), .ref (b 9), .ref (b 10), .ref (b 11), .ref (b 12), .ref (b 13), .int (T1.1.2.2.2), .ref (b 14)]))) := ⟨_, rfl⟩
      replace hI : ur_I D vwCl (ur_A h s.heap.size) s.heap h17 H locs := by rw [eh17]; exact hI
      have fq18 : h17 (b 0) = some (.inr (7, [.ref (b 1), .ref (b 2), .ref (b 3), .long (T1.1.1), .ref (b 4), .ref (b 5), .ref (b 6), .ref (b 7), .int ((T1.1.2.1) + 1), .ref (b 8), .int (T1.1.2.2.1), .ref (b 9), .ref (b 10), .ref (b 11), .ref (b 12), .ref (b 13), .int (T1.1.2.2.2), .ref (b 14)])) := by rw [eh17]; exact (va_up_self _ _ _)
      have fq19 : h17 (b 4) = some (.inl (E.1 5, 10, .inr (.inl (vp_updL (T1.2.1) (Int32.toNatClampNeg (nI pn)) ((T1.1.1) + ((fo_tm (nI pn)).toInt64)))))) := by rw [eh17]; exact ((va_up_ne _ _ (hT.ne (i := 4) (j := 0) (by decide) (by decide) (by decide))).trans fq13)
      have fq20 : h17 (b 5) = some (.inl (E.1 6, 10, .inl (T1.2.2 5))) := by rw [eh17]; exact ((va_up_ne _ _ (hT.ne (i := 5) (j := 0) (by decide) (by decide) (by decide))).trans fq14)
      have fq21 : h17 (b 6) = some (.inl (E.1 0, 10, .inl (T1.2.2 6))) := by rw [eh17]; exact ((va_up_ne _ _ (hT.ne (i := 6) (j := 0) (by decide) (by decide) (by decide))).trans fq15)
      have fq22 : h17 (b 7) = some (.inl (E.1 0, 10, .inl (upd (T1.2.2 7) (Int32.toNatClampNeg (nI pn)) (T1.1.2.1)))) := by rw [eh17]; exact ((va_up_ne _ _ (hT.ne (i := 7) (j := 0) (by decide) (by decide) (by decide))).trans fq16)
      have s3 : fo_R E b (fo_po (fo_pa (fo_pJ T1 (vp_updL T1.2.1 pn (T1.1.1 + (fo_tm (nI pn)).toInt64))) 7 (upd (T1.2.2 7) pn T1.1.2.1)) (T1.1.1, T1.1.2.1 + 1, T1.1.2.2)) h17 := by rw [eh17]; exact s2.po (T1.1.1, T1.1.2.1 + 1, T1.1.2.2)
      refine lv_aload_n hx hb dF_operate_91 rfl (lv_at hl 0 rfl) ?_
      refine va_get (D := D) (ci := 7) (v := .ref (b 5)) (C := "UnitRoomModel") (T := TF) (N := 18) hx hb hts inF hown hV (ur_one hI.1 fq18) 0 rfl rfl 5 (by decide) (hts _ mw582) (fun _ h9 => h9) rfl dF_operate_92 ?_
      refine lv_iload hx hb dF_operate_95 (lv_at hl 4 rfl) ?_
      refine lv_iload_n hx hb dF_operate_97 rfl (lv_at hl 1 rfl) ?_
      refine lv_iconst (v := 1) hx hb dF_operate_98 (by decide) ?_
      refine lv_icmp_ne (tgt := 106) hx hb dF_operate_99 (by decide) (fun c23 => ?_) (fun c23 => absurd c23 (by decide))
      refine lv_iconst (v := 0) hx hb dF_operate_106 (by decide) ?_
      refine ur_zast hx hb hV hI 6 fq20 rfl (vp_in_nI (by omega) (by decide)) dF_operate_107 (fun H locs hI => ?_)
      obtain ⟨h24, eh24⟩ : ∃ z : ur_M, z = va_up h17 (b 5) (some (.inl (E.1 6, 10, .inl (upd (T1.2.2 5) (Int32.toNatClampNeg (nI pn)) (vp_nar .boolean 0))))) := ⟨_, rfl⟩
      replace hI : ur_I D vwCl (ur_A h s.heap.size) s.heap h24 H locs := by rw [eh24]; exact hI
      have fq25 : h24 (b 0) = some (.inr (7, [.ref (b 1), .ref (b 2), .ref (b 3), .long (T1.1.1), .ref (b 4), .ref (b 5), .ref (b 6), .ref (b 7), .int ((T1.1.2.1) + 1), .ref (b 8), .int (T1.1.2.2.1), .ref (b 9), .ref (b 10), .ref (b 11), .ref (b 12), .ref (b 13), .int (T1.1.2.2.2), .ref (b 14)])) := by rw [eh24]; exact ((va_up_ne _ _ (hT.ne (i := 0) (j := 5) (by decide) (by decide) (by decide))).trans fq18)
      have fq26 : h24 (b 4) = some (.inl (E.1 5, 10, .inr (.inl (vp_updL (T1.2.1) (Int32.toNatClampNeg (nI pn)) ((T1.1.1) + ((fo_tm (nI pn)).toInt64)))))) := by rw [eh24]; exact ((va_up_ne _ _ (hT.ne (i := 4) (j := 5) (by decide) (by decide) (by decide))).trans fq19)
      have fq27 : h24 (b 5) = some (.inl (E.1 6, 10, .inl (upd (T1.2.2 5) (Int32.toNatClampNeg (nI pn)) (vp_nar .boolean 0)))) := by rw [eh24]; exact (va_up_self _ _ _)
      have fq28 : h24 (b 6) = some (.inl (E.1 0, 10, .inl (T1.2.2 6))) := by rw [eh24]; exact ((va_up_ne _ _ (hT.ne (i := 6) (j := 5) (by decide) (by decide) (by decide))).trans fq21)
      have fq29 : h24 (b 7) = some (.inl (E.1 0, 10, .inl (upd (T1.2.2 7) (Int32.toNatClampNeg (nI pn)) (T1.1.2.1)))) := by rw [eh24]; exact ((va_up_ne _ _ (hT.ne (i := 7) (j := 5) (by decide) (by decide) (by decide))).trans fq22)
      have s4 : fo_R E b (fo_pa (fo_po (fo_pa (fo_pJ T1 (vp_updL T1.2.1 pn (T1.1.1 + (fo_tm (nI pn)).toInt64))) 7 (upd (T1.2.2 7) pn T1.1.2.1)) (T1.1.1, T1.1.2.1 + 1, T1.1.2.2)) 5 (upd (T1.2.2 5) pn (if (0 : Int32) = 1 then 1 else 0))) h24 := by rw [eh24, (show Int32.toNatClampNeg (nI pn) = pn from nI_clamp (by omega)), fo_nar0, if_neg (by decide)]; exact s3.pa 5 _ (by decide) (by decide) (by decide)
      refine lv_aload_n hx hb dF_operate_108 rfl (lv_at hl 0 rfl) ?_
      refine va_get (D := D) (ci := 7) (v := .ref (b 6)) (C := "UnitRoomModel") (T := TF) (N := 18) hx hb hts inF hown hV (ur_one hI.1 fq25) 0 rfl rfl 6 (by decide) (hts _ mw583) (fun _ h9 => h9) rfl dF_operate_109 ?_
      refine lv_iload hx hb dF_operate_112 (lv_at hl 4 rfl) ?_
      refine lv_iload_n hx hb dF_operate_114 rfl (lv_at hl 2 rfl) ?_
      refine ur_iast hx hb hV hI 0 fq28 rfl (vp_in_nI (by omega) (by decide)) dF_operate_115 (fun H locs hI => ?_)
      obtain ⟨h30, eh30⟩ : ∃ z : ur_M, z = va_up h24 (b 6) (some (.inl (E.1 0, 10, .inl (upd (T1.2.2 6) (Int32.toNatClampNeg (nI pn)) mv)))) := ⟨_, rfl⟩
      replace hI : ur_I D vwCl (ur_A h s.heap.size) s.heap h30 H locs := by rw [eh30]; exact hI
      have fq31 : h30 (b 0) = some (.inr (7, [.ref (b 1), .ref (b 2), .ref (b 3), .long (T1.1.1), .ref (b 4), .ref (b 5), .ref (b 6), .ref (b 7), .int ((T1.1.2.1) + 1), .ref (b 8), .int (T1.1.2.2.1), .ref (b 9), .ref (b 10), .ref (b 11), .ref (b 12), .ref (b 13), .int (T1.1.2.2.2), .ref (b 14)])) := by rw [eh30]; exact ((va_up_ne _ _ (hT.ne (i := 0) (j := 6) (by decide) (by decide) (by decide))).trans fq25)
      have fq32 : h30 (b 4) = some (.inl (E.1 5, 10, .inr (.inl (vp_updL (T1.2.1) (Int32.toNatClampNeg (nI pn)) ((T1.1.1) + ((fo_tm (nI pn)).toInt64)))))) := by rw [eh30]; exact ((va_up_ne _ _ (hT.ne (i := 4) (j := 6) (by decide) (by decide) (by decide))).trans fq26)
      have fq33 : h30 (b 5) = some (.inl (E.1 6, 10, .inl (upd (T1.2.2 5) (Int32.toNatClampNeg (nI pn)) (vp_nar .boolean 0)))) := by rw [eh30]; exact ((va_up_ne _ _ (hT.ne (i := 5) (j := 6) (by decide) (by decide) (by decide))).trans fq27)
      have fq34 : h30 (b 6) = some (.inl (E.1 0, 10, .inl (upd (T1.2.2 6) (Int32.toNatClampNeg (nI pn)) mv))) := by rw [eh30]; exact (va_up_self _ _ _)
      have fq35 : h30 (b 7) = some (.inl (E.1 0, 10, .inl (upd (T1.2.2 7) (Int32.toNatClampNeg (nI pn)) (T1.1.2.1)))) := by rw [eh30]; exact ((va_up_ne _ _ (hT.ne (i := 7) (j := 6) (by decide) (by decide) (by decide))).trans fq29)
      obtain ⟨TB, hTB⟩ : ∃ z, z = fo_bg T1 pn 0 mv := ⟨_, rfl⟩
      have hB : fo_R E b TB h30 := by rw [hTB, eh30, (show Int32.toNatClampNeg (nI pn) = pn from nI_clamp (by omega))]; exact s4.pa 6 _ (by decide) (by decide) (by decide)
      have hB3 : TB.2.2 3 = T.2.2 3 := by rw [hTB, fo_bg_r _ _ _ _ 3 (by decide) (by decide) (by decide)]; exact hr9.2.2 3 (by decide) (by decide)
      have hB10 : TB.2.2 10 = T.2.2 10 := by rw [hTB, fo_bg_r _ _ _ _ 10 (by decide) (by decide) (by decide)]; exact hr9.2.2 10 (by decide) (by decide)
      have hBc : TB.1.2.2.1 = T.1.2.2.1 := by rw [hTB, fo_bg_1]; show T1.1.2.2.1 = _; rw [hr9.2.1]
      have hfin : fo_bg (fo_gg T pn) pn 0 mv = TB := by rw [hgg, hTB]
      have y0 : h30 (b 0) = some (.inr (7, [.ref (b 1), .ref (b 2), .ref (b 3), .long (TB.1.1), .ref (b 4), .ref (b 5), .ref (b 6), .ref (b 7), .int (TB.1.2.1), .ref (b 8), .int (TB.1.2.2.1), .ref (b 9), .ref (b 10), .ref (b 11), .ref (b 12), .ref (b 13), .int (TB.1.2.2.2), .ref (b 14)])) := hB.obj
      have y3 : h30 (b 3) = some (.inl (E.1 0, 4, .inl (TB.2.2 3))) := hB.arr 3 (by decide) (by decide) (by decide)
      refine lv_iload_n hx hb dF_operate_116 rfl (lv_at hl 1 rfl) ?_
      refine lv_if_ne (tgt := 130) hx hb dF_operate_117 (by decide) (fun c36 => absurd c36 (by decide)) (fun c36 => ?_)
      refine lv_aload_n hx hb dF_operate_120 rfl (lv_at hl 0 rfl) ?_
      refine lv_iload hx hb dF_operate_121 (lv_at hl 4 rfl) ?_
      refine lv_iload_n hx hb dF_operate_123 rfl (lv_at hl 2 rfl) ?_
      refine ur_xv (va_runV (As := [.int (nI pn), .int mv]) (rest := []) ⟨hx, hb, hml, hown, hts⟩ (kF_ctl4 l D E h30 (b 0) (b 1) (b 2) (b 3) (b 4) (b 5) (b 6) (b 7) (b 8) (b 9) (b 10) (b 11) (b 12) (b 13) (b 14) (TB.1.1) (TB.1.2.1) (TB.1.2.2.1) (TB.1.2.2.2) pn mv (TB.2.2 3) y0 y3 hp4 H.size) (cwV 2 hts (ur_gV mw693 mw695 ms10 mw11 mw696) rfl rfl rfl (by decide +kernel) ⟨(Nat.le_of_ble_eq_true rfl), (Nat.le_of_ble_eq_true rfl)⟩) ⟨ur_blind, va_recv hV (ur_one hI.1 y0) (ci := 7) (q0 := 0) rfl rfl, ur_pre hI hO hK (fun _ _ q => q)⟩ rfl rfl hl.1 rfl (lv_room (Nat.le_of_ble_eq_true rfl)) dF_operate_124 ⟨Nat.le_of_ble_eq_true rfl, Nat.le_of_ble_eq_true rfl⟩) hI (fun h37 H locs p37 hI => ?_)
      have eh37 := p37
      have fq38 : h37 (b 0) = some (.inr (7, [.ref (b 1), .ref (b 2), .ref (b 3), .long (TB.1.1), .ref (b 4), .ref (b 5), .ref (b 6), .ref (b 7), .int (TB.1.2.1), .ref (b 8), .int (TB.1.2.2.1), .ref (b 9), .ref (b 10), .ref (b 11), .ref (b 12), .ref (b 13), .int (TB.1.2.2.2), .ref (b 14)])) := by rw [eh37]; exact ((va_up_ne _ _ (hT.ne (i := 0) (j := 3) (by decide) (by decide) (by decide))).trans y0)
      have fq39 : h37 (b 3) = some (.inl (E.1 0, 4, .inl (upd (TB.2.2 3) pn (fo_ps ((TB.2.2 3) pn) mv)))) := by rw [eh37]; exact (va_up_self _ _ _)
      refine lv_goto (tgt := 206) hx hb dF_operate_127 (by decide) ?_
      refine lv_iconst (v := 0) hx hb dF_operate_206 (by decide) ?_
      exact ur_ri hx hb hr hlocks hI hQ ⟨rfl, (by show fo_R E b _ _; rw [hfin, eh37]; exact hB.pa 3 _ (by decide) (by decide) (by decide))⟩ dF_operate_207
    · have hl : lv_has ls 7 [(0, .ref (b 0)), (2, .int 0), (3, .int mv), (4, .int x), (5, .int (nI pn))] := hl
      refine lv_aload_n hx hb dF_operate_52 rfl (lv_at hl 0 rfl) ?_
      refine va_get (D := D) (ci := 7) (v := .ref (b 4)) (C := "UnitRoomModel") (T := TF) (N := 18) hx hb hts inF hown hV (ur_one hI.1 k0) 0 rfl rfl 4 (by decide) (hts _ mw581) (fun _ h9 => h9) rfl dF_operate_53 ?_
      refine lv_iload hx hb dF_operate_56 (lv_at hl 4 rfl) ?_
      refine lv_aload_n hx hb dF_operate_58 rfl (lv_at hl 0 rfl) ?_
      refine va_get (D := D) (ci := 7) (v := .long (T1.1.1)) (C := "UnitRoomModel") (T := TF) (N := 18) hx hb hts inF hown hV (ur_one hI.1 k0) 0 rfl rfl 3 (by decide) (hts _ mw580) (fun _ h9 => h9) rfl dF_operate_59 ?_
      refine lv_iload hx hb dF_operate_62 (lv_at hl 4 rfl) ?_
      refine ur_xi (va_runS (As := [.int (nI pn)]) (rest := [.long (T1.1.1), .int (nI pn), .ref (b 4)]) ⟨hx, hb, hml, hown, hts⟩ (kF_timeOf l D E h1 (nI pn) H.size) (va_cwS 1 hts (ur_gT mw690 mw691 mw11 mw692) rfl rfl rfl (by decide +kernel) ⟨(Nat.le_of_ble_eq_true rfl), (Nat.le_of_ble_eq_true rfl)⟩) ⟨ur_blind, ur_pre hI hO hK (fun _ _ q => q)⟩ rfl rfl hl.1 rfl (lv_room (Nat.le_of_ble_eq_true rfl)) dF_operate_64 ⟨Nat.le_of_ble_eq_true rfl, Nat.le_of_ble_eq_true rfl⟩) hI (fun r40 h40 H locs p40 hI => ?_)
      obtain ⟨er40, eh40⟩ := p40
      replace eh40 := eh40.symm; subst eh40
      replace er40 := er40.symm; subst er40
      refine lv_i2l hx hb dF_operate_67 rfl ?_
      refine lv_ladd hx hb dF_operate_68 ?_
      refine ur_last hx hb hV hI 5 k4 rfl (vp_in_nI (by omega) (by decide)) dF_operate_69 (fun H locs hI => ?_)
      obtain ⟨h41, eh41⟩ : ∃ z : ur_M, z = va_up h1 (b 4) (some (.inl (E.1 5, 10, .inr (.inl (vp_updL (T1.2.1) (Int32.toNatClampNeg (nI pn)) ((T1.1.1) + ((fo_tm (nI pn)).toInt64))))))) := ⟨_, rfl⟩
      replace hI : ur_I D vwCl (ur_A h s.heap.size) s.heap h41 H locs := by rw [eh41]; exact hI
      have fq42 : h41 (b 0) = some (.inr (7, [.ref (b 1), .ref (b 2), .ref (b 3), .long (T1.1.1), .ref (b 4), .ref (b 5), .ref (b 6), .ref (b 7), .int (T1.1.2.1), .ref (b 8), .int (T1.1.2.2.1), .ref (b 9), .ref (b 10), .ref (b 11), .ref (b 12), .ref (b 13), .int (T1.1.2.2.2), .ref (b 14)])) := by rw [eh41]; exact ((va_up_ne _ _ (hT.ne (i := 0) (j := 4) (by decide) (by decide) (by decide))).trans k0)
      have fq43 : h41 (b 4) = some (.inl (E.1 5, 10, .inr (.inl (vp_updL (T1.2.1) (Int32.toNatClampNeg (nI pn)) ((T1.1.1) + ((fo_tm (nI pn)).toInt64)))))) := by rw [eh41]; exact (va_up_self _ _ _)
      have fq44 : h41 (b 5) = some (.inl (E.1 6, 10, .inl (T1.2.2 5))) := by rw [eh41]; exact ((va_up_ne _ _ (hT.ne (i := 5) (j := 4) (by decide) (by decide) (by decide))).trans k5)
      have fq45 : h41 (b 6) = some (.inl (E.1 0, 10, .inl (T1.2.2 6))) := by rw [eh41]; exact ((va_up_ne _ _ (hT.ne (i := 6) (j := 4) (by decide) (by decide) (by decide))).trans k6)
      have fq46 : h41 (b 7) = some (.inl (E.1 0, 10, .inl (T1.2.2 7))) := by rw [eh41]; exact ((va_up_ne _ _ (hT.ne (i := 7) (j := 4) (by decide) (by decide) (by decide))).trans k7)
      have s1 : fo_R E b (fo_pJ T1 (vp_updL T1.2.1 pn (T1.1.1 + (fo_tm (nI pn)).toInt64))) h41 := by rw [eh41, (show Int32.toNatClampNeg (nI pn) = pn from nI_clamp (by omega))]; exact hT1.pJ _
      refine lv_aload_n hx hb dF_operate_70 rfl (lv_at hl 0 rfl) ?_
      refine va_get (D := D) (ci := 7) (v := .ref (b 7)) (C := "UnitRoomModel") (T := TF) (N := 18) hx hb hts inF hown hV (ur_one hI.1 fq42) 0 rfl rfl 7 (by decide) (hts _ mw584) (fun _ h9 => h9) rfl dF_operate_71 ?_
      refine lv_iload hx hb dF_operate_74 (lv_at hl 4 rfl) ?_
      refine lv_aload_n hx hb dF_operate_76 rfl (lv_at hl 0 rfl) ?_
      refine va_get (D := D) (ci := 7) (v := .int (T1.1.2.1)) (C := "UnitRoomModel") (T := TF) (N := 18) hx hb hts inF hown hV (ur_one hI.1 fq42) 0 rfl rfl 8 (by decide) (hts _ mw585) (fun _ h9 => h9) rfl dF_operate_77 ?_
      refine ur_iast hx hb hV hI 0 fq46 rfl (vp_in_nI (by omega) (by decide)) dF_operate_80 (fun H locs hI => ?_)
      obtain ⟨h47, eh47⟩ : ∃ z : ur_M, z = va_up h41 (b 7) (some (.inl (E.1 0, 10, .inl (upd (T1.2.2 7) (Int32.toNatClampNeg (nI pn)) (T1.1.2.1))))) := ⟨_, rfl⟩
      replace hI : ur_I D vwCl (ur_A h s.heap.size) s.heap h47 H locs := by rw [eh47]; exact hI
      have fq48 : h47 (b 0) = some (.inr (7, [.ref (b 1), .ref (b 2), .ref (b 3), .long (T1.1.1), .ref (b 4), .ref (b 5), .ref (b 6), .ref (b 7), .int (T1.1.2.1), .ref (b 8), .int (T1.1.2.2.1), .ref (b 9), .ref (b 10), .ref (b 11), .ref (b 12), .ref (b 13), .int (T1.1.2.2.2), .ref (b 14)])) := by rw [eh47]; exact ((va_up_ne _ _ (hT.ne (i := 0) (j := 7) (by decide) (by decide) (by decide))).trans fq42)
      have fq49 : h47 (b 4) = some (.inl (E.1 5, 10, .inr (.inl (vp_updL (T1.2.1) (Int32.toNatClampNeg (nI pn)) ((T1.1.1) + ((fo_tm (nI pn)).toInt64)))))) := by rw [eh47]; exact ((va_up_ne _ _ (hT.ne (i := 4) (j := 7) (by decide) (by decide) (by decide))).trans fq43)
      have fq50 : h47 (b 5) = some (.inl (E.1 6, 10, .inl (T1.2.2 5))) := by rw [eh47]; exact ((va_up_ne _ _ (hT.ne (i := 5) (j := 7) (by decide) (by decide) (by decide))).trans fq44)
      have fq51 : h47 (b 6) = some (.inl (E.1 0, 10, .inl (T1.2.2 6))) := by rw [eh47]; exact ((va_up_ne _ _ (hT.ne (i := 6) (j := 7) (by decide) (by decide) (by decide))).trans fq45)
      have fq52 : h47 (b 7) = some (.inl (E.1 0, 10, .inl (upd (T1.2.2 7) (Int32.toNatClampNeg (nI pn)) (T1.1.2.1)))) := by rw [eh47]; exact (va_up_self _ _ _)
      have s2 : fo_R E b (fo_pa (fo_pJ T1 (vp_updL T1.2.1 pn (T1.1.1 + (fo_tm (nI pn)).toInt64))) 7 (upd (T1.2.2 7) pn T1.1.2.1)) h47 := by rw [eh47, (show Int32.toNatClampNeg (nI pn) = pn from nI_clamp (by omega))]; exact s1.pa 7 _ (by decide) (by decide) (by decide)
      refine lv_aload_n hx hb dF_operate_81 rfl (lv_at hl 0 rfl) ?_
      refine lv_dup hx hb dF_operate_82 rfl ?_
      refine va_get (D := D) (ci := 7) (v := .int (T1.1.2.1)) (C := "UnitRoomModel") (T := TF) (N := 18) hx hb hts inF hown hV (ur_one hI.1 fq48) 0 rfl rfl 8 (by decide) (hts _ mw585) (fun _ h9 => h9) rfl dF_operate_83 ?_
      refine lv_iconst (v := 1) hx hb dF_operate_86 (by decide) ?_
      refine lv_iadd hx hb dF_operate_87 ?_
      refine ur_put (D := D) (ci := 7) (v := .int ((T1.1.2.1) + 1)) (ty := .int) (C := "UnitRoomModel") (T := TF) (N := 18) hx hb hts inF tyF tyF_ok nmF hown hV hI fq48 rfl 8 (by decide) (hts _ mw585) (fun _ h9 => h9) rfl (by decide +kernel) rfl rfl (Nat.le_of_ble_eq_true rfl) dF_operate_88 (fun H locs hI => ?_)
      obtain ⟨h53, eh53⟩ : ∃ z : ur_M, z = va_up h47 (b 0) (some (.inr (7, [.ref (b 1), .ref (b 2), .ref (b 3), .long (T1.1.1), .ref (b 4), .ref (b 5), .ref (b 6), .ref (b 7), .int ((T1.1.2.1) + 1), .ref (b 8), .int (T1.1.2.2.1), .ref (b 9), .ref (b 10), .ref (b 11), .ref (b 12), .ref (b 13), .int (T1.1.2.2.2), .ref (b 14)]))) := ⟨_, rfl⟩
      replace hI : ur_I D vwCl (ur_A h s.heap.size) s.heap h53 H locs := by rw [eh53]; exact hI
      have fq54 : h53 (b 0) = some (.inr (7, [.ref (b 1), .ref (b 2), .ref (b 3), .long (T1.1.1), .ref (b 4), .ref (b 5), .ref (b 6), .ref (b 7), .int ((T1.1.2.1) + 1), .ref (b 8), .int (T1.1.2.2.1), .ref (b 9), .ref (b 10), .ref (b 11), .ref (b 12), .ref (b 13), .int (T1.1.2.2.2), .ref (b 14)])) := by rw [eh53]; exact (va_up_self _ _ _)
      have fq55 : h53 (b 4) = some (.inl (E.1 5, 10, .inr (.inl (vp_updL (T1.2.1) (Int32.toNatClampNeg (nI pn)) ((T1.1.1) + ((fo_tm (nI pn)).toInt64)))))) := by rw [eh53]; exact ((va_up_ne _ _ (hT.ne (i := 4) (j := 0) (by decide) (by decide) (by decide))).trans fq49)
      have fq56 : h53 (b 5) = some (.inl (E.1 6, 10, .inl (T1.2.2 5))) := by rw [eh53]; exact ((va_up_ne _ _ (hT.ne (i := 5) (j := 0) (by decide) (by decide) (by decide))).trans fq50)
      have fq57 : h53 (b 6) = some (.inl (E.1 0, 10, .inl (T1.2.2 6))) := by rw [eh53]; exact ((va_up_ne _ _ (hT.ne (i := 6) (j := 0) (by decide) (by decide) (by decide))).trans fq51)
      have fq58 : h53 (b 7) = some (.inl (E.1 0, 10, .inl (upd (T1.2.2 7) (Int32.toNatClampNeg (nI pn)) (T1.1.2.1)))) := by rw [eh53]; exact ((va_up_ne _ _ (hT.ne (i := 7) (j := 0) (by decide) (by decide) (by decide))).trans fq52)
      have s3 : fo_R E b (fo_po (fo_pa (fo_pJ T1 (vp_updL T1.2.1 pn (T1.1.1 + (fo_tm (nI pn)).toInt64))) 7 (upd (T1.2.2 7) pn T1.1.2.1)) (T1.1.1, T1.1.2.1 + 1, T1.1.2.2)) h53 := by rw [eh53]; exact s2.po (T1.1.1, T1.1.2.1 + 1, T1.1.2.2)
      refine lv_aload_n hx hb dF_operate_91 rfl (lv_at hl 0 rfl) ?_
      refine va_get (D := D) (ci := 7) (v := .ref (b 5)) (C := "UnitRoomModel") (T := TF) (N := 18) hx hb hts inF hown hV (ur_one hI.1 fq54) 0 rfl rfl 5 (by decide) (hts _ mw582) (fun _ h9 => h9) rfl dF_operate_92 ?_
      refine lv_iload hx hb dF_operate_95 (lv_at hl 4 rfl) ?_
      refine lv_iload_n hx hb dF_operate_97 rfl (lv_at hl 1 rfl) ?_
      refine lv_iconst (v := 1) hx hb dF_operate_98 (by decide) ?_
      refine lv_icmp_ne (tgt := 106) hx hb dF_operate_99 (by decide) (fun c59 => ?_) (fun c59 => absurd c59 (by decide))
      refine lv_iconst (v := 0) hx hb dF_operate_106 (by decide) ?_
      refine ur_zast hx hb hV hI 6 fq56 rfl (vp_in_nI (by omega) (by decide)) dF_operate_107 (fun H locs hI => ?_)
      obtain ⟨h60, eh60⟩ : ∃ z : ur_M, z = va_up h53 (b 5) (some (.inl (E.1 6, 10, .inl (upd (T1.2.2 5) (Int32.toNatClampNeg (nI pn)) (vp_nar .boolean 0))))) := ⟨_, rfl⟩
      replace hI : ur_I D vwCl (ur_A h s.heap.size) s.heap h60 H locs := by rw [eh60]; exact hI
      have fq61 : h60 (b 0) = some (.inr (7, [.ref (b 1), .ref (b 2), .ref (b 3), .long (T1.1.1), .ref (b 4), .ref (b 5), .ref (b 6), .ref (b 7), .int ((T1.1.2.1) + 1), .ref (b 8), .int (T1.1.2.2.1), .ref (b 9), .ref (b 10), .ref (b 11), .ref (b 12), .ref (b 13), .int (T1.1.2.2.2), .ref (b 14)])) := by rw [eh60]; exact ((va_up_ne _ _ (hT.ne (i := 0) (j := 5) (by decide) (by decide) (by decide))).trans fq54)
      have fq62 : h60 (b 4) = some (.inl (E.1 5, 10, .inr (.inl (vp_updL (T1.2.1) (Int32.toNatClampNeg (nI pn)) ((T1.1.1) + ((fo_tm (nI pn)).toInt64)))))) := by rw [eh60]; exact ((va_up_ne _ _ (hT.ne (i := 4) (j := 5) (by decide) (by decide) (by decide))).trans fq55)
      have fq63 : h60 (b 5) = some (.inl (E.1 6, 10, .inl (upd (T1.2.2 5) (Int32.toNatClampNeg (nI pn)) (vp_nar .boolean 0)))) := by rw [eh60]; exact (va_up_self _ _ _)
      have fq64 : h60 (b 6) = some (.inl (E.1 0, 10, .inl (T1.2.2 6))) := by rw [eh60]; exact ((va_up_ne _ _ (hT.ne (i := 6) (j := 5) (by decide) (by decide) (by decide))).trans fq57)
      have fq65 : h60 (b 7) = some (.inl (E.1 0, 10, .inl (upd (T1.2.2 7) (Int32.toNatClampNeg (nI pn)) (T1.1.2.1)))) := by rw [eh60]; exact ((va_up_ne _ _ (hT.ne (i := 7) (j := 5) (by decide) (by decide) (by decide))).trans fq58)
      have s4 : fo_R E b (fo_pa (fo_po (fo_pa (fo_pJ T1 (vp_updL T1.2.1 pn (T1.1.1 + (fo_tm (nI pn)).toInt64))) 7 (upd (T1.2.2 7) pn T1.1.2.1)) (T1.1.1, T1.1.2.1 + 1, T1.1.2.2)) 5 (upd (T1.2.2 5) pn (if (0 : Int32) = 1 then 1 else 0))) h60 := by rw [eh60, (show Int32.toNatClampNeg (nI pn) = pn from nI_clamp (by omega)), fo_nar0, if_neg (by decide)]; exact s3.pa 5 _ (by decide) (by decide) (by decide)
      refine lv_aload_n hx hb dF_operate_108 rfl (lv_at hl 0 rfl) ?_
      refine va_get (D := D) (ci := 7) (v := .ref (b 6)) (C := "UnitRoomModel") (T := TF) (N := 18) hx hb hts inF hown hV (ur_one hI.1 fq61) 0 rfl rfl 6 (by decide) (hts _ mw583) (fun _ h9 => h9) rfl dF_operate_109 ?_
      refine lv_iload hx hb dF_operate_112 (lv_at hl 4 rfl) ?_
      refine lv_iload_n hx hb dF_operate_114 rfl (lv_at hl 2 rfl) ?_
      refine ur_iast hx hb hV hI 0 fq64 rfl (vp_in_nI (by omega) (by decide)) dF_operate_115 (fun H locs hI => ?_)
      obtain ⟨h66, eh66⟩ : ∃ z : ur_M, z = va_up h60 (b 6) (some (.inl (E.1 0, 10, .inl (upd (T1.2.2 6) (Int32.toNatClampNeg (nI pn)) mv)))) := ⟨_, rfl⟩
      replace hI : ur_I D vwCl (ur_A h s.heap.size) s.heap h66 H locs := by rw [eh66]; exact hI
      have fq67 : h66 (b 0) = some (.inr (7, [.ref (b 1), .ref (b 2), .ref (b 3), .long (T1.1.1), .ref (b 4), .ref (b 5), .ref (b 6), .ref (b 7), .int ((T1.1.2.1) + 1), .ref (b 8), .int (T1.1.2.2.1), .ref (b 9), .ref (b 10), .ref (b 11), .ref (b 12), .ref (b 13), .int (T1.1.2.2.2), .ref (b 14)])) := by rw [eh66]; exact ((va_up_ne _ _ (hT.ne (i := 0) (j := 6) (by decide) (by decide) (by decide))).trans fq61)
      have fq68 : h66 (b 4) = some (.inl (E.1 5, 10, .inr (.inl (vp_updL (T1.2.1) (Int32.toNatClampNeg (nI pn)) ((T1.1.1) + ((fo_tm (nI pn)).toInt64)))))) := by rw [eh66]; exact ((va_up_ne _ _ (hT.ne (i := 4) (j := 6) (by decide) (by decide) (by decide))).trans fq62)
      have fq69 : h66 (b 5) = some (.inl (E.1 6, 10, .inl (upd (T1.2.2 5) (Int32.toNatClampNeg (nI pn)) (vp_nar .boolean 0)))) := by rw [eh66]; exact ((va_up_ne _ _ (hT.ne (i := 5) (j := 6) (by decide) (by decide) (by decide))).trans fq63)
      have fq70 : h66 (b 6) = some (.inl (E.1 0, 10, .inl (upd (T1.2.2 6) (Int32.toNatClampNeg (nI pn)) mv))) := by rw [eh66]; exact (va_up_self _ _ _)
      have fq71 : h66 (b 7) = some (.inl (E.1 0, 10, .inl (upd (T1.2.2 7) (Int32.toNatClampNeg (nI pn)) (T1.1.2.1)))) := by rw [eh66]; exact ((va_up_ne _ _ (hT.ne (i := 7) (j := 6) (by decide) (by decide) (by decide))).trans fq65)
      obtain ⟨TB, hTB⟩ : ∃ z, z = fo_bg T1 pn 0 mv := ⟨_, rfl⟩
      have hB : fo_R E b TB h66 := by rw [hTB, eh66, (show Int32.toNatClampNeg (nI pn) = pn from nI_clamp (by omega))]; exact s4.pa 6 _ (by decide) (by decide) (by decide)
      have hB3 : TB.2.2 3 = T.2.2 3 := by rw [hTB, fo_bg_r _ _ _ _ 3 (by decide) (by decide) (by decide)]; exact hr9.2.2 3 (by decide) (by decide)
      have hB10 : TB.2.2 10 = T.2.2 10 := by rw [hTB, fo_bg_r _ _ _ _ 10 (by decide) (by decide) (by decide)]; exact hr9.2.2 10 (by decide) (by decide)
      have hBc : TB.1.2.2.1 = T.1.2.2.1 := by rw [hTB, fo_bg_1]; show T1.1.2.2.1 = _; rw [hr9.2.1]
      have hfin : fo_bg (fo_gg T pn) pn 0 mv = TB := by rw [hgg, hTB]
      have y0 : h66 (b 0) = some (.inr (7, [.ref (b 1), .ref (b 2), .ref (b 3), .long (TB.1.1), .ref (b 4), .ref (b 5), .ref (b 6), .ref (b 7), .int (TB.1.2.1), .ref (b 8), .int (TB.1.2.2.1), .ref (b 9), .ref (b 10), .ref (b 11), .ref (b 12), .ref (b 13), .int (TB.1.2.2.2), .ref (b 14)])) := hB.obj
      have y1 : h66 (b 1) = some (.inl (E.1 0, 4000, .inl (TB.2.2 1))) := hB.arr 1 (by decide) (by decide) (by decide)
      have y2 : h66 (b 2) = some (.inl (E.1 0, 38400, .inl (TB.2.2 2))) := hB.arr 2 (by decide) (by decide) (by decide)
      have y3 : h66 (b 3) = some (.inl (E.1 0, 4, .inl (TB.2.2 3))) := hB.arr 3 (by decide) (by decide) (by decide)
      have y4 : h66 (b 4) = some (.inl (E.1 5, 10, .inr (.inl (TB.2.1)))) := hB.frees
      have y5 : h66 (b 5) = some (.inl (E.1 6, 10, .inl (TB.2.2 5))) := hB.arr 5 (by decide) (by decide) (by decide)
      have y6 : h66 (b 6) = some (.inl (E.1 0, 10, .inl (TB.2.2 6))) := hB.arr 6 (by decide) (by decide) (by decide)
      have y7 : h66 (b 7) = some (.inl (E.1 0, 10, .inl (TB.2.2 7))) := hB.arr 7 (by decide) (by decide) (by decide)
      have y8 : h66 (b 8) = some (.inl (E.1 0, 1000, .inl (TB.2.2 8))) := hB.arr 8 (by decide) (by decide) (by decide)
      have y9 : h66 (b 9) = some (.inl (E.1 0, 8000, .inl (TB.2.2 9))) := hB.arr 9 (by decide) (by decide) (by decide)
      have y10 : h66 (b 10) = some (.inl (E.1 0, 3, .inl (TB.2.2 10))) := hB.arr 10 (by decide) (by decide) (by decide)
      have y11 : h66 (b 11) = some (.inl (E.1 0, 900, .inl (TB.2.2 11))) := hB.arr 11 (by decide) (by decide) (by decide)
      have y12 : h66 (b 12) = some (.inl (E.1 1, 108000, .inl (TB.2.2 12))) := hB.arr 12 (by decide) (by decide) (by decide)
      have y13 : h66 (b 13) = some (.inl (E.1 0, 400, .inl (TB.2.2 13))) := hB.arr 13 (by decide) (by decide) (by decide)
      have y14 : h66 (b 14) = some (.inl (E.1 0, 56, .inl (TB.2.2 14))) := hB.arr 14 (by decide) (by decide) (by decide)
      refine lv_iload_n hx hb dF_operate_116 rfl (lv_at hl 1 rfl) ?_
      refine lv_if_ne (tgt := 130) hx hb dF_operate_117 (by decide) (fun c72 => absurd c72 (by decide)) (fun c72 => ?_)
      refine lv_aload_n hx hb dF_operate_120 rfl (lv_at hl 0 rfl) ?_
      refine lv_iload hx hb dF_operate_121 (lv_at hl 4 rfl) ?_
      refine lv_iload_n hx hb dF_operate_123 rfl (lv_at hl 2 rfl) ?_
      refine ur_xv (va_runV (As := [.int (nI pn), .int mv]) (rest := []) ⟨hx, hb, hml, hown, hts⟩ (kF_ctlN l D E h66 (b 0) (b 1) (b 2) (b 3) (b 4) (b 5) (b 6) (b 7) (b 8) (b 9) (b 10) (b 11) (b 12) (b 13) (b 14) (TB.1.1) (TB.1.2.1) (TB.1.2.2.1) (TB.1.2.2.2) (nI pn) mv y0 (nI_le (a := 4) hp4 (by omega)) (fun z9 => absurd ((nI_eq (b := 8) (by omega) (by decide)).mp z9) (by omega)) H.size) (cwV 2 hts (ur_gV mw693 mw695 ms10 mw11 mw696) rfl rfl rfl (by decide +kernel) ⟨(Nat.le_of_ble_eq_true rfl), (Nat.le_of_ble_eq_true rfl)⟩) ⟨ur_blind, va_recv hV (ur_one hI.1 y0) (ci := 7) (q0 := 0) rfl rfl, ur_pre hI hO hK (fun _ _ q => q)⟩ rfl rfl hl.1 rfl (lv_room (Nat.le_of_ble_eq_true rfl)) dF_operate_124 ⟨Nat.le_of_ble_eq_true rfl, Nat.le_of_ble_eq_true rfl⟩) hI (fun h73 H locs p73 hI => ?_)
      have eh73 := p73
      replace eh73 := eh73.symm; subst eh73
      refine lv_goto (tgt := 206) hx hb dF_operate_127 (by decide) ?_
      refine lv_iconst (v := 0) hx hb dF_operate_206 (by decide) ?_
      exact ur_ri hx hb hr hlocks hI hQ ⟨rfl, (by show fo_R E b _ _; rw [hfin]; exact hB)⟩ dF_operate_207
    · have hl : lv_has ls 7 [(0, .ref (b 0)), (2, .int 0), (3, .int mv), (4, .int x), (5, .int 8)] := hl
      refine lv_aload_n hx hb dF_operate_52 rfl (lv_at hl 0 rfl) ?_
      refine va_get (D := D) (ci := 7) (v := .ref (b 4)) (C := "UnitRoomModel") (T := TF) (N := 18) hx hb hts inF hown hV (ur_one hI.1 k0) 0 rfl rfl 4 (by decide) (hts _ mw581) (fun _ h9 => h9) rfl dF_operate_53 ?_
      refine lv_iload hx hb dF_operate_56 (lv_at hl 4 rfl) ?_
      refine lv_aload_n hx hb dF_operate_58 rfl (lv_at hl 0 rfl) ?_
      refine va_get (D := D) (ci := 7) (v := .long (T1.1.1)) (C := "UnitRoomModel") (T := TF) (N := 18) hx hb hts inF hown hV (ur_one hI.1 k0) 0 rfl rfl 3 (by decide) (hts _ mw580) (fun _ h9 => h9) rfl dF_operate_59 ?_
      refine lv_iload hx hb dF_operate_62 (lv_at hl 4 rfl) ?_
      refine ur_xi (va_runS (As := [.int 8]) (rest := [.long (T1.1.1), .int 8, .ref (b 4)]) ⟨hx, hb, hml, hown, hts⟩ (kF_timeOf l D E h1 8 H.size) (va_cwS 1 hts (ur_gT mw690 mw691 mw11 mw692) rfl rfl rfl (by decide +kernel) ⟨(Nat.le_of_ble_eq_true rfl), (Nat.le_of_ble_eq_true rfl)⟩) ⟨ur_blind, ur_pre hI hO hK (fun _ _ q => q)⟩ rfl rfl hl.1 rfl (lv_room (Nat.le_of_ble_eq_true rfl)) dF_operate_64 ⟨Nat.le_of_ble_eq_true rfl, Nat.le_of_ble_eq_true rfl⟩) hI (fun r74 h74 H locs p74 hI => ?_)
      obtain ⟨er74, eh74⟩ := p74
      replace eh74 := eh74.symm; subst eh74
      replace er74 := er74.symm; subst er74
      refine lv_i2l hx hb dF_operate_67 rfl ?_
      refine lv_ladd hx hb dF_operate_68 ?_
      refine ur_last hx hb hV hI 5 k4 rfl (vp_in_nI (by omega) (by decide)) dF_operate_69 (fun H locs hI => ?_)
      obtain ⟨h75, eh75⟩ : ∃ z : ur_M, z = va_up h1 (b 4) (some (.inl (E.1 5, 10, .inr (.inl (vp_updL (T1.2.1) (Int32.toNatClampNeg 8) ((T1.1.1) + ((fo_tm 8).toInt64))))))) := ⟨_, rfl⟩
      replace hI : ur_I D vwCl (ur_A h s.heap.size) s.heap h75 H locs := by rw [eh75]; exact hI
      have fq76 : h75 (b 0) = some (.inr (7, [.ref (b 1), .ref (b 2), .ref (b 3), .long (T1.1.1), .ref (b 4), .ref (b 5), .ref (b 6), .ref (b 7), .int (T1.1.2.1), .ref (b 8), .int (T1.1.2.2.1), .ref (b 9), .ref (b 10), .ref (b 11), .ref (b 12), .ref (b 13), .int (T1.1.2.2.2), .ref (b 14)])) := by rw [eh75]; exact ((va_up_ne _ _ (hT.ne (i := 0) (j := 4) (by decide) (by decide) (by decide))).trans k0)
      have fq77 : h75 (b 4) = some (.inl (E.1 5, 10, .inr (.inl (vp_updL (T1.2.1) (Int32.toNatClampNeg 8) ((T1.1.1) + ((fo_tm 8).toInt64)))))) := by rw [eh75]; exact (va_up_self _ _ _)
      have fq78 : h75 (b 5) = some (.inl (E.1 6, 10, .inl (T1.2.2 5))) := by rw [eh75]; exact ((va_up_ne _ _ (hT.ne (i := 5) (j := 4) (by decide) (by decide) (by decide))).trans k5)
      have fq79 : h75 (b 6) = some (.inl (E.1 0, 10, .inl (T1.2.2 6))) := by rw [eh75]; exact ((va_up_ne _ _ (hT.ne (i := 6) (j := 4) (by decide) (by decide) (by decide))).trans k6)
      have fq80 : h75 (b 7) = some (.inl (E.1 0, 10, .inl (T1.2.2 7))) := by rw [eh75]; exact ((va_up_ne _ _ (hT.ne (i := 7) (j := 4) (by decide) (by decide) (by decide))).trans k7)
      have s1 : fo_R E b (fo_pJ T1 (vp_updL T1.2.1 8 (T1.1.1 + (fo_tm (nI 8)).toInt64))) h75 := by rw [eh75, (show Int32.toNatClampNeg 8 = 8 from rfl)]; exact hT1.pJ _
      refine lv_aload_n hx hb dF_operate_70 rfl (lv_at hl 0 rfl) ?_
      refine va_get (D := D) (ci := 7) (v := .ref (b 7)) (C := "UnitRoomModel") (T := TF) (N := 18) hx hb hts inF hown hV (ur_one hI.1 fq76) 0 rfl rfl 7 (by decide) (hts _ mw584) (fun _ h9 => h9) rfl dF_operate_71 ?_
      refine lv_iload hx hb dF_operate_74 (lv_at hl 4 rfl) ?_
      refine lv_aload_n hx hb dF_operate_76 rfl (lv_at hl 0 rfl) ?_
      refine va_get (D := D) (ci := 7) (v := .int (T1.1.2.1)) (C := "UnitRoomModel") (T := TF) (N := 18) hx hb hts inF hown hV (ur_one hI.1 fq76) 0 rfl rfl 8 (by decide) (hts _ mw585) (fun _ h9 => h9) rfl dF_operate_77 ?_
      refine ur_iast hx hb hV hI 0 fq80 rfl (vp_in_nI (by omega) (by decide)) dF_operate_80 (fun H locs hI => ?_)
      obtain ⟨h81, eh81⟩ : ∃ z : ur_M, z = va_up h75 (b 7) (some (.inl (E.1 0, 10, .inl (upd (T1.2.2 7) (Int32.toNatClampNeg 8) (T1.1.2.1))))) := ⟨_, rfl⟩
      replace hI : ur_I D vwCl (ur_A h s.heap.size) s.heap h81 H locs := by rw [eh81]; exact hI
      have fq82 : h81 (b 0) = some (.inr (7, [.ref (b 1), .ref (b 2), .ref (b 3), .long (T1.1.1), .ref (b 4), .ref (b 5), .ref (b 6), .ref (b 7), .int (T1.1.2.1), .ref (b 8), .int (T1.1.2.2.1), .ref (b 9), .ref (b 10), .ref (b 11), .ref (b 12), .ref (b 13), .int (T1.1.2.2.2), .ref (b 14)])) := by rw [eh81]; exact ((va_up_ne _ _ (hT.ne (i := 0) (j := 7) (by decide) (by decide) (by decide))).trans fq76)
      have fq83 : h81 (b 4) = some (.inl (E.1 5, 10, .inr (.inl (vp_updL (T1.2.1) (Int32.toNatClampNeg 8) ((T1.1.1) + ((fo_tm 8).toInt64)))))) := by rw [eh81]; exact ((va_up_ne _ _ (hT.ne (i := 4) (j := 7) (by decide) (by decide) (by decide))).trans fq77)
      have fq84 : h81 (b 5) = some (.inl (E.1 6, 10, .inl (T1.2.2 5))) := by rw [eh81]; exact ((va_up_ne _ _ (hT.ne (i := 5) (j := 7) (by decide) (by decide) (by decide))).trans fq78)
      have fq85 : h81 (b 6) = some (.inl (E.1 0, 10, .inl (T1.2.2 6))) := by rw [eh81]; exact ((va_up_ne _ _ (hT.ne (i := 6) (j := 7) (by decide) (by decide) (by decide))).trans fq79)
      have fq86 : h81 (b 7) = some (.inl (E.1 0, 10, .inl (upd (T1.2.2 7) (Int32.toNatClampNeg 8) (T1.1.2.1)))) := by rw [eh81]; exact (va_up_self _ _ _)
      have s2 : fo_R E b (fo_pa (fo_pJ T1 (vp_updL T1.2.1 8 (T1.1.1 + (fo_tm (nI 8)).toInt64))) 7 (upd (T1.2.2 7) 8 T1.1.2.1)) h81 := by rw [eh81, (show Int32.toNatClampNeg 8 = 8 from rfl)]; exact s1.pa 7 _ (by decide) (by decide) (by decide)
      refine lv_aload_n hx hb dF_operate_81 rfl (lv_at hl 0 rfl) ?_
      refine lv_dup hx hb dF_operate_82 rfl ?_
      refine va_get (D := D) (ci := 7) (v := .int (T1.1.2.1)) (C := "UnitRoomModel") (T := TF) (N := 18) hx hb hts inF hown hV (ur_one hI.1 fq82) 0 rfl rfl 8 (by decide) (hts _ mw585) (fun _ h9 => h9) rfl dF_operate_83 ?_
      refine lv_iconst (v := 1) hx hb dF_operate_86 (by decide) ?_
      refine lv_iadd hx hb dF_operate_87 ?_
      refine ur_put (D := D) (ci := 7) (v := .int ((T1.1.2.1) + 1)) (ty := .int) (C := "UnitRoomModel") (T := TF) (N := 18) hx hb hts inF tyF tyF_ok nmF hown hV hI fq82 rfl 8 (by decide) (hts _ mw585) (fun _ h9 => h9) rfl (by decide +kernel) rfl rfl (Nat.le_of_ble_eq_true rfl) dF_operate_88 (fun H locs hI => ?_)
      obtain ⟨h87, eh87⟩ : ∃ z : ur_M, z = va_up h81 (b 0) (some (.inr (7, [.ref (b 1), .ref (b 2), .ref (b 3), .long (T1.1.1), .ref (b 4), .ref (b 5), .ref (b 6), .ref (b 7), .int ((T1.1.2.1) + 1), .ref (b 8), .int (T1.1.2.2.1), .ref (b 9), .ref (b 10), .ref (b 11), .ref (b 12), .ref (b 13), .int (T1.1.2.2.2), .ref (b 14)]))) := ⟨_, rfl⟩
      replace hI : ur_I D vwCl (ur_A h s.heap.size) s.heap h87 H locs := by rw [eh87]; exact hI
      have fq88 : h87 (b 0) = some (.inr (7, [.ref (b 1), .ref (b 2), .ref (b 3), .long (T1.1.1), .ref (b 4), .ref (b 5), .ref (b 6), .ref (b 7), .int ((T1.1.2.1) + 1), .ref (b 8), .int (T1.1.2.2.1), .ref (b 9), .ref (b 10), .ref (b 11), .ref (b 12), .ref (b 13), .int (T1.1.2.2.2), .ref (b 14)])) := by rw [eh87]; exact (va_up_self _ _ _)
      have fq89 : h87 (b 4) = some (.inl (E.1 5, 10, .inr (.inl (vp_updL (T1.2.1) (Int32.toNatClampNeg 8) ((T1.1.1) + ((fo_tm 8).toInt64)))))) := by rw [eh87]; exact ((va_up_ne _ _ (hT.ne (i := 4) (j := 0) (by decide) (by decide) (by decide))).trans fq83)
      have fq90 : h87 (b 5) = some (.inl (E.1 6, 10, .inl (T1.2.2 5))) := by rw [eh87]; exact ((va_up_ne _ _ (hT.ne (i := 5) (j := 0) (by decide) (by decide) (by decide))).trans fq84)
      have fq91 : h87 (b 6) = some (.inl (E.1 0, 10, .inl (T1.2.2 6))) := by rw [eh87]; exact ((va_up_ne _ _ (hT.ne (i := 6) (j := 0) (by decide) (by decide) (by decide))).trans fq85)
      have fq92 : h87 (b 7) = some (.inl (E.1 0, 10, .inl (upd (T1.2.2 7) (Int32.toNatClampNeg 8) (T1.1.2.1)))) := by rw [eh87]; exact ((va_up_ne _ _ (hT.ne (i := 7) (j := 0) (by decide) (by decide) (by decide))).trans fq86)
      have s3 : fo_R E b (fo_po (fo_pa (fo_pJ T1 (vp_updL T1.2.1 8 (T1.1.1 + (fo_tm (nI 8)).toInt64))) 7 (upd (T1.2.2 7) 8 T1.1.2.1)) (T1.1.1, T1.1.2.1 + 1, T1.1.2.2)) h87 := by rw [eh87]; exact s2.po (T1.1.1, T1.1.2.1 + 1, T1.1.2.2)
      refine lv_aload_n hx hb dF_operate_91 rfl (lv_at hl 0 rfl) ?_
      refine va_get (D := D) (ci := 7) (v := .ref (b 5)) (C := "UnitRoomModel") (T := TF) (N := 18) hx hb hts inF hown hV (ur_one hI.1 fq88) 0 rfl rfl 5 (by decide) (hts _ mw582) (fun _ h9 => h9) rfl dF_operate_92 ?_
      refine lv_iload hx hb dF_operate_95 (lv_at hl 4 rfl) ?_
      refine lv_iload_n hx hb dF_operate_97 rfl (lv_at hl 1 rfl) ?_
      refine lv_iconst (v := 1) hx hb dF_operate_98 (by decide) ?_
      refine lv_icmp_ne (tgt := 106) hx hb dF_operate_99 (by decide) (fun c93 => ?_) (fun c93 => absurd c93 (by decide))
      refine lv_iconst (v := 0) hx hb dF_operate_106 (by decide) ?_
      refine ur_zast hx hb hV hI 6 fq90 rfl (vp_in_nI (by omega) (by decide)) dF_operate_107 (fun H locs hI => ?_)
      obtain ⟨h94, eh94⟩ : ∃ z : ur_M, z = va_up h87 (b 5) (some (.inl (E.1 6, 10, .inl (upd (T1.2.2 5) (Int32.toNatClampNeg 8) (vp_nar .boolean 0))))) := ⟨_, rfl⟩
      replace hI : ur_I D vwCl (ur_A h s.heap.size) s.heap h94 H locs := by rw [eh94]; exact hI
      have fq95 : h94 (b 0) = some (.inr (7, [.ref (b 1), .ref (b 2), .ref (b 3), .long (T1.1.1), .ref (b 4), .ref (b 5), .ref (b 6), .ref (b 7), .int ((T1.1.2.1) + 1), .ref (b 8), .int (T1.1.2.2.1), .ref (b 9), .ref (b 10), .ref (b 11), .ref (b 12), .ref (b 13), .int (T1.1.2.2.2), .ref (b 14)])) := by rw [eh94]; exact ((va_up_ne _ _ (hT.ne (i := 0) (j := 5) (by decide) (by decide) (by decide))).trans fq88)
      have fq96 : h94 (b 4) = some (.inl (E.1 5, 10, .inr (.inl (vp_updL (T1.2.1) (Int32.toNatClampNeg 8) ((T1.1.1) + ((fo_tm 8).toInt64)))))) := by rw [eh94]; exact ((va_up_ne _ _ (hT.ne (i := 4) (j := 5) (by decide) (by decide) (by decide))).trans fq89)
      have fq97 : h94 (b 5) = some (.inl (E.1 6, 10, .inl (upd (T1.2.2 5) (Int32.toNatClampNeg 8) (vp_nar .boolean 0)))) := by rw [eh94]; exact (va_up_self _ _ _)
      have fq98 : h94 (b 6) = some (.inl (E.1 0, 10, .inl (T1.2.2 6))) := by rw [eh94]; exact ((va_up_ne _ _ (hT.ne (i := 6) (j := 5) (by decide) (by decide) (by decide))).trans fq91)
      have fq99 : h94 (b 7) = some (.inl (E.1 0, 10, .inl (upd (T1.2.2 7) (Int32.toNatClampNeg 8) (T1.1.2.1)))) := by rw [eh94]; exact ((va_up_ne _ _ (hT.ne (i := 7) (j := 5) (by decide) (by decide) (by decide))).trans fq92)
      have s4 : fo_R E b (fo_pa (fo_po (fo_pa (fo_pJ T1 (vp_updL T1.2.1 8 (T1.1.1 + (fo_tm (nI 8)).toInt64))) 7 (upd (T1.2.2 7) 8 T1.1.2.1)) (T1.1.1, T1.1.2.1 + 1, T1.1.2.2)) 5 (upd (T1.2.2 5) 8 (if (0 : Int32) = 1 then 1 else 0))) h94 := by rw [eh94, (show Int32.toNatClampNeg 8 = 8 from rfl), fo_nar0, if_neg (by decide)]; exact s3.pa 5 _ (by decide) (by decide) (by decide)
      refine lv_aload_n hx hb dF_operate_108 rfl (lv_at hl 0 rfl) ?_
      refine va_get (D := D) (ci := 7) (v := .ref (b 6)) (C := "UnitRoomModel") (T := TF) (N := 18) hx hb hts inF hown hV (ur_one hI.1 fq95) 0 rfl rfl 6 (by decide) (hts _ mw583) (fun _ h9 => h9) rfl dF_operate_109 ?_
      refine lv_iload hx hb dF_operate_112 (lv_at hl 4 rfl) ?_
      refine lv_iload_n hx hb dF_operate_114 rfl (lv_at hl 2 rfl) ?_
      refine ur_iast hx hb hV hI 0 fq98 rfl (vp_in_nI (by omega) (by decide)) dF_operate_115 (fun H locs hI => ?_)
      obtain ⟨h100, eh100⟩ : ∃ z : ur_M, z = va_up h94 (b 6) (some (.inl (E.1 0, 10, .inl (upd (T1.2.2 6) (Int32.toNatClampNeg 8) mv)))) := ⟨_, rfl⟩
      replace hI : ur_I D vwCl (ur_A h s.heap.size) s.heap h100 H locs := by rw [eh100]; exact hI
      have fq101 : h100 (b 0) = some (.inr (7, [.ref (b 1), .ref (b 2), .ref (b 3), .long (T1.1.1), .ref (b 4), .ref (b 5), .ref (b 6), .ref (b 7), .int ((T1.1.2.1) + 1), .ref (b 8), .int (T1.1.2.2.1), .ref (b 9), .ref (b 10), .ref (b 11), .ref (b 12), .ref (b 13), .int (T1.1.2.2.2), .ref (b 14)])) := by rw [eh100]; exact ((va_up_ne _ _ (hT.ne (i := 0) (j := 6) (by decide) (by decide) (by decide))).trans fq95)
      have fq102 : h100 (b 4) = some (.inl (E.1 5, 10, .inr (.inl (vp_updL (T1.2.1) (Int32.toNatClampNeg 8) ((T1.1.1) + ((fo_tm 8).toInt64)))))) := by rw [eh100]; exact ((va_up_ne _ _ (hT.ne (i := 4) (j := 6) (by decide) (by decide) (by decide))).trans fq96)
      have fq103 : h100 (b 5) = some (.inl (E.1 6, 10, .inl (upd (T1.2.2 5) (Int32.toNatClampNeg 8) (vp_nar .boolean 0)))) := by rw [eh100]; exact ((va_up_ne _ _ (hT.ne (i := 5) (j := 6) (by decide) (by decide) (by decide))).trans fq97)
      have fq104 : h100 (b 6) = some (.inl (E.1 0, 10, .inl (upd (T1.2.2 6) (Int32.toNatClampNeg 8) mv))) := by rw [eh100]; exact (va_up_self _ _ _)
      have fq105 : h100 (b 7) = some (.inl (E.1 0, 10, .inl (upd (T1.2.2 7) (Int32.toNatClampNeg 8) (T1.1.2.1)))) := by rw [eh100]; exact ((va_up_ne _ _ (hT.ne (i := 7) (j := 6) (by decide) (by decide) (by decide))).trans fq99)
      obtain ⟨TB, hTB⟩ : ∃ z, z = fo_bg T1 8 0 mv := ⟨_, rfl⟩
      have hB : fo_R E b TB h100 := by rw [hTB, eh100, (show Int32.toNatClampNeg 8 = 8 from rfl)]; exact s4.pa 6 _ (by decide) (by decide) (by decide)
      have hB3 : TB.2.2 3 = T.2.2 3 := by rw [hTB, fo_bg_r _ _ _ _ 3 (by decide) (by decide) (by decide)]; exact hr9.2.2 3 (by decide) (by decide)
      have hB10 : TB.2.2 10 = T.2.2 10 := by rw [hTB, fo_bg_r _ _ _ _ 10 (by decide) (by decide) (by decide)]; exact hr9.2.2 10 (by decide) (by decide)
      have hBc : TB.1.2.2.1 = T.1.2.2.1 := by rw [hTB, fo_bg_1]; show T1.1.2.2.1 = _; rw [hr9.2.1]
      have hfin : fo_bg (fo_gg T 8) 8 0 mv = TB := by rw [hgg, hTB]
      have y0 : h100 (b 0) = some (.inr (7, [.ref (b 1), .ref (b 2), .ref (b 3), .long (TB.1.1), .ref (b 4), .ref (b 5), .ref (b 6), .ref (b 7), .int (TB.1.2.1), .ref (b 8), .int (TB.1.2.2.1), .ref (b 9), .ref (b 10), .ref (b 11), .ref (b 12), .ref (b 13), .int (TB.1.2.2.2), .ref (b 14)])) := hB.obj
      have y12 : h100 (b 12) = some (.inl (E.1 1, 108000, .inl (TB.2.2 12))) := hB.arr 12 (by decide) (by decide) (by decide)
      have y11 : h100 (b 11) = some (.inl (E.1 0, 900, .inl (TB.2.2 11))) := hB.arr 11 (by decide) (by decide) (by decide)
      have y10 : h100 (b 10) = some (.inl (E.1 0, 3, .inl (TB.2.2 10))) := hB.arr 10 (by decide) (by decide) (by decide)
      refine lv_iload_n hx hb dF_operate_116 rfl (lv_at hl 1 rfl) ?_
      refine lv_if_ne (tgt := 130) hx hb dF_operate_117 (by decide) (fun c106 => absurd c106 (by decide)) (fun c106 => ?_)
      refine lv_aload_n hx hb dF_operate_120 rfl (lv_at hl 0 rfl) ?_
      refine lv_iload hx hb dF_operate_121 (lv_at hl 4 rfl) ?_
      refine lv_iload_n hx hb dF_operate_123 rfl (lv_at hl 2 rfl) ?_
      refine ur_xv (va_runV (As := [.int 8, .int mv]) (rest := []) ⟨hx, hb, hml, hown, hts⟩ (kF_ctl8 l D E h100 (b 0) (b 1) (b 2) (b 3) (b 4) (b 5) (b 6) (b 7) (b 8) (b 9) (b 10) (b 11) (b 12) (b 13) (b 14) (TB.1.1) (TB.1.2.1) (TB.1.2.2.1) (TB.1.2.2.2) kn mv (TB.2.2 12) (TB.2.2 11) (TB.2.2 10) y0 y12 y11 y10 (by rw [hB10]; exact hli) hkn H.size) (cwV 2 hts (ur_gV mw693 mw695 ms10 mw11 mw696) rfl rfl rfl (by decide +kernel) ⟨(Nat.le_of_ble_eq_true rfl), (Nat.le_of_ble_eq_true rfl)⟩) ⟨ur_blind, va_recv hV (ur_one hI.1 y0) (ci := 7) (q0 := 0) rfl rfl, ur_pre hI hO hK (fun _ _ q => q)⟩ rfl rfl hl.1 rfl (lv_room (Nat.le_of_ble_eq_true rfl)) dF_operate_124 ⟨Nat.le_of_ble_eq_true rfl, Nat.le_of_ble_eq_true rfl⟩) hI (fun h107 H locs p107 hI => ?_)
      have eh107 := p107
      have fq108 : h107 (b 0) = some (.inr (7, [.ref (b 1), .ref (b 2), .ref (b 3), .long (TB.1.1), .ref (b 4), .ref (b 5), .ref (b 6), .ref (b 7), .int (TB.1.2.1), .ref (b 8), .int (TB.1.2.2.1), .ref (b 9), .ref (b 10), .ref (b 11), .ref (b 12), .ref (b 13), .int (TB.1.2.2.2), .ref (b 14)])) := by rw [eh107]; exact ((va_up_ne _ _ (hT.ne (i := 0) (j := 10) (by decide) (by decide) (by decide))).trans ((va_up_ne _ _ (hT.ne (i := 0) (j := 11) (by decide) (by decide) (by decide))).trans ((va_up_ne _ _ (hT.ne (i := 0) (j := 12) (by decide) (by decide) (by decide))).trans y0)))
      have fq109 : h107 (b 12) = some (.inl (E.1 1, 108000, .inl (upd (TB.2.2 12) (120 * (300 + kn)) (vp_nar .byte 12)))) := by rw [eh107]; exact ((va_up_ne _ _ (hT.ne (i := 12) (j := 10) (by decide) (by decide) (by decide))).trans ((va_up_ne _ _ (hT.ne (i := 12) (j := 11) (by decide) (by decide) (by decide))).trans (va_up_self _ _ _)))
      have fq110 : h107 (b 11) = some (.inl (E.1 0, 900, .inl (upd (TB.2.2 11) (300 + kn) 1))) := by rw [eh107]; exact ((va_up_ne _ _ (hT.ne (i := 11) (j := 10) (by decide) (by decide) (by decide))).trans (va_up_self _ _ _))
      have fq111 : h107 (b 10) = some (.inl (E.1 0, 3, .inl (upd (TB.2.2 10) 1 (nI (kn + 1))))) := by rw [eh107]; exact (va_up_self _ _ _)
      refine lv_goto (tgt := 206) hx hb dF_operate_127 (by decide) ?_
      refine lv_iconst (v := 0) hx hb dF_operate_206 (by decide) ?_
      exact ur_ri hx hb hr hlocks hI hQ ⟨rfl, (by show fo_R E b _ _; rw [hfin, eh107]; exact ((hB.pa 12 _ (by decide) (by decide) (by decide)).pa 11 _ (by decide) (by decide) (by decide)).pa 10 _ (by decide) (by decide) (by decide))⟩ dF_operate_207
    · have hl : lv_has ls 7 [(0, .ref (b 0)), (2, .int 0), (3, .int mv), (4, .int x), (5, .int 8)] := hl
      refine lv_aload_n hx hb dF_operate_52 rfl (lv_at hl 0 rfl) ?_
      refine va_get (D := D) (ci := 7) (v := .ref (b 4)) (C := "UnitRoomModel") (T := TF) (N := 18) hx hb hts inF hown hV (ur_one hI.1 k0) 0 rfl rfl 4 (by decide) (hts _ mw581) (fun _ h9 => h9) rfl dF_operate_53 ?_
      refine lv_iload hx hb dF_operate_56 (lv_at hl 4 rfl) ?_
      refine lv_aload_n hx hb dF_operate_58 rfl (lv_at hl 0 rfl) ?_
      refine va_get (D := D) (ci := 7) (v := .long (T1.1.1)) (C := "UnitRoomModel") (T := TF) (N := 18) hx hb hts inF hown hV (ur_one hI.1 k0) 0 rfl rfl 3 (by decide) (hts _ mw580) (fun _ h9 => h9) rfl dF_operate_59 ?_
      refine lv_iload hx hb dF_operate_62 (lv_at hl 4 rfl) ?_
      refine ur_xi (va_runS (As := [.int 8]) (rest := [.long (T1.1.1), .int 8, .ref (b 4)]) ⟨hx, hb, hml, hown, hts⟩ (kF_timeOf l D E h1 8 H.size) (va_cwS 1 hts (ur_gT mw690 mw691 mw11 mw692) rfl rfl rfl (by decide +kernel) ⟨(Nat.le_of_ble_eq_true rfl), (Nat.le_of_ble_eq_true rfl)⟩) ⟨ur_blind, ur_pre hI hO hK (fun _ _ q => q)⟩ rfl rfl hl.1 rfl (lv_room (Nat.le_of_ble_eq_true rfl)) dF_operate_64 ⟨Nat.le_of_ble_eq_true rfl, Nat.le_of_ble_eq_true rfl⟩) hI (fun r112 h112 H locs p112 hI => ?_)
      obtain ⟨er112, eh112⟩ := p112
      replace eh112 := eh112.symm; subst eh112
      replace er112 := er112.symm; subst er112
      refine lv_i2l hx hb dF_operate_67 rfl ?_
      refine lv_ladd hx hb dF_operate_68 ?_
      refine ur_last hx hb hV hI 5 k4 rfl (vp_in_nI (by omega) (by decide)) dF_operate_69 (fun H locs hI => ?_)
      obtain ⟨h113, eh113⟩ : ∃ z : ur_M, z = va_up h1 (b 4) (some (.inl (E.1 5, 10, .inr (.inl (vp_updL (T1.2.1) (Int32.toNatClampNeg 8) ((T1.1.1) + ((fo_tm 8).toInt64))))))) := ⟨_, rfl⟩
      replace hI : ur_I D vwCl (ur_A h s.heap.size) s.heap h113 H locs := by rw [eh113]; exact hI
      have fq114 : h113 (b 0) = some (.inr (7, [.ref (b 1), .ref (b 2), .ref (b 3), .long (T1.1.1), .ref (b 4), .ref (b 5), .ref (b 6), .ref (b 7), .int (T1.1.2.1), .ref (b 8), .int (T1.1.2.2.1), .ref (b 9), .ref (b 10), .ref (b 11), .ref (b 12), .ref (b 13), .int (T1.1.2.2.2), .ref (b 14)])) := by rw [eh113]; exact ((va_up_ne _ _ (hT.ne (i := 0) (j := 4) (by decide) (by decide) (by decide))).trans k0)
      have fq115 : h113 (b 4) = some (.inl (E.1 5, 10, .inr (.inl (vp_updL (T1.2.1) (Int32.toNatClampNeg 8) ((T1.1.1) + ((fo_tm 8).toInt64)))))) := by rw [eh113]; exact (va_up_self _ _ _)
      have fq116 : h113 (b 5) = some (.inl (E.1 6, 10, .inl (T1.2.2 5))) := by rw [eh113]; exact ((va_up_ne _ _ (hT.ne (i := 5) (j := 4) (by decide) (by decide) (by decide))).trans k5)
      have fq117 : h113 (b 6) = some (.inl (E.1 0, 10, .inl (T1.2.2 6))) := by rw [eh113]; exact ((va_up_ne _ _ (hT.ne (i := 6) (j := 4) (by decide) (by decide) (by decide))).trans k6)
      have fq118 : h113 (b 7) = some (.inl (E.1 0, 10, .inl (T1.2.2 7))) := by rw [eh113]; exact ((va_up_ne _ _ (hT.ne (i := 7) (j := 4) (by decide) (by decide) (by decide))).trans k7)
      have s1 : fo_R E b (fo_pJ T1 (vp_updL T1.2.1 8 (T1.1.1 + (fo_tm (nI 8)).toInt64))) h113 := by rw [eh113, (show Int32.toNatClampNeg 8 = 8 from rfl)]; exact hT1.pJ _
      refine lv_aload_n hx hb dF_operate_70 rfl (lv_at hl 0 rfl) ?_
      refine va_get (D := D) (ci := 7) (v := .ref (b 7)) (C := "UnitRoomModel") (T := TF) (N := 18) hx hb hts inF hown hV (ur_one hI.1 fq114) 0 rfl rfl 7 (by decide) (hts _ mw584) (fun _ h9 => h9) rfl dF_operate_71 ?_
      refine lv_iload hx hb dF_operate_74 (lv_at hl 4 rfl) ?_
      refine lv_aload_n hx hb dF_operate_76 rfl (lv_at hl 0 rfl) ?_
      refine va_get (D := D) (ci := 7) (v := .int (T1.1.2.1)) (C := "UnitRoomModel") (T := TF) (N := 18) hx hb hts inF hown hV (ur_one hI.1 fq114) 0 rfl rfl 8 (by decide) (hts _ mw585) (fun _ h9 => h9) rfl dF_operate_77 ?_
      refine ur_iast hx hb hV hI 0 fq118 rfl (vp_in_nI (by omega) (by decide)) dF_operate_80 (fun H locs hI => ?_)
      obtain ⟨h119, eh119⟩ : ∃ z : ur_M, z = va_up h113 (b 7) (some (.inl (E.1 0, 10, .inl (upd (T1.2.2 7) (Int32.toNatClampNeg 8) (T1.1.2.1))))) := ⟨_, rfl⟩
      replace hI : ur_I D vwCl (ur_A h s.heap.size) s.heap h119 H locs := by rw [eh119]; exact hI
      have fq120 : h119 (b 0) = some (.inr (7, [.ref (b 1), .ref (b 2), .ref (b 3), .long (T1.1.1), .ref (b 4), .ref (b 5), .ref (b 6), .ref (b 7), .int (T1.1.2.1), .ref (b 8), .int (T1.1.2.2.1), .ref (b 9), .ref (b 10), .ref (b 11), .ref (b 12), .ref (b 13), .int (T1.1.2.2.2), .ref (b 14)])) := by rw [eh119]; exact ((va_up_ne _ _ (hT.ne (i := 0) (j := 7) (by decide) (by decide) (by decide))).trans fq114)
      have fq121 : h119 (b 4) = some (.inl (E.1 5, 10, .inr (.inl (vp_updL (T1.2.1) (Int32.toNatClampNeg 8) ((T1.1.1) + ((fo_tm 8).toInt64)))))) := by rw [eh119]; exact ((va_up_ne _ _ (hT.ne (i := 4) (j := 7) (by decide) (by decide) (by decide))).trans fq115)
      have fq122 : h119 (b 5) = some (.inl (E.1 6, 10, .inl (T1.2.2 5))) := by rw [eh119]; exact ((va_up_ne _ _ (hT.ne (i := 5) (j := 7) (by decide) (by decide) (by decide))).trans fq116)
      have fq123 : h119 (b 6) = some (.inl (E.1 0, 10, .inl (T1.2.2 6))) := by rw [eh119]; exact ((va_up_ne _ _ (hT.ne (i := 6) (j := 7) (by decide) (by decide) (by decide))).trans fq117)
      have fq124 : h119 (b 7) = some (.inl (E.1 0, 10, .inl (upd (T1.2.2 7) (Int32.toNatClampNeg 8) (T1.1.2.1)))) := by rw [eh119]; exact (va_up_self _ _ _)
      have s2 : fo_R E b (fo_pa (fo_pJ T1 (vp_updL T1.2.1 8 (T1.1.1 + (fo_tm (nI 8)).toInt64))) 7 (upd (T1.2.2 7) 8 T1.1.2.1)) h119 := by rw [eh119, (show Int32.toNatClampNeg 8 = 8 from rfl)]; exact s1.pa 7 _ (by decide) (by decide) (by decide)
      refine lv_aload_n hx hb dF_operate_81 rfl (lv_at hl 0 rfl) ?_
      refine lv_dup hx hb dF_operate_82 rfl ?_
      refine va_get (D := D) (ci := 7) (v := .int (T1.1.2.1)) (C := "UnitRoomModel") (T := TF) (N := 18) hx hb hts inF hown hV (ur_one hI.1 fq120) 0 rfl rfl 8 (by decide) (hts _ mw585) (fun _ h9 => h9) rfl dF_operate_83 ?_
      refine lv_iconst (v := 1) hx hb dF_operate_86 (by decide) ?_
      refine lv_iadd hx hb dF_operate_87 ?_
      refine ur_put (D := D) (ci := 7) (v := .int ((T1.1.2.1) + 1)) (ty := .int) (C := "UnitRoomModel") (T := TF) (N := 18) hx hb hts inF tyF tyF_ok nmF hown hV hI fq120 rfl 8 (by decide) (hts _ mw585) (fun _ h9 => h9) rfl (by decide +kernel) rfl rfl (Nat.le_of_ble_eq_true rfl) dF_operate_88 (fun H locs hI => ?_)
      obtain ⟨h125, eh125⟩ : ∃ z : ur_M, z = va_up h119 (b 0) (some (.inr (7, [.ref (b 1), .ref (b 2), .ref (b 3), .long (T1.1.1), .ref (b 4), .ref (b 5), .ref (b 6), .ref (b 7), .int ((T1.1.2.1) + 1), .ref (b 8), .int (T1.1.2.2.1), .ref (b 9), .ref (b 10), .ref (b 11), .ref (b 12), .ref (b 13), .int (T1.1.2.2.2), .ref (b 14)]))) := ⟨_, rfl⟩
      replace hI : ur_I D vwCl (ur_A h s.heap.size) s.heap h125 H locs := by rw [eh125]; exact hI
      have fq126 : h125 (b 0) = some (.inr (7, [.ref (b 1), .ref (b 2), .ref (b 3), .long (T1.1.1), .ref (b 4), .ref (b 5), .ref (b 6), .ref (b 7), .int ((T1.1.2.1) + 1), .ref (b 8), .int (T1.1.2.2.1), .ref (b 9), .ref (b 10), .ref (b 11), .ref (b 12), .ref (b 13), .int (T1.1.2.2.2), .ref (b 14)])) := by rw [eh125]; exact (va_up_self _ _ _)
      have fq127 : h125 (b 4) = some (.inl (E.1 5, 10, .inr (.inl (vp_updL (T1.2.1) (Int32.toNatClampNeg 8) ((T1.1.1) + ((fo_tm 8).toInt64)))))) := by rw [eh125]; exact ((va_up_ne _ _ (hT.ne (i := 4) (j := 0) (by decide) (by decide) (by decide))).trans fq121)
      have fq128 : h125 (b 5) = some (.inl (E.1 6, 10, .inl (T1.2.2 5))) := by rw [eh125]; exact ((va_up_ne _ _ (hT.ne (i := 5) (j := 0) (by decide) (by decide) (by decide))).trans fq122)
      have fq129 : h125 (b 6) = some (.inl (E.1 0, 10, .inl (T1.2.2 6))) := by rw [eh125]; exact ((va_up_ne _ _ (hT.ne (i := 6) (j := 0) (by decide) (by decide) (by decide))).trans fq123)
      have fq130 : h125 (b 7) = some (.inl (E.1 0, 10, .inl (upd (T1.2.2 7) (Int32.toNatClampNeg 8) (T1.1.2.1)))) := by rw [eh125]; exact ((va_up_ne _ _ (hT.ne (i := 7) (j := 0) (by decide) (by decide) (by decide))).trans fq124)
      have s3 : fo_R E b (fo_po (fo_pa (fo_pJ T1 (vp_updL T1.2.1 8 (T1.1.1 + (fo_tm (nI 8)).toInt64))) 7 (upd (T1.2.2 7) 8 T1.1.2.1)) (T1.1.1, T1.1.2.1 + 1, T1.1.2.2)) h125 := by rw [eh125]; exact s2.po (T1.1.1, T1.1.2.1 + 1, T1.1.2.2)
      refine lv_aload_n hx hb dF_operate_91 rfl (lv_at hl 0 rfl) ?_
      refine va_get (D := D) (ci := 7) (v := .ref (b 5)) (C := "UnitRoomModel") (T := TF) (N := 18) hx hb hts inF hown hV (ur_one hI.1 fq126) 0 rfl rfl 5 (by decide) (hts _ mw582) (fun _ h9 => h9) rfl dF_operate_92 ?_
      refine lv_iload hx hb dF_operate_95 (lv_at hl 4 rfl) ?_
      refine lv_iload_n hx hb dF_operate_97 rfl (lv_at hl 1 rfl) ?_
      refine lv_iconst (v := 1) hx hb dF_operate_98 (by decide) ?_
      refine lv_icmp_ne (tgt := 106) hx hb dF_operate_99 (by decide) (fun c131 => ?_) (fun c131 => absurd c131 (by decide))
      refine lv_iconst (v := 0) hx hb dF_operate_106 (by decide) ?_
      refine ur_zast hx hb hV hI 6 fq128 rfl (vp_in_nI (by omega) (by decide)) dF_operate_107 (fun H locs hI => ?_)
      obtain ⟨h132, eh132⟩ : ∃ z : ur_M, z = va_up h125 (b 5) (some (.inl (E.1 6, 10, .inl (upd (T1.2.2 5) (Int32.toNatClampNeg 8) (vp_nar .boolean 0))))) := ⟨_, rfl⟩
      replace hI : ur_I D vwCl (ur_A h s.heap.size) s.heap h132 H locs := by rw [eh132]; exact hI
      have fq133 : h132 (b 0) = some (.inr (7, [.ref (b 1), .ref (b 2), .ref (b 3), .long (T1.1.1), .ref (b 4), .ref (b 5), .ref (b 6), .ref (b 7), .int ((T1.1.2.1) + 1), .ref (b 8), .int (T1.1.2.2.1), .ref (b 9), .ref (b 10), .ref (b 11), .ref (b 12), .ref (b 13), .int (T1.1.2.2.2), .ref (b 14)])) := by rw [eh132]; exact ((va_up_ne _ _ (hT.ne (i := 0) (j := 5) (by decide) (by decide) (by decide))).trans fq126)
      have fq134 : h132 (b 4) = some (.inl (E.1 5, 10, .inr (.inl (vp_updL (T1.2.1) (Int32.toNatClampNeg 8) ((T1.1.1) + ((fo_tm 8).toInt64)))))) := by rw [eh132]; exact ((va_up_ne _ _ (hT.ne (i := 4) (j := 5) (by decide) (by decide) (by decide))).trans fq127)
      have fq135 : h132 (b 5) = some (.inl (E.1 6, 10, .inl (upd (T1.2.2 5) (Int32.toNatClampNeg 8) (vp_nar .boolean 0)))) := by rw [eh132]; exact (va_up_self _ _ _)
      have fq136 : h132 (b 6) = some (.inl (E.1 0, 10, .inl (T1.2.2 6))) := by rw [eh132]; exact ((va_up_ne _ _ (hT.ne (i := 6) (j := 5) (by decide) (by decide) (by decide))).trans fq129)
      have fq137 : h132 (b 7) = some (.inl (E.1 0, 10, .inl (upd (T1.2.2 7) (Int32.toNatClampNeg 8) (T1.1.2.1)))) := by rw [eh132]; exact ((va_up_ne _ _ (hT.ne (i := 7) (j := 5) (by decide) (by decide) (by decide))).trans fq130)
      have s4 : fo_R E b (fo_pa (fo_po (fo_pa (fo_pJ T1 (vp_updL T1.2.1 8 (T1.1.1 + (fo_tm (nI 8)).toInt64))) 7 (upd (T1.2.2 7) 8 T1.1.2.1)) (T1.1.1, T1.1.2.1 + 1, T1.1.2.2)) 5 (upd (T1.2.2 5) 8 (if (0 : Int32) = 1 then 1 else 0))) h132 := by rw [eh132, (show Int32.toNatClampNeg 8 = 8 from rfl), fo_nar0, if_neg (by decide)]; exact s3.pa 5 _ (by decide) (by decide) (by decide)
      refine lv_aload_n hx hb dF_operate_108 rfl (lv_at hl 0 rfl) ?_
      refine va_get (D := D) (ci := 7) (v := .ref (b 6)) (C := "UnitRoomModel") (T := TF) (N := 18) hx hb hts inF hown hV (ur_one hI.1 fq133) 0 rfl rfl 6 (by decide) (hts _ mw583) (fun _ h9 => h9) rfl dF_operate_109 ?_
      refine lv_iload hx hb dF_operate_112 (lv_at hl 4 rfl) ?_
      refine lv_iload_n hx hb dF_operate_114 rfl (lv_at hl 2 rfl) ?_
      refine ur_iast hx hb hV hI 0 fq136 rfl (vp_in_nI (by omega) (by decide)) dF_operate_115 (fun H locs hI => ?_)
      obtain ⟨h138, eh138⟩ : ∃ z : ur_M, z = va_up h132 (b 6) (some (.inl (E.1 0, 10, .inl (upd (T1.2.2 6) (Int32.toNatClampNeg 8) mv)))) := ⟨_, rfl⟩
      replace hI : ur_I D vwCl (ur_A h s.heap.size) s.heap h138 H locs := by rw [eh138]; exact hI
      have fq139 : h138 (b 0) = some (.inr (7, [.ref (b 1), .ref (b 2), .ref (b 3), .long (T1.1.1), .ref (b 4), .ref (b 5), .ref (b 6), .ref (b 7), .int ((T1.1.2.1) + 1), .ref (b 8), .int (T1.1.2.2.1), .ref (b 9), .ref (b 10), .ref (b 11), .ref (b 12), .ref (b 13), .int (T1.1.2.2.2), .ref (b 14)])) := by rw [eh138]; exact ((va_up_ne _ _ (hT.ne (i := 0) (j := 6) (by decide) (by decide) (by decide))).trans fq133)
      have fq140 : h138 (b 4) = some (.inl (E.1 5, 10, .inr (.inl (vp_updL (T1.2.1) (Int32.toNatClampNeg 8) ((T1.1.1) + ((fo_tm 8).toInt64)))))) := by rw [eh138]; exact ((va_up_ne _ _ (hT.ne (i := 4) (j := 6) (by decide) (by decide) (by decide))).trans fq134)
      have fq141 : h138 (b 5) = some (.inl (E.1 6, 10, .inl (upd (T1.2.2 5) (Int32.toNatClampNeg 8) (vp_nar .boolean 0)))) := by rw [eh138]; exact ((va_up_ne _ _ (hT.ne (i := 5) (j := 6) (by decide) (by decide) (by decide))).trans fq135)
      have fq142 : h138 (b 6) = some (.inl (E.1 0, 10, .inl (upd (T1.2.2 6) (Int32.toNatClampNeg 8) mv))) := by rw [eh138]; exact (va_up_self _ _ _)
      have fq143 : h138 (b 7) = some (.inl (E.1 0, 10, .inl (upd (T1.2.2 7) (Int32.toNatClampNeg 8) (T1.1.2.1)))) := by rw [eh138]; exact ((va_up_ne _ _ (hT.ne (i := 7) (j := 6) (by decide) (by decide) (by decide))).trans fq137)
      obtain ⟨TB, hTB⟩ : ∃ z, z = fo_bg T1 8 0 mv := ⟨_, rfl⟩
      have hB : fo_R E b TB h138 := by rw [hTB, eh138, (show Int32.toNatClampNeg 8 = 8 from rfl)]; exact s4.pa 6 _ (by decide) (by decide) (by decide)
      have hB3 : TB.2.2 3 = T.2.2 3 := by rw [hTB, fo_bg_r _ _ _ _ 3 (by decide) (by decide) (by decide)]; exact hr9.2.2 3 (by decide) (by decide)
      have hB10 : TB.2.2 10 = T.2.2 10 := by rw [hTB, fo_bg_r _ _ _ _ 10 (by decide) (by decide) (by decide)]; exact hr9.2.2 10 (by decide) (by decide)
      have hBc : TB.1.2.2.1 = T.1.2.2.1 := by rw [hTB, fo_bg_1]; show T1.1.2.2.1 = _; rw [hr9.2.1]
      have hfin : fo_bg (fo_gg T 8) 8 0 mv = TB := by rw [hgg, hTB]
      have y0 : h138 (b 0) = some (.inr (7, [.ref (b 1), .ref (b 2), .ref (b 3), .long (TB.1.1), .ref (b 4), .ref (b 5), .ref (b 6), .ref (b 7), .int (TB.1.2.1), .ref (b 8), .int (TB.1.2.2.1), .ref (b 9), .ref (b 10), .ref (b 11), .ref (b 12), .ref (b 13), .int (TB.1.2.2.2), .ref (b 14)])) := hB.obj
      have y12 : h138 (b 12) = some (.inl (E.1 1, 108000, .inl (TB.2.2 12))) := hB.arr 12 (by decide) (by decide) (by decide)
      have y11 : h138 (b 11) = some (.inl (E.1 0, 900, .inl (TB.2.2 11))) := hB.arr 11 (by decide) (by decide) (by decide)
      have y10 : h138 (b 10) = some (.inl (E.1 0, 3, .inl (TB.2.2 10))) := hB.arr 10 (by decide) (by decide) (by decide)
      refine lv_iload_n hx hb dF_operate_116 rfl (lv_at hl 1 rfl) ?_
      refine lv_if_ne (tgt := 130) hx hb dF_operate_117 (by decide) (fun c144 => absurd c144 (by decide)) (fun c144 => ?_)
      refine lv_aload_n hx hb dF_operate_120 rfl (lv_at hl 0 rfl) ?_
      refine lv_iload hx hb dF_operate_121 (lv_at hl 4 rfl) ?_
      refine lv_iload_n hx hb dF_operate_123 rfl (lv_at hl 2 rfl) ?_
      refine ur_xv (va_runV (As := [.int 8, .int mv]) (rest := []) ⟨hx, hb, hml, hown, hts⟩ (kF_ctl8F l D E h138 (b 0) (b 1) (b 2) (b 3) (b 4) (b 5) (b 6) (b 7) (b 8) (b 9) (b 10) (b 11) (b 12) (b 13) (b 14) (TB.1.1) (TB.1.2.1) (TB.1.2.2.1) (TB.1.2.2.2) 300 mv (TB.2.2 12) (TB.2.2 11) (TB.2.2 10) y0 y12 y11 y10 (by rw [hB10]; exact hli) rfl H.size) (cwV 2 hts (ur_gV mw693 mw695 ms10 mw11 mw696) rfl rfl rfl (by decide +kernel) ⟨(Nat.le_of_ble_eq_true rfl), (Nat.le_of_ble_eq_true rfl)⟩) ⟨ur_blind, va_recv hV (ur_one hI.1 y0) (ci := 7) (q0 := 0) rfl rfl, ur_pre hI hO hK (fun _ _ q => q)⟩ rfl rfl hl.1 rfl (lv_room (Nat.le_of_ble_eq_true rfl)) dF_operate_124 ⟨Nat.le_of_ble_eq_true rfl, Nat.le_of_ble_eq_true rfl⟩) hI (fun h145 H locs p145 hI => ?_)
      have eh145 := p145
      replace eh145 := eh145.symm; subst eh145
      refine lv_goto (tgt := 206) hx hb dF_operate_127 (by decide) ?_
      refine lv_iconst (v := 0) hx hb dF_operate_206 (by decide) ?_
      exact ur_ri hx hb hr hlocks hI hQ ⟨rfl, (by show fo_R E b _ _; rw [hfin]; exact hB)⟩ dF_operate_207
    · have hl : lv_has ls 7 [(0, .ref (b 0)), (2, .int 1), (3, .int mv), (4, .int x), (5, .int (nI pn))] := hl
      refine lv_aload_n hx hb dF_operate_52 rfl (lv_at hl 0 rfl) ?_
      refine va_get (D := D) (ci := 7) (v := .ref (b 4)) (C := "UnitRoomModel") (T := TF) (N := 18) hx hb hts inF hown hV (ur_one hI.1 k0) 0 rfl rfl 4 (by decide) (hts _ mw581) (fun _ h9 => h9) rfl dF_operate_53 ?_
      refine lv_iload hx hb dF_operate_56 (lv_at hl 4 rfl) ?_
      refine lv_aload_n hx hb dF_operate_58 rfl (lv_at hl 0 rfl) ?_
      refine va_get (D := D) (ci := 7) (v := .long (T1.1.1)) (C := "UnitRoomModel") (T := TF) (N := 18) hx hb hts inF hown hV (ur_one hI.1 k0) 0 rfl rfl 3 (by decide) (hts _ mw580) (fun _ h9 => h9) rfl dF_operate_59 ?_
      refine lv_iload hx hb dF_operate_62 (lv_at hl 4 rfl) ?_
      refine ur_xi (va_runS (As := [.int (nI pn)]) (rest := [.long (T1.1.1), .int (nI pn), .ref (b 4)]) ⟨hx, hb, hml, hown, hts⟩ (kF_timeOf l D E h1 (nI pn) H.size) (va_cwS 1 hts (ur_gT mw690 mw691 mw11 mw692) rfl rfl rfl (by decide +kernel) ⟨(Nat.le_of_ble_eq_true rfl), (Nat.le_of_ble_eq_true rfl)⟩) ⟨ur_blind, ur_pre hI hO hK (fun _ _ q => q)⟩ rfl rfl hl.1 rfl (lv_room (Nat.le_of_ble_eq_true rfl)) dF_operate_64 ⟨Nat.le_of_ble_eq_true rfl, Nat.le_of_ble_eq_true rfl⟩) hI (fun r146 h146 H locs p146 hI => ?_)
      obtain ⟨er146, eh146⟩ := p146
      replace eh146 := eh146.symm; subst eh146
      replace er146 := er146.symm; subst er146
      refine lv_i2l hx hb dF_operate_67 rfl ?_
      refine lv_ladd hx hb dF_operate_68 ?_
      refine ur_last hx hb hV hI 5 k4 rfl (vp_in_nI (by omega) (by decide)) dF_operate_69 (fun H locs hI => ?_)
      obtain ⟨h147, eh147⟩ : ∃ z : ur_M, z = va_up h1 (b 4) (some (.inl (E.1 5, 10, .inr (.inl (vp_updL (T1.2.1) (Int32.toNatClampNeg (nI pn)) ((T1.1.1) + ((fo_tm (nI pn)).toInt64))))))) := ⟨_, rfl⟩
      replace hI : ur_I D vwCl (ur_A h s.heap.size) s.heap h147 H locs := by rw [eh147]; exact hI
      have fq148 : h147 (b 0) = some (.inr (7, [.ref (b 1), .ref (b 2), .ref (b 3), .long (T1.1.1), .ref (b 4), .ref (b 5), .ref (b 6), .ref (b 7), .int (T1.1.2.1), .ref (b 8), .int (T1.1.2.2.1), .ref (b 9), .ref (b 10), .ref (b 11), .ref (b 12), .ref (b 13), .int (T1.1.2.2.2), .ref (b 14)])) := by rw [eh147]; exact ((va_up_ne _ _ (hT.ne (i := 0) (j := 4) (by decide) (by decide) (by decide))).trans k0)
      have fq149 : h147 (b 4) = some (.inl (E.1 5, 10, .inr (.inl (vp_updL (T1.2.1) (Int32.toNatClampNeg (nI pn)) ((T1.1.1) + ((fo_tm (nI pn)).toInt64)))))) := by rw [eh147]; exact (va_up_self _ _ _)
      have fq150 : h147 (b 5) = some (.inl (E.1 6, 10, .inl (T1.2.2 5))) := by rw [eh147]; exact ((va_up_ne _ _ (hT.ne (i := 5) (j := 4) (by decide) (by decide) (by decide))).trans k5)
      have fq151 : h147 (b 6) = some (.inl (E.1 0, 10, .inl (T1.2.2 6))) := by rw [eh147]; exact ((va_up_ne _ _ (hT.ne (i := 6) (j := 4) (by decide) (by decide) (by decide))).trans k6)
      have fq152 : h147 (b 7) = some (.inl (E.1 0, 10, .inl (T1.2.2 7))) := by rw [eh147]; exact ((va_up_ne _ _ (hT.ne (i := 7) (j := 4) (by decide) (by decide) (by decide))).trans k7)
      have s1 : fo_R E b (fo_pJ T1 (vp_updL T1.2.1 pn (T1.1.1 + (fo_tm (nI pn)).toInt64))) h147 := by rw [eh147, (show Int32.toNatClampNeg (nI pn) = pn from nI_clamp (by omega))]; exact hT1.pJ _
      refine lv_aload_n hx hb dF_operate_70 rfl (lv_at hl 0 rfl) ?_
      refine va_get (D := D) (ci := 7) (v := .ref (b 7)) (C := "UnitRoomModel") (T := TF) (N := 18) hx hb hts inF hown hV (ur_one hI.1 fq148) 0 rfl rfl 7 (by decide) (hts _ mw584) (fun _ h9 => h9) rfl dF_operate_71 ?_
      refine lv_iload hx hb dF_operate_74 (lv_at hl 4 rfl) ?_
      refine lv_aload_n hx hb dF_operate_76 rfl (lv_at hl 0 rfl) ?_
      refine va_get (D := D) (ci := 7) (v := .int (T1.1.2.1)) (C := "UnitRoomModel") (T := TF) (N := 18) hx hb hts inF hown hV (ur_one hI.1 fq148) 0 rfl rfl 8 (by decide) (hts _ mw585) (fun _ h9 => h9) rfl dF_operate_77 ?_
      refine ur_iast hx hb hV hI 0 fq152 rfl (vp_in_nI (by omega) (by decide)) dF_operate_80 (fun H locs hI => ?_)
      obtain ⟨h153, eh153⟩ : ∃ z : ur_M, z = va_up h147 (b 7) (some (.inl (E.1 0, 10, .inl (upd (T1.2.2 7) (Int32.toNatClampNeg (nI pn)) (T1.1.2.1))))) := ⟨_, rfl⟩
      replace hI : ur_I D vwCl (ur_A h s.heap.size) s.heap h153 H locs := by rw [eh153]; exact hI
      have fq154 : h153 (b 0) = some (.inr (7, [.ref (b 1), .ref (b 2), .ref (b 3), .long (T1.1.1), .ref (b 4), .ref (b 5), .ref (b 6), .ref (b 7), .int (T1.1.2.1), .ref (b 8), .int (T1.1.2.2.1), .ref (b 9), .ref (b 10), .ref (b 11), .ref (b 12), .ref (b 13), .int (T1.1.2.2.2), .ref (b 14)])) := by rw [eh153]; exact ((va_up_ne _ _ (hT.ne (i := 0) (j := 7) (by decide) (by decide) (by decide))).trans fq148)
      have fq155 : h153 (b 4) = some (.inl (E.1 5, 10, .inr (.inl (vp_updL (T1.2.1) (Int32.toNatClampNeg (nI pn)) ((T1.1.1) + ((fo_tm (nI pn)).toInt64)))))) := by rw [eh153]; exact ((va_up_ne _ _ (hT.ne (i := 4) (j := 7) (by decide) (by decide) (by decide))).trans fq149)
      have fq156 : h153 (b 5) = some (.inl (E.1 6, 10, .inl (T1.2.2 5))) := by rw [eh153]; exact ((va_up_ne _ _ (hT.ne (i := 5) (j := 7) (by decide) (by decide) (by decide))).trans fq150)
      have fq157 : h153 (b 6) = some (.inl (E.1 0, 10, .inl (T1.2.2 6))) := by rw [eh153]; exact ((va_up_ne _ _ (hT.ne (i := 6) (j := 7) (by decide) (by decide) (by decide))).trans fq151)
      have fq158 : h153 (b 7) = some (.inl (E.1 0, 10, .inl (upd (T1.2.2 7) (Int32.toNatClampNeg (nI pn)) (T1.1.2.1)))) := by rw [eh153]; exact (va_up_self _ _ _)
      have s2 : fo_R E b (fo_pa (fo_pJ T1 (vp_updL T1.2.1 pn (T1.1.1 + (fo_tm (nI pn)).toInt64))) 7 (upd (T1.2.2 7) pn T1.1.2.1)) h153 := by rw [eh153, (show Int32.toNatClampNeg (nI pn) = pn from nI_clamp (by omega))]; exact s1.pa 7 _ (by decide) (by decide) (by decide)
      refine lv_aload_n hx hb dF_operate_81 rfl (lv_at hl 0 rfl) ?_
      refine lv_dup hx hb dF_operate_82 rfl ?_
      refine va_get (D := D) (ci := 7) (v := .int (T1.1.2.1)) (C := "UnitRoomModel") (T := TF) (N := 18) hx hb hts inF hown hV (ur_one hI.1 fq154) 0 rfl rfl 8 (by decide) (hts _ mw585) (fun _ h9 => h9) rfl dF_operate_83 ?_
      refine lv_iconst (v := 1) hx hb dF_operate_86 (by decide) ?_
      refine lv_iadd hx hb dF_operate_87 ?_
      refine ur_put (D := D) (ci := 7) (v := .int ((T1.1.2.1) + 1)) (ty := .int) (C := "UnitRoomModel") (T := TF) (N := 18) hx hb hts inF tyF tyF_ok nmF hown hV hI fq154 rfl 8 (by decide) (hts _ mw585) (fun _ h9 => h9) rfl (by decide +kernel) rfl rfl (Nat.le_of_ble_eq_true rfl) dF_operate_88 (fun H locs hI => ?_)
      obtain ⟨h159, eh159⟩ : ∃ z : ur_M, z = va_up h153 (b 0) (some (.inr (7, [.ref (b 1), .ref (b 2), .ref (b 3), .long (T1.1.1), .ref (b 4), .ref (b 5), .ref (b 6), .ref (b 7), .int ((T1.1.2.1) + 1), .ref (b 8), .int (T1.1.2.2.1), .ref (b 9), .ref (b 10), .ref (b 11), .ref (b 12), .ref (b 13), .int (T1.1.2.2.2), .ref (b 14)]))) := ⟨_, rfl⟩
      replace hI : ur_I D vwCl (ur_A h s.heap.size) s.heap h159 H locs := by rw [eh159]; exact hI
      have fq160 : h159 (b 0) = some (.inr (7, [.ref (b 1), .ref (b 2), .ref (b 3), .long (T1.1.1), .ref (b 4), .ref (b 5), .ref (b 6), .ref (b 7), .int ((T1.1.2.1) + 1), .ref (b 8), .int (T1.1.2.2.1), .ref (b 9), .ref (b 10), .ref (b 11), .ref (b 12), .ref (b 13), .int (T1.1.2.2.2), .ref (b 14)])) := by rw [eh159]; exact (va_up_self _ _ _)
      have fq161 : h159 (b 4) = some (.inl (E.1 5, 10, .inr (.inl (vp_updL (T1.2.1) (Int32.toNatClampNeg (nI pn)) ((T1.1.1) + ((fo_tm (nI pn)).toInt64)))))) := by rw [eh159]; exact ((va_up_ne _ _ (hT.ne (i := 4) (j := 0) (by decide) (by decide) (by decide))).trans fq155)
      have fq162 : h159 (b 5) = some (.inl (E.1 6, 10, .inl (T1.2.2 5))) := by rw [eh159]; exact ((va_up_ne _ _ (hT.ne (i := 5) (j := 0) (by decide) (by decide) (by decide))).trans fq156)
      have fq163 : h159 (b 6) = some (.inl (E.1 0, 10, .inl (T1.2.2 6))) := by rw [eh159]; exact ((va_up_ne _ _ (hT.ne (i := 6) (j := 0) (by decide) (by decide) (by decide))).trans fq157)
      have fq164 : h159 (b 7) = some (.inl (E.1 0, 10, .inl (upd (T1.2.2 7) (Int32.toNatClampNeg (nI pn)) (T1.1.2.1)))) := by rw [eh159]; exact ((va_up_ne _ _ (hT.ne (i := 7) (j := 0) (by decide) (by decide) (by decide))).trans fq158)
      have s3 : fo_R E b (fo_po (fo_pa (fo_pJ T1 (vp_updL T1.2.1 pn (T1.1.1 + (fo_tm (nI pn)).toInt64))) 7 (upd (T1.2.2 7) pn T1.1.2.1)) (T1.1.1, T1.1.2.1 + 1, T1.1.2.2)) h159 := by rw [eh159]; exact s2.po (T1.1.1, T1.1.2.1 + 1, T1.1.2.2)
      refine lv_aload_n hx hb dF_operate_91 rfl (lv_at hl 0 rfl) ?_
      refine va_get (D := D) (ci := 7) (v := .ref (b 5)) (C := "UnitRoomModel") (T := TF) (N := 18) hx hb hts inF hown hV (ur_one hI.1 fq160) 0 rfl rfl 5 (by decide) (hts _ mw582) (fun _ h9 => h9) rfl dF_operate_92 ?_
      refine lv_iload hx hb dF_operate_95 (lv_at hl 4 rfl) ?_
      refine lv_iload_n hx hb dF_operate_97 rfl (lv_at hl 1 rfl) ?_
      refine lv_iconst (v := 1) hx hb dF_operate_98 (by decide) ?_
      refine lv_icmp_ne (tgt := 106) hx hb dF_operate_99 (by decide) (fun c165 => absurd c165 (by decide)) (fun c165 => ?_)
      refine lv_iconst (v := 1) hx hb dF_operate_102 (by decide) ?_
      refine lv_goto (tgt := 107) hx hb dF_operate_103 (by decide) ?_
      refine ur_zast hx hb hV hI 6 fq162 rfl (vp_in_nI (by omega) (by decide)) dF_operate_107 (fun H locs hI => ?_)
      obtain ⟨h166, eh166⟩ : ∃ z : ur_M, z = va_up h159 (b 5) (some (.inl (E.1 6, 10, .inl (upd (T1.2.2 5) (Int32.toNatClampNeg (nI pn)) (vp_nar .boolean 1))))) := ⟨_, rfl⟩
      replace hI : ur_I D vwCl (ur_A h s.heap.size) s.heap h166 H locs := by rw [eh166]; exact hI
      have fq167 : h166 (b 0) = some (.inr (7, [.ref (b 1), .ref (b 2), .ref (b 3), .long (T1.1.1), .ref (b 4), .ref (b 5), .ref (b 6), .ref (b 7), .int ((T1.1.2.1) + 1), .ref (b 8), .int (T1.1.2.2.1), .ref (b 9), .ref (b 10), .ref (b 11), .ref (b 12), .ref (b 13), .int (T1.1.2.2.2), .ref (b 14)])) := by rw [eh166]; exact ((va_up_ne _ _ (hT.ne (i := 0) (j := 5) (by decide) (by decide) (by decide))).trans fq160)
      have fq168 : h166 (b 4) = some (.inl (E.1 5, 10, .inr (.inl (vp_updL (T1.2.1) (Int32.toNatClampNeg (nI pn)) ((T1.1.1) + ((fo_tm (nI pn)).toInt64)))))) := by rw [eh166]; exact ((va_up_ne _ _ (hT.ne (i := 4) (j := 5) (by decide) (by decide) (by decide))).trans fq161)
      have fq169 : h166 (b 5) = some (.inl (E.1 6, 10, .inl (upd (T1.2.2 5) (Int32.toNatClampNeg (nI pn)) (vp_nar .boolean 1)))) := by rw [eh166]; exact (va_up_self _ _ _)
      have fq170 : h166 (b 6) = some (.inl (E.1 0, 10, .inl (T1.2.2 6))) := by rw [eh166]; exact ((va_up_ne _ _ (hT.ne (i := 6) (j := 5) (by decide) (by decide) (by decide))).trans fq163)
      have fq171 : h166 (b 7) = some (.inl (E.1 0, 10, .inl (upd (T1.2.2 7) (Int32.toNatClampNeg (nI pn)) (T1.1.2.1)))) := by rw [eh166]; exact ((va_up_ne _ _ (hT.ne (i := 7) (j := 5) (by decide) (by decide) (by decide))).trans fq164)
      have s4 : fo_R E b (fo_pa (fo_po (fo_pa (fo_pJ T1 (vp_updL T1.2.1 pn (T1.1.1 + (fo_tm (nI pn)).toInt64))) 7 (upd (T1.2.2 7) pn T1.1.2.1)) (T1.1.1, T1.1.2.1 + 1, T1.1.2.2)) 5 (upd (T1.2.2 5) pn (if (1 : Int32) = 1 then 1 else 0))) h166 := by rw [eh166, (show Int32.toNatClampNeg (nI pn) = pn from nI_clamp (by omega)), fo_nar1, if_pos rfl]; exact s3.pa 5 _ (by decide) (by decide) (by decide)
      refine lv_aload_n hx hb dF_operate_108 rfl (lv_at hl 0 rfl) ?_
      refine va_get (D := D) (ci := 7) (v := .ref (b 6)) (C := "UnitRoomModel") (T := TF) (N := 18) hx hb hts inF hown hV (ur_one hI.1 fq167) 0 rfl rfl 6 (by decide) (hts _ mw583) (fun _ h9 => h9) rfl dF_operate_109 ?_
      refine lv_iload hx hb dF_operate_112 (lv_at hl 4 rfl) ?_
      refine lv_iload_n hx hb dF_operate_114 rfl (lv_at hl 2 rfl) ?_
      refine ur_iast hx hb hV hI 0 fq170 rfl (vp_in_nI (by omega) (by decide)) dF_operate_115 (fun H locs hI => ?_)
      obtain ⟨h172, eh172⟩ : ∃ z : ur_M, z = va_up h166 (b 6) (some (.inl (E.1 0, 10, .inl (upd (T1.2.2 6) (Int32.toNatClampNeg (nI pn)) mv)))) := ⟨_, rfl⟩
      replace hI : ur_I D vwCl (ur_A h s.heap.size) s.heap h172 H locs := by rw [eh172]; exact hI
      have fq173 : h172 (b 0) = some (.inr (7, [.ref (b 1), .ref (b 2), .ref (b 3), .long (T1.1.1), .ref (b 4), .ref (b 5), .ref (b 6), .ref (b 7), .int ((T1.1.2.1) + 1), .ref (b 8), .int (T1.1.2.2.1), .ref (b 9), .ref (b 10), .ref (b 11), .ref (b 12), .ref (b 13), .int (T1.1.2.2.2), .ref (b 14)])) := by rw [eh172]; exact ((va_up_ne _ _ (hT.ne (i := 0) (j := 6) (by decide) (by decide) (by decide))).trans fq167)
      have fq174 : h172 (b 4) = some (.inl (E.1 5, 10, .inr (.inl (vp_updL (T1.2.1) (Int32.toNatClampNeg (nI pn)) ((T1.1.1) + ((fo_tm (nI pn)).toInt64)))))) := by rw [eh172]; exact ((va_up_ne _ _ (hT.ne (i := 4) (j := 6) (by decide) (by decide) (by decide))).trans fq168)
      have fq175 : h172 (b 5) = some (.inl (E.1 6, 10, .inl (upd (T1.2.2 5) (Int32.toNatClampNeg (nI pn)) (vp_nar .boolean 1)))) := by rw [eh172]; exact ((va_up_ne _ _ (hT.ne (i := 5) (j := 6) (by decide) (by decide) (by decide))).trans fq169)
      have fq176 : h172 (b 6) = some (.inl (E.1 0, 10, .inl (upd (T1.2.2 6) (Int32.toNatClampNeg (nI pn)) mv))) := by rw [eh172]; exact (va_up_self _ _ _)
      have fq177 : h172 (b 7) = some (.inl (E.1 0, 10, .inl (upd (T1.2.2 7) (Int32.toNatClampNeg (nI pn)) (T1.1.2.1)))) := by rw [eh172]; exact ((va_up_ne _ _ (hT.ne (i := 7) (j := 6) (by decide) (by decide) (by decide))).trans fq171)
      obtain ⟨TB, hTB⟩ : ∃ z, z = fo_bg T1 pn 1 mv := ⟨_, rfl⟩
      have hB : fo_R E b TB h172 := by rw [hTB, eh172, (show Int32.toNatClampNeg (nI pn) = pn from nI_clamp (by omega))]; exact s4.pa 6 _ (by decide) (by decide) (by decide)
      have hB3 : TB.2.2 3 = T.2.2 3 := by rw [hTB, fo_bg_r _ _ _ _ 3 (by decide) (by decide) (by decide)]; exact hr9.2.2 3 (by decide) (by decide)
      have hB10 : TB.2.2 10 = T.2.2 10 := by rw [hTB, fo_bg_r _ _ _ _ 10 (by decide) (by decide) (by decide)]; exact hr9.2.2 10 (by decide) (by decide)
      have hBc : TB.1.2.2.1 = T.1.2.2.1 := by rw [hTB, fo_bg_1]; show T1.1.2.2.1 = _; rw [hr9.2.1]
      have hfin : fo_bg (fo_gg T pn) pn 1 mv = TB := by rw [hgg, hTB]
      have y0 : h172 (b 0) = some (.inr (7, [.ref (b 1), .ref (b 2), .ref (b 3), .long (TB.1.1), .ref (b 4), .ref (b 5), .ref (b 6), .ref (b 7), .int (TB.1.2.1), .ref (b 8), .int (TB.1.2.2.1), .ref (b 9), .ref (b 10), .ref (b 11), .ref (b 12), .ref (b 13), .int (TB.1.2.2.2), .ref (b 14)])) := hB.obj
      have y3 : h172 (b 3) = some (.inl (E.1 0, 4, .inl (TB.2.2 3))) := hB.arr 3 (by decide) (by decide) (by decide)
      have y8 : h172 (b 8) = some (.inl (E.1 0, 1000, .inl (TB.2.2 8))) := hB.arr 8 (by decide) (by decide) (by decide)
      have y2 : h172 (b 2) = some (.inl (E.1 0, 38400, .inl (TB.2.2 2))) := hB.arr 2 (by decide) (by decide) (by decide)
      refine lv_iload_n hx hb dF_operate_116 rfl (lv_at hl 1 rfl) ?_
      refine lv_if_ne (tgt := 130) hx hb dF_operate_117 (by decide) (fun c178 => ?_) (fun c178 => absurd c178 (by decide))
      refine lv_iload hx hb dF_operate_130 (lv_at hl 4 rfl) ?_
      refine lv_iconst (v := 4) hx hb dF_operate_132 (by decide) ?_
      refine lv_icmp_ge (tgt := 165) hx hb dF_operate_133 (by decide) (fun c179 => absurd c179 (fun z9 => absurd ((nI_leI (a := 4) (by decide) (by omega)).mp z9) (by omega))) (fun c179 => ?_)
      refine lv_aload_n hx hb dF_operate_136 rfl (lv_at hl 0 rfl) ?_
      refine lv_iload hx hb dF_operate_137 (lv_at hl 4 rfl) ?_
      refine lv_iload_n hx hb dF_operate_139 rfl (lv_at hl 1 rfl) ?_
      refine lv_iload_n hx hb dF_operate_140 rfl (lv_at hl 2 rfl) ?_
      refine lv_aload_n hx hb dF_operate_141 rfl (lv_at hl 0 rfl) ?_
      refine va_get (D := D) (ci := 7) (v := .ref (b 3)) (C := "UnitRoomModel") (T := TF) (N := 18) hx hb hts inF hown hV (ur_one hI.1 y0) 0 rfl rfl 2 (by decide) (hts _ mw579) (fun _ h9 => h9) rfl dF_operate_142 ?_
      refine lv_iload hx hb dF_operate_145 (lv_at hl 4 rfl) ?_
      refine va_iald hx hb hV (ur_one hI.1 y3) 0 0 rfl rfl (vp_in_nI hp4 (by decide)) dF_operate_147 ?_
      rw [nI_clamp (show pn < 2 ^ 31 by omega), hB3, hst]
      refine ur_xv (va_runV (As := [.int (nI pn), .int 1, .int mv, .int (nI sn)]) (rest := []) ⟨hx, hb, hml, hown, hts⟩ (kF_use1 l D E h172 (b 0) (b 1) (b 2) (b 3) (b 4) (b 5) (b 6) (b 7) (b 8) (b 9) (b 10) (b 11) (b 12) (b 13) (b 14) (TB.1.1) (TB.1.2.1) (TB.1.2.2.1) (TB.1.2.2.2) pn sn mv (TB.2.2 8) (TB.2.2 2) y0 y8 y2 (by omega) (by omega) H.size) (cwV 4 hts (ur_gV mw702 mw704 ms12 mw11 mw705) rfl rfl rfl (by decide +kernel) ⟨(Nat.le_of_ble_eq_true rfl), (Nat.le_of_ble_eq_true rfl)⟩) ⟨ur_blind, va_recv hV (ur_one hI.1 y0) (ci := 7) (q0 := 0) rfl rfl, ur_pre hI hO hK (fun _ _ q => q)⟩ rfl rfl hl.1 rfl (lv_room (Nat.le_of_ble_eq_true rfl)) dF_operate_148 ⟨Nat.le_of_ble_eq_true rfl, Nat.le_of_ble_eq_true rfl⟩) hI (fun h180 H locs p180 hI => ?_)
      have eh180 := p180
      have fq181 : h180 (b 0) = some (.inr (7, [.ref (b 1), .ref (b 2), .ref (b 3), .long (TB.1.1), .ref (b 4), .ref (b 5), .ref (b 6), .ref (b 7), .int (TB.1.2.1), .ref (b 8), .int (TB.1.2.2.1), .ref (b 9), .ref (b 10), .ref (b 11), .ref (b 12), .ref (b 13), .int (TB.1.2.2.2), .ref (b 14)])) := by rw [eh180]; exact ((va_up_ne _ _ (hT.ne (i := 0) (j := 8) (by decide) (by decide) (by decide))).trans y0)
      have fq182 : h180 (b 3) = some (.inl (E.1 0, 4, .inl (TB.2.2 3))) := by rw [eh180]; exact ((va_up_ne _ _ (hT.ne (i := 3) (j := 8) (by decide) (by decide) (by decide))).trans y3)
      have fq183 : h180 (b 8) = some (.inl (E.1 0, 1000, .inl (fo_cp (TB.2.2 8) (TB.2.2 2) (100 * pn) (100 * (64 * pn + sn)) 100))) := by rw [eh180]; exact (va_up_self _ _ _)
      have fq184 : h180 (b 2) = some (.inl (E.1 0, 38400, .inl (TB.2.2 2))) := by rw [eh180]; exact ((va_up_ne _ _ (hT.ne (i := 2) (j := 8) (by decide) (by decide) (by decide))).trans y2)
      refine lv_aload_n hx hb dF_operate_151 rfl (lv_at hl 0 rfl) ?_
      refine va_get (D := D) (ci := 7) (v := .ref (b 3)) (C := "UnitRoomModel") (T := TF) (N := 18) hx hb hts inF hown hV (ur_one hI.1 fq181) 0 rfl rfl 2 (by decide) (hts _ mw579) (fun _ h9 => h9) rfl dF_operate_152 ?_
      refine lv_iload hx hb dF_operate_155 (lv_at hl 4 rfl) ?_
      refine lv_dup2_11 hx hb dF_operate_157 rfl rfl ?_
      refine va_iald hx hb hV (ur_one hI.1 fq182) 0 0 rfl rfl (vp_in_nI hp4 (by decide)) dF_operate_158 ?_
      refine lv_iconst (v := 1) hx hb dF_operate_159 (by decide) ?_
      refine lv_iadd hx hb dF_operate_160 ?_
      refine ur_iast hx hb hV hI 0 fq182 rfl (vp_in_nI hp4 (by decide)) dF_operate_161 (fun H locs hI => ?_)
      obtain ⟨h185, eh185⟩ : ∃ z : ur_M, z = va_up h180 (b 3) (some (.inl (E.1 0, 4, .inl (upd (TB.2.2 3) (Int32.toNatClampNeg (nI pn)) (((TB.2.2 3) (Int32.toNatClampNeg (nI pn))) + 1))))) := ⟨_, rfl⟩
      replace hI : ur_I D vwCl (ur_A h s.heap.size) s.heap h185 H locs := by rw [eh185]; exact hI
      have fq186 : h185 (b 0) = some (.inr (7, [.ref (b 1), .ref (b 2), .ref (b 3), .long (TB.1.1), .ref (b 4), .ref (b 5), .ref (b 6), .ref (b 7), .int (TB.1.2.1), .ref (b 8), .int (TB.1.2.2.1), .ref (b 9), .ref (b 10), .ref (b 11), .ref (b 12), .ref (b 13), .int (TB.1.2.2.2), .ref (b 14)])) := by rw [eh185]; exact ((va_up_ne _ _ (hT.ne (i := 0) (j := 3) (by decide) (by decide) (by decide))).trans fq181)
      have fq187 : h185 (b 3) = some (.inl (E.1 0, 4, .inl (upd (TB.2.2 3) (Int32.toNatClampNeg (nI pn)) (((TB.2.2 3) (Int32.toNatClampNeg (nI pn))) + 1)))) := by rw [eh185]; exact (va_up_self _ _ _)
      have fq188 : h185 (b 8) = some (.inl (E.1 0, 1000, .inl (fo_cp (TB.2.2 8) (TB.2.2 2) (100 * pn) (100 * (64 * pn + sn)) 100))) := by rw [eh185]; exact ((va_up_ne _ _ (hT.ne (i := 8) (j := 3) (by decide) (by decide) (by decide))).trans fq183)
      have fq189 : h185 (b 2) = some (.inl (E.1 0, 38400, .inl (TB.2.2 2))) := by rw [eh185]; exact ((va_up_ne _ _ (hT.ne (i := 2) (j := 3) (by decide) (by decide) (by decide))).trans fq184)
      refine lv_goto (tgt := 206) hx hb dF_operate_162 (by decide) ?_
      refine lv_iconst (v := 0) hx hb dF_operate_206 (by decide) ?_
      exact ur_ri hx hb hr hlocks hI hQ ⟨rfl, (by show fo_R E b _ _; rw [hfin, eh185, eh180, nI_clamp (show pn < 2 ^ 31 by omega), show TB.2.2 3 pn = nI sn by rw [hB3]; exact hst, nI_1]; exact (hB.pa 8 _ (by decide) (by decide) (by decide)).pa 3 _ (by decide) (by decide) (by decide))⟩ dF_operate_207
    · have hl : lv_has ls 7 [(0, .ref (b 0)), (2, .int 2), (3, .int (nI mn)), (4, .int x), (5, .int (nI pn))] := hl
      refine lv_aload_n hx hb dF_operate_52 rfl (lv_at hl 0 rfl) ?_
      refine va_get (D := D) (ci := 7) (v := .ref (b 4)) (C := "UnitRoomModel") (T := TF) (N := 18) hx hb hts inF hown hV (ur_one hI.1 k0) 0 rfl rfl 4 (by decide) (hts _ mw581) (fun _ h9 => h9) rfl dF_operate_53 ?_
      refine lv_iload hx hb dF_operate_56 (lv_at hl 4 rfl) ?_
      refine lv_aload_n hx hb dF_operate_58 rfl (lv_at hl 0 rfl) ?_
      refine va_get (D := D) (ci := 7) (v := .long (T1.1.1)) (C := "UnitRoomModel") (T := TF) (N := 18) hx hb hts inF hown hV (ur_one hI.1 k0) 0 rfl rfl 3 (by decide) (hts _ mw580) (fun _ h9 => h9) rfl dF_operate_59 ?_
      refine lv_iload hx hb dF_operate_62 (lv_at hl 4 rfl) ?_
      refine ur_xi (va_runS (As := [.int (nI pn)]) (rest := [.long (T1.1.1), .int (nI pn), .ref (b 4)]) ⟨hx, hb, hml, hown, hts⟩ (kF_timeOf l D E h1 (nI pn) H.size) (va_cwS 1 hts (ur_gT mw690 mw691 mw11 mw692) rfl rfl rfl (by decide +kernel) ⟨(Nat.le_of_ble_eq_true rfl), (Nat.le_of_ble_eq_true rfl)⟩) ⟨ur_blind, ur_pre hI hO hK (fun _ _ q => q)⟩ rfl rfl hl.1 rfl (lv_room (Nat.le_of_ble_eq_true rfl)) dF_operate_64 ⟨Nat.le_of_ble_eq_true rfl, Nat.le_of_ble_eq_true rfl⟩) hI (fun r190 h190 H locs p190 hI => ?_)
      obtain ⟨er190, eh190⟩ := p190
      replace eh190 := eh190.symm; subst eh190
      replace er190 := er190.symm; subst er190
      refine lv_i2l hx hb dF_operate_67 rfl ?_
      refine lv_ladd hx hb dF_operate_68 ?_
      refine ur_last hx hb hV hI 5 k4 rfl (vp_in_nI (by omega) (by decide)) dF_operate_69 (fun H locs hI => ?_)
      obtain ⟨h191, eh191⟩ : ∃ z : ur_M, z = va_up h1 (b 4) (some (.inl (E.1 5, 10, .inr (.inl (vp_updL (T1.2.1) (Int32.toNatClampNeg (nI pn)) ((T1.1.1) + ((fo_tm (nI pn)).toInt64))))))) := ⟨_, rfl⟩
      replace hI : ur_I D vwCl (ur_A h s.heap.size) s.heap h191 H locs := by rw [eh191]; exact hI
      have fq192 : h191 (b 0) = some (.inr (7, [.ref (b 1), .ref (b 2), .ref (b 3), .long (T1.1.1), .ref (b 4), .ref (b 5), .ref (b 6), .ref (b 7), .int (T1.1.2.1), .ref (b 8), .int (T1.1.2.2.1), .ref (b 9), .ref (b 10), .ref (b 11), .ref (b 12), .ref (b 13), .int (T1.1.2.2.2), .ref (b 14)])) := by rw [eh191]; exact ((va_up_ne _ _ (hT.ne (i := 0) (j := 4) (by decide) (by decide) (by decide))).trans k0)
      have fq193 : h191 (b 4) = some (.inl (E.1 5, 10, .inr (.inl (vp_updL (T1.2.1) (Int32.toNatClampNeg (nI pn)) ((T1.1.1) + ((fo_tm (nI pn)).toInt64)))))) := by rw [eh191]; exact (va_up_self _ _ _)
      have fq194 : h191 (b 5) = some (.inl (E.1 6, 10, .inl (T1.2.2 5))) := by rw [eh191]; exact ((va_up_ne _ _ (hT.ne (i := 5) (j := 4) (by decide) (by decide) (by decide))).trans k5)
      have fq195 : h191 (b 6) = some (.inl (E.1 0, 10, .inl (T1.2.2 6))) := by rw [eh191]; exact ((va_up_ne _ _ (hT.ne (i := 6) (j := 4) (by decide) (by decide) (by decide))).trans k6)
      have fq196 : h191 (b 7) = some (.inl (E.1 0, 10, .inl (T1.2.2 7))) := by rw [eh191]; exact ((va_up_ne _ _ (hT.ne (i := 7) (j := 4) (by decide) (by decide) (by decide))).trans k7)
      have s1 : fo_R E b (fo_pJ T1 (vp_updL T1.2.1 pn (T1.1.1 + (fo_tm (nI pn)).toInt64))) h191 := by rw [eh191, (show Int32.toNatClampNeg (nI pn) = pn from nI_clamp (by omega))]; exact hT1.pJ _
      refine lv_aload_n hx hb dF_operate_70 rfl (lv_at hl 0 rfl) ?_
      refine va_get (D := D) (ci := 7) (v := .ref (b 7)) (C := "UnitRoomModel") (T := TF) (N := 18) hx hb hts inF hown hV (ur_one hI.1 fq192) 0 rfl rfl 7 (by decide) (hts _ mw584) (fun _ h9 => h9) rfl dF_operate_71 ?_
      refine lv_iload hx hb dF_operate_74 (lv_at hl 4 rfl) ?_
      refine lv_aload_n hx hb dF_operate_76 rfl (lv_at hl 0 rfl) ?_
      refine va_get (D := D) (ci := 7) (v := .int (T1.1.2.1)) (C := "UnitRoomModel") (T := TF) (N := 18) hx hb hts inF hown hV (ur_one hI.1 fq192) 0 rfl rfl 8 (by decide) (hts _ mw585) (fun _ h9 => h9) rfl dF_operate_77 ?_
      refine ur_iast hx hb hV hI 0 fq196 rfl (vp_in_nI (by omega) (by decide)) dF_operate_80 (fun H locs hI => ?_)
      obtain ⟨h197, eh197⟩ : ∃ z : ur_M, z = va_up h191 (b 7) (some (.inl (E.1 0, 10, .inl (upd (T1.2.2 7) (Int32.toNatClampNeg (nI pn)) (T1.1.2.1))))) := ⟨_, rfl⟩
      replace hI : ur_I D vwCl (ur_A h s.heap.size) s.heap h197 H locs := by rw [eh197]; exact hI
      have fq198 : h197 (b 0) = some (.inr (7, [.ref (b 1), .ref (b 2), .ref (b 3), .long (T1.1.1), .ref (b 4), .ref (b 5), .ref (b 6), .ref (b 7), .int (T1.1.2.1), .ref (b 8), .int (T1.1.2.2.1), .ref (b 9), .ref (b 10), .ref (b 11), .ref (b 12), .ref (b 13), .int (T1.1.2.2.2), .ref (b 14)])) := by rw [eh197]; exact ((va_up_ne _ _ (hT.ne (i := 0) (j := 7) (by decide) (by decide) (by decide))).trans fq192)
      have fq199 : h197 (b 4) = some (.inl (E.1 5, 10, .inr (.inl (vp_updL (T1.2.1) (Int32.toNatClampNeg (nI pn)) ((T1.1.1) + ((fo_tm (nI pn)).toInt64)))))) := by rw [eh197]; exact ((va_up_ne _ _ (hT.ne (i := 4) (j := 7) (by decide) (by decide) (by decide))).trans fq193)
      have fq200 : h197 (b 5) = some (.inl (E.1 6, 10, .inl (T1.2.2 5))) := by rw [eh197]; exact ((va_up_ne _ _ (hT.ne (i := 5) (j := 7) (by decide) (by decide) (by decide))).trans fq194)
      have fq201 : h197 (b 6) = some (.inl (E.1 0, 10, .inl (T1.2.2 6))) := by rw [eh197]; exact ((va_up_ne _ _ (hT.ne (i := 6) (j := 7) (by decide) (by decide) (by decide))).trans fq195)
      have fq202 : h197 (b 7) = some (.inl (E.1 0, 10, .inl (upd (T1.2.2 7) (Int32.toNatClampNeg (nI pn)) (T1.1.2.1)))) := by rw [eh197]; exact (va_up_self _ _ _)
      have s2 : fo_R E b (fo_pa (fo_pJ T1 (vp_updL T1.2.1 pn (T1.1.1 + (fo_tm (nI pn)).toInt64))) 7 (upd (T1.2.2 7) pn T1.1.2.1)) h197 := by rw [eh197, (show Int32.toNatClampNeg (nI pn) = pn from nI_clamp (by omega))]; exact s1.pa 7 _ (by decide) (by decide) (by decide)
      refine lv_aload_n hx hb dF_operate_81 rfl (lv_at hl 0 rfl) ?_
      refine lv_dup hx hb dF_operate_82 rfl ?_
      refine va_get (D := D) (ci := 7) (v := .int (T1.1.2.1)) (C := "UnitRoomModel") (T := TF) (N := 18) hx hb hts inF hown hV (ur_one hI.1 fq198) 0 rfl rfl 8 (by decide) (hts _ mw585) (fun _ h9 => h9) rfl dF_operate_83 ?_
      refine lv_iconst (v := 1) hx hb dF_operate_86 (by decide) ?_
      refine lv_iadd hx hb dF_operate_87 ?_
      refine ur_put (D := D) (ci := 7) (v := .int ((T1.1.2.1) + 1)) (ty := .int) (C := "UnitRoomModel") (T := TF) (N := 18) hx hb hts inF tyF tyF_ok nmF hown hV hI fq198 rfl 8 (by decide) (hts _ mw585) (fun _ h9 => h9) rfl (by decide +kernel) rfl rfl (Nat.le_of_ble_eq_true rfl) dF_operate_88 (fun H locs hI => ?_)
      obtain ⟨h203, eh203⟩ : ∃ z : ur_M, z = va_up h197 (b 0) (some (.inr (7, [.ref (b 1), .ref (b 2), .ref (b 3), .long (T1.1.1), .ref (b 4), .ref (b 5), .ref (b 6), .ref (b 7), .int ((T1.1.2.1) + 1), .ref (b 8), .int (T1.1.2.2.1), .ref (b 9), .ref (b 10), .ref (b 11), .ref (b 12), .ref (b 13), .int (T1.1.2.2.2), .ref (b 14)]))) := ⟨_, rfl⟩
      replace hI : ur_I D vwCl (ur_A h s.heap.size) s.heap h203 H locs := by rw [eh203]; exact hI
      have fq204 : h203 (b 0) = some (.inr (7, [.ref (b 1), .ref (b 2), .ref (b 3), .long (T1.1.1), .ref (b 4), .ref (b 5), .ref (b 6), .ref (b 7), .int ((T1.1.2.1) + 1), .ref (b 8), .int (T1.1.2.2.1), .ref (b 9), .ref (b 10), .ref (b 11), .ref (b 12), .ref (b 13), .int (T1.1.2.2.2), .ref (b 14)])) := by rw [eh203]; exact (va_up_self _ _ _)
      have fq205 : h203 (b 4) = some (.inl (E.1 5, 10, .inr (.inl (vp_updL (T1.2.1) (Int32.toNatClampNeg (nI pn)) ((T1.1.1) + ((fo_tm (nI pn)).toInt64)))))) := by rw [eh203]; exact ((va_up_ne _ _ (hT.ne (i := 4) (j := 0) (by decide) (by decide) (by decide))).trans fq199)
      have fq206 : h203 (b 5) = some (.inl (E.1 6, 10, .inl (T1.2.2 5))) := by rw [eh203]; exact ((va_up_ne _ _ (hT.ne (i := 5) (j := 0) (by decide) (by decide) (by decide))).trans fq200)
      have fq207 : h203 (b 6) = some (.inl (E.1 0, 10, .inl (T1.2.2 6))) := by rw [eh203]; exact ((va_up_ne _ _ (hT.ne (i := 6) (j := 0) (by decide) (by decide) (by decide))).trans fq201)
      have fq208 : h203 (b 7) = some (.inl (E.1 0, 10, .inl (upd (T1.2.2 7) (Int32.toNatClampNeg (nI pn)) (T1.1.2.1)))) := by rw [eh203]; exact ((va_up_ne _ _ (hT.ne (i := 7) (j := 0) (by decide) (by decide) (by decide))).trans fq202)
      have s3 : fo_R E b (fo_po (fo_pa (fo_pJ T1 (vp_updL T1.2.1 pn (T1.1.1 + (fo_tm (nI pn)).toInt64))) 7 (upd (T1.2.2 7) pn T1.1.2.1)) (T1.1.1, T1.1.2.1 + 1, T1.1.2.2)) h203 := by rw [eh203]; exact s2.po (T1.1.1, T1.1.2.1 + 1, T1.1.2.2)
      refine lv_aload_n hx hb dF_operate_91 rfl (lv_at hl 0 rfl) ?_
      refine va_get (D := D) (ci := 7) (v := .ref (b 5)) (C := "UnitRoomModel") (T := TF) (N := 18) hx hb hts inF hown hV (ur_one hI.1 fq204) 0 rfl rfl 5 (by decide) (hts _ mw582) (fun _ h9 => h9) rfl dF_operate_92 ?_
      refine lv_iload hx hb dF_operate_95 (lv_at hl 4 rfl) ?_
      refine lv_iload_n hx hb dF_operate_97 rfl (lv_at hl 1 rfl) ?_
      refine lv_iconst (v := 1) hx hb dF_operate_98 (by decide) ?_
      refine lv_icmp_ne (tgt := 106) hx hb dF_operate_99 (by decide) (fun c209 => ?_) (fun c209 => absurd c209 (by decide))
      refine lv_iconst (v := 0) hx hb dF_operate_106 (by decide) ?_
      refine ur_zast hx hb hV hI 6 fq206 rfl (vp_in_nI (by omega) (by decide)) dF_operate_107 (fun H locs hI => ?_)
      obtain ⟨h210, eh210⟩ : ∃ z : ur_M, z = va_up h203 (b 5) (some (.inl (E.1 6, 10, .inl (upd (T1.2.2 5) (Int32.toNatClampNeg (nI pn)) (vp_nar .boolean 0))))) := ⟨_, rfl⟩
      replace hI : ur_I D vwCl (ur_A h s.heap.size) s.heap h210 H locs := by rw [eh210]; exact hI
      have fq211 : h210 (b 0) = some (.inr (7, [.ref (b 1), .ref (b 2), .ref (b 3), .long (T1.1.1), .ref (b 4), .ref (b 5), .ref (b 6), .ref (b 7), .int ((T1.1.2.1) + 1), .ref (b 8), .int (T1.1.2.2.1), .ref (b 9), .ref (b 10), .ref (b 11), .ref (b 12), .ref (b 13), .int (T1.1.2.2.2), .ref (b 14)])) := by rw [eh210]; exact ((va_up_ne _ _ (hT.ne (i := 0) (j := 5) (by decide) (by decide) (by decide))).trans fq204)
      have fq212 : h210 (b 4) = some (.inl (E.1 5, 10, .inr (.inl (vp_updL (T1.2.1) (Int32.toNatClampNeg (nI pn)) ((T1.1.1) + ((fo_tm (nI pn)).toInt64)))))) := by rw [eh210]; exact ((va_up_ne _ _ (hT.ne (i := 4) (j := 5) (by decide) (by decide) (by decide))).trans fq205)
      have fq213 : h210 (b 5) = some (.inl (E.1 6, 10, .inl (upd (T1.2.2 5) (Int32.toNatClampNeg (nI pn)) (vp_nar .boolean 0)))) := by rw [eh210]; exact (va_up_self _ _ _)
      have fq214 : h210 (b 6) = some (.inl (E.1 0, 10, .inl (T1.2.2 6))) := by rw [eh210]; exact ((va_up_ne _ _ (hT.ne (i := 6) (j := 5) (by decide) (by decide) (by decide))).trans fq207)
      have fq215 : h210 (b 7) = some (.inl (E.1 0, 10, .inl (upd (T1.2.2 7) (Int32.toNatClampNeg (nI pn)) (T1.1.2.1)))) := by rw [eh210]; exact ((va_up_ne _ _ (hT.ne (i := 7) (j := 5) (by decide) (by decide) (by decide))).trans fq208)
      have s4 : fo_R E b (fo_pa (fo_po (fo_pa (fo_pJ T1 (vp_updL T1.2.1 pn (T1.1.1 + (fo_tm (nI pn)).toInt64))) 7 (upd (T1.2.2 7) pn T1.1.2.1)) (T1.1.1, T1.1.2.1 + 1, T1.1.2.2)) 5 (upd (T1.2.2 5) pn (if (2 : Int32) = 1 then 1 else 0))) h210 := by rw [eh210, (show Int32.toNatClampNeg (nI pn) = pn from nI_clamp (by omega)), fo_nar0, if_neg (by decide)]; exact s3.pa 5 _ (by decide) (by decide) (by decide)
      refine lv_aload_n hx hb dF_operate_108 rfl (lv_at hl 0 rfl) ?_
      refine va_get (D := D) (ci := 7) (v := .ref (b 6)) (C := "UnitRoomModel") (T := TF) (N := 18) hx hb hts inF hown hV (ur_one hI.1 fq211) 0 rfl rfl 6 (by decide) (hts _ mw583) (fun _ h9 => h9) rfl dF_operate_109 ?_
      refine lv_iload hx hb dF_operate_112 (lv_at hl 4 rfl) ?_
      refine lv_iload_n hx hb dF_operate_114 rfl (lv_at hl 2 rfl) ?_
      refine ur_iast hx hb hV hI 0 fq214 rfl (vp_in_nI (by omega) (by decide)) dF_operate_115 (fun H locs hI => ?_)
      obtain ⟨h216, eh216⟩ : ∃ z : ur_M, z = va_up h210 (b 6) (some (.inl (E.1 0, 10, .inl (upd (T1.2.2 6) (Int32.toNatClampNeg (nI pn)) (nI mn))))) := ⟨_, rfl⟩
      replace hI : ur_I D vwCl (ur_A h s.heap.size) s.heap h216 H locs := by rw [eh216]; exact hI
      have fq217 : h216 (b 0) = some (.inr (7, [.ref (b 1), .ref (b 2), .ref (b 3), .long (T1.1.1), .ref (b 4), .ref (b 5), .ref (b 6), .ref (b 7), .int ((T1.1.2.1) + 1), .ref (b 8), .int (T1.1.2.2.1), .ref (b 9), .ref (b 10), .ref (b 11), .ref (b 12), .ref (b 13), .int (T1.1.2.2.2), .ref (b 14)])) := by rw [eh216]; exact ((va_up_ne _ _ (hT.ne (i := 0) (j := 6) (by decide) (by decide) (by decide))).trans fq211)
      have fq218 : h216 (b 4) = some (.inl (E.1 5, 10, .inr (.inl (vp_updL (T1.2.1) (Int32.toNatClampNeg (nI pn)) ((T1.1.1) + ((fo_tm (nI pn)).toInt64)))))) := by rw [eh216]; exact ((va_up_ne _ _ (hT.ne (i := 4) (j := 6) (by decide) (by decide) (by decide))).trans fq212)
      have fq219 : h216 (b 5) = some (.inl (E.1 6, 10, .inl (upd (T1.2.2 5) (Int32.toNatClampNeg (nI pn)) (vp_nar .boolean 0)))) := by rw [eh216]; exact ((va_up_ne _ _ (hT.ne (i := 5) (j := 6) (by decide) (by decide) (by decide))).trans fq213)
      have fq220 : h216 (b 6) = some (.inl (E.1 0, 10, .inl (upd (T1.2.2 6) (Int32.toNatClampNeg (nI pn)) (nI mn)))) := by rw [eh216]; exact (va_up_self _ _ _)
      have fq221 : h216 (b 7) = some (.inl (E.1 0, 10, .inl (upd (T1.2.2 7) (Int32.toNatClampNeg (nI pn)) (T1.1.2.1)))) := by rw [eh216]; exact ((va_up_ne _ _ (hT.ne (i := 7) (j := 6) (by decide) (by decide) (by decide))).trans fq215)
      obtain ⟨TB, hTB⟩ : ∃ z, z = fo_bg T1 pn 2 (nI mn) := ⟨_, rfl⟩
      have hB : fo_R E b TB h216 := by rw [hTB, eh216, (show Int32.toNatClampNeg (nI pn) = pn from nI_clamp (by omega))]; exact s4.pa 6 _ (by decide) (by decide) (by decide)
      have hB3 : TB.2.2 3 = T.2.2 3 := by rw [hTB, fo_bg_r _ _ _ _ 3 (by decide) (by decide) (by decide)]; exact hr9.2.2 3 (by decide) (by decide)
      have hB10 : TB.2.2 10 = T.2.2 10 := by rw [hTB, fo_bg_r _ _ _ _ 10 (by decide) (by decide) (by decide)]; exact hr9.2.2 10 (by decide) (by decide)
      have hBc : TB.1.2.2.1 = T.1.2.2.1 := by rw [hTB, fo_bg_1]; show T1.1.2.2.1 = _; rw [hr9.2.1]
      have hfin : fo_bg (fo_gg T pn) pn 2 (nI mn) = TB := by rw [hgg, hTB]
      have y0 : h216 (b 0) = some (.inr (7, [.ref (b 1), .ref (b 2), .ref (b 3), .long (TB.1.1), .ref (b 4), .ref (b 5), .ref (b 6), .ref (b 7), .int (TB.1.2.1), .ref (b 8), .int (TB.1.2.2.1), .ref (b 9), .ref (b 10), .ref (b 11), .ref (b 12), .ref (b 13), .int (TB.1.2.2.2), .ref (b 14)])) := hB.obj
      have y3 : h216 (b 3) = some (.inl (E.1 0, 4, .inl (TB.2.2 3))) := hB.arr 3 (by decide) (by decide) (by decide)
      have y2 : h216 (b 2) = some (.inl (E.1 0, 38400, .inl (TB.2.2 2))) := hB.arr 2 (by decide) (by decide) (by decide)
      have y1 : h216 (b 1) = some (.inl (E.1 0, 4000, .inl (TB.2.2 1))) := hB.arr 1 (by decide) (by decide) (by decide)
      refine lv_iload_n hx hb dF_operate_116 rfl (lv_at hl 1 rfl) ?_
      refine lv_if_ne (tgt := 130) hx hb dF_operate_117 (by decide) (fun c222 => ?_) (fun c222 => absurd c222 (by decide))
      refine lv_iload hx hb dF_operate_130 (lv_at hl 4 rfl) ?_
      refine lv_iconst (v := 4) hx hb dF_operate_132 (by decide) ?_
      refine lv_icmp_ge (tgt := 165) hx hb dF_operate_133 (by decide) (fun c223 => absurd c223 (fun z9 => absurd ((nI_leI (a := 4) (by decide) (by omega)).mp z9) (by omega))) (fun c223 => ?_)
      refine lv_aload_n hx hb dF_operate_136 rfl (lv_at hl 0 rfl) ?_
      refine lv_iload hx hb dF_operate_137 (lv_at hl 4 rfl) ?_
      refine lv_iload_n hx hb dF_operate_139 rfl (lv_at hl 1 rfl) ?_
      refine lv_iload_n hx hb dF_operate_140 rfl (lv_at hl 2 rfl) ?_
      refine lv_aload_n hx hb dF_operate_141 rfl (lv_at hl 0 rfl) ?_
      refine va_get (D := D) (ci := 7) (v := .ref (b 3)) (C := "UnitRoomModel") (T := TF) (N := 18) hx hb hts inF hown hV (ur_one hI.1 y0) 0 rfl rfl 2 (by decide) (hts _ mw579) (fun _ h9 => h9) rfl dF_operate_142 ?_
      refine lv_iload hx hb dF_operate_145 (lv_at hl 4 rfl) ?_
      refine va_iald hx hb hV (ur_one hI.1 y3) 0 0 rfl rfl (vp_in_nI hp4 (by decide)) dF_operate_147 ?_
      rw [nI_clamp (show pn < 2 ^ 31 by omega), hB3, hst]
      refine ur_xv (va_runV (As := [.int (nI pn), .int 2, .int (nI mn), .int (nI sn)]) (rest := []) ⟨hx, hb, hml, hown, hts⟩ (kF_use2 l D E h216 (b 0) (b 1) (b 2) (b 3) (b 4) (b 5) (b 6) (b 7) (b 8) (b 9) (b 10) (b 11) (b 12) (b 13) (b 14) (TB.1.1) (TB.1.2.1) (TB.1.2.2.1) (TB.1.2.2.2) pn sn mn (TB.2.2 2) (TB.2.2 1) y0 y2 y1 (by omega) (by omega) hmn H.size) (cwV 4 hts (ur_gV mw702 mw704 ms12 mw11 mw705) rfl rfl rfl (by decide +kernel) ⟨(Nat.le_of_ble_eq_true rfl), (Nat.le_of_ble_eq_true rfl)⟩) ⟨ur_blind, va_recv hV (ur_one hI.1 y0) (ci := 7) (q0 := 0) rfl rfl, ur_pre hI hO hK (fun _ _ q => q)⟩ rfl rfl hl.1 rfl (lv_room (Nat.le_of_ble_eq_true rfl)) dF_operate_148 ⟨Nat.le_of_ble_eq_true rfl, Nat.le_of_ble_eq_true rfl⟩) hI (fun h224 H locs p224 hI => ?_)
      have eh224 := p224
      have fq225 : h224 (b 0) = some (.inr (7, [.ref (b 1), .ref (b 2), .ref (b 3), .long (TB.1.1), .ref (b 4), .ref (b 5), .ref (b 6), .ref (b 7), .int (TB.1.2.1), .ref (b 8), .int (TB.1.2.2.1), .ref (b 9), .ref (b 10), .ref (b 11), .ref (b 12), .ref (b 13), .int (TB.1.2.2.2), .ref (b 14)])) := by rw [eh224]; exact ((va_up_ne _ _ (hT.ne (i := 0) (j := 2) (by decide) (by decide) (by decide))).trans y0)
      have fq226 : h224 (b 3) = some (.inl (E.1 0, 4, .inl (TB.2.2 3))) := by rw [eh224]; exact ((va_up_ne _ _ (hT.ne (i := 3) (j := 2) (by decide) (by decide) (by decide))).trans y3)
      have fq227 : h224 (b 2) = some (.inl (E.1 0, 38400, .inl (fo_cp (TB.2.2 2) (TB.2.2 1) (100 * (64 * pn + sn)) mn 100))) := by rw [eh224]; exact (va_up_self _ _ _)
      have fq228 : h224 (b 1) = some (.inl (E.1 0, 4000, .inl (TB.2.2 1))) := by rw [eh224]; exact ((va_up_ne _ _ (hT.ne (i := 1) (j := 2) (by decide) (by decide) (by decide))).trans y1)
      refine lv_aload_n hx hb dF_operate_151 rfl (lv_at hl 0 rfl) ?_
      refine va_get (D := D) (ci := 7) (v := .ref (b 3)) (C := "UnitRoomModel") (T := TF) (N := 18) hx hb hts inF hown hV (ur_one hI.1 fq225) 0 rfl rfl 2 (by decide) (hts _ mw579) (fun _ h9 => h9) rfl dF_operate_152 ?_
      refine lv_iload hx hb dF_operate_155 (lv_at hl 4 rfl) ?_
      refine lv_dup2_11 hx hb dF_operate_157 rfl rfl ?_
      refine va_iald hx hb hV (ur_one hI.1 fq226) 0 0 rfl rfl (vp_in_nI hp4 (by decide)) dF_operate_158 ?_
      refine lv_iconst (v := 1) hx hb dF_operate_159 (by decide) ?_
      refine lv_iadd hx hb dF_operate_160 ?_
      refine ur_iast hx hb hV hI 0 fq226 rfl (vp_in_nI hp4 (by decide)) dF_operate_161 (fun H locs hI => ?_)
      obtain ⟨h229, eh229⟩ : ∃ z : ur_M, z = va_up h224 (b 3) (some (.inl (E.1 0, 4, .inl (upd (TB.2.2 3) (Int32.toNatClampNeg (nI pn)) (((TB.2.2 3) (Int32.toNatClampNeg (nI pn))) + 1))))) := ⟨_, rfl⟩
      replace hI : ur_I D vwCl (ur_A h s.heap.size) s.heap h229 H locs := by rw [eh229]; exact hI
      have fq230 : h229 (b 0) = some (.inr (7, [.ref (b 1), .ref (b 2), .ref (b 3), .long (TB.1.1), .ref (b 4), .ref (b 5), .ref (b 6), .ref (b 7), .int (TB.1.2.1), .ref (b 8), .int (TB.1.2.2.1), .ref (b 9), .ref (b 10), .ref (b 11), .ref (b 12), .ref (b 13), .int (TB.1.2.2.2), .ref (b 14)])) := by rw [eh229]; exact ((va_up_ne _ _ (hT.ne (i := 0) (j := 3) (by decide) (by decide) (by decide))).trans fq225)
      have fq231 : h229 (b 3) = some (.inl (E.1 0, 4, .inl (upd (TB.2.2 3) (Int32.toNatClampNeg (nI pn)) (((TB.2.2 3) (Int32.toNatClampNeg (nI pn))) + 1)))) := by rw [eh229]; exact (va_up_self _ _ _)
      have fq232 : h229 (b 2) = some (.inl (E.1 0, 38400, .inl (fo_cp (TB.2.2 2) (TB.2.2 1) (100 * (64 * pn + sn)) mn 100))) := by rw [eh229]; exact ((va_up_ne _ _ (hT.ne (i := 2) (j := 3) (by decide) (by decide) (by decide))).trans fq227)
      have fq233 : h229 (b 1) = some (.inl (E.1 0, 4000, .inl (TB.2.2 1))) := by rw [eh229]; exact ((va_up_ne _ _ (hT.ne (i := 1) (j := 3) (by decide) (by decide) (by decide))).trans fq228)
      refine lv_goto (tgt := 206) hx hb dF_operate_162 (by decide) ?_
      refine lv_iconst (v := 0) hx hb dF_operate_206 (by decide) ?_
      exact ur_ri hx hb hr hlocks hI hQ ⟨rfl, (by show fo_R E b _ _; rw [hfin, eh229, eh224, nI_clamp (show pn < 2 ^ 31 by omega), show TB.2.2 3 pn = nI sn by rw [hB3]; exact hst, nI_1]; exact (hB.pa 2 _ (by decide) (by decide) (by decide)).pa 3 _ (by decide) (by decide) (by decide))⟩ dF_operate_207
    · have hl : lv_has ls 7 [(0, .ref (b 0)), (2, .int 1), (3, .int mv), (4, .int (nI xn)), (5, .int (nI pn))] := hl
      refine lv_aload_n hx hb dF_operate_52 rfl (lv_at hl 0 rfl) ?_
      refine va_get (D := D) (ci := 7) (v := .ref (b 4)) (C := "UnitRoomModel") (T := TF) (N := 18) hx hb hts inF hown hV (ur_one hI.1 k0) 0 rfl rfl 4 (by decide) (hts _ mw581) (fun _ h9 => h9) rfl dF_operate_53 ?_
      refine lv_iload hx hb dF_operate_56 (lv_at hl 4 rfl) ?_
      refine lv_aload_n hx hb dF_operate_58 rfl (lv_at hl 0 rfl) ?_
      refine va_get (D := D) (ci := 7) (v := .long (T1.1.1)) (C := "UnitRoomModel") (T := TF) (N := 18) hx hb hts inF hown hV (ur_one hI.1 k0) 0 rfl rfl 3 (by decide) (hts _ mw580) (fun _ h9 => h9) rfl dF_operate_59 ?_
      refine lv_iload hx hb dF_operate_62 (lv_at hl 4 rfl) ?_
      refine ur_xi (va_runS (As := [.int (nI pn)]) (rest := [.long (T1.1.1), .int (nI pn), .ref (b 4)]) ⟨hx, hb, hml, hown, hts⟩ (kF_timeOf l D E h1 (nI pn) H.size) (va_cwS 1 hts (ur_gT mw690 mw691 mw11 mw692) rfl rfl rfl (by decide +kernel) ⟨(Nat.le_of_ble_eq_true rfl), (Nat.le_of_ble_eq_true rfl)⟩) ⟨ur_blind, ur_pre hI hO hK (fun _ _ q => q)⟩ rfl rfl hl.1 rfl (lv_room (Nat.le_of_ble_eq_true rfl)) dF_operate_64 ⟨Nat.le_of_ble_eq_true rfl, Nat.le_of_ble_eq_true rfl⟩) hI (fun r234 h234 H locs p234 hI => ?_)
      obtain ⟨er234, eh234⟩ := p234
      replace eh234 := eh234.symm; subst eh234
      replace er234 := er234.symm; subst er234
      refine lv_i2l hx hb dF_operate_67 rfl ?_
      refine lv_ladd hx hb dF_operate_68 ?_
      refine ur_last hx hb hV hI 5 k4 rfl (vp_in_nI (by omega) (by decide)) dF_operate_69 (fun H locs hI => ?_)
      obtain ⟨h235, eh235⟩ : ∃ z : ur_M, z = va_up h1 (b 4) (some (.inl (E.1 5, 10, .inr (.inl (vp_updL (T1.2.1) (Int32.toNatClampNeg (nI pn)) ((T1.1.1) + ((fo_tm (nI pn)).toInt64))))))) := ⟨_, rfl⟩
      replace hI : ur_I D vwCl (ur_A h s.heap.size) s.heap h235 H locs := by rw [eh235]; exact hI
      have fq236 : h235 (b 0) = some (.inr (7, [.ref (b 1), .ref (b 2), .ref (b 3), .long (T1.1.1), .ref (b 4), .ref (b 5), .ref (b 6), .ref (b 7), .int (T1.1.2.1), .ref (b 8), .int (T1.1.2.2.1), .ref (b 9), .ref (b 10), .ref (b 11), .ref (b 12), .ref (b 13), .int (T1.1.2.2.2), .ref (b 14)])) := by rw [eh235]; exact ((va_up_ne _ _ (hT.ne (i := 0) (j := 4) (by decide) (by decide) (by decide))).trans k0)
      have fq237 : h235 (b 4) = some (.inl (E.1 5, 10, .inr (.inl (vp_updL (T1.2.1) (Int32.toNatClampNeg (nI pn)) ((T1.1.1) + ((fo_tm (nI pn)).toInt64)))))) := by rw [eh235]; exact (va_up_self _ _ _)
      have fq238 : h235 (b 5) = some (.inl (E.1 6, 10, .inl (T1.2.2 5))) := by rw [eh235]; exact ((va_up_ne _ _ (hT.ne (i := 5) (j := 4) (by decide) (by decide) (by decide))).trans k5)
      have fq239 : h235 (b 6) = some (.inl (E.1 0, 10, .inl (T1.2.2 6))) := by rw [eh235]; exact ((va_up_ne _ _ (hT.ne (i := 6) (j := 4) (by decide) (by decide) (by decide))).trans k6)
      have fq240 : h235 (b 7) = some (.inl (E.1 0, 10, .inl (T1.2.2 7))) := by rw [eh235]; exact ((va_up_ne _ _ (hT.ne (i := 7) (j := 4) (by decide) (by decide) (by decide))).trans k7)
      have s1 : fo_R E b (fo_pJ T1 (vp_updL T1.2.1 pn (T1.1.1 + (fo_tm (nI pn)).toInt64))) h235 := by rw [eh235, (show Int32.toNatClampNeg (nI pn) = pn from nI_clamp (by omega))]; exact hT1.pJ _
      refine lv_aload_n hx hb dF_operate_70 rfl (lv_at hl 0 rfl) ?_
      refine va_get (D := D) (ci := 7) (v := .ref (b 7)) (C := "UnitRoomModel") (T := TF) (N := 18) hx hb hts inF hown hV (ur_one hI.1 fq236) 0 rfl rfl 7 (by decide) (hts _ mw584) (fun _ h9 => h9) rfl dF_operate_71 ?_
      refine lv_iload hx hb dF_operate_74 (lv_at hl 4 rfl) ?_
      refine lv_aload_n hx hb dF_operate_76 rfl (lv_at hl 0 rfl) ?_
      refine va_get (D := D) (ci := 7) (v := .int (T1.1.2.1)) (C := "UnitRoomModel") (T := TF) (N := 18) hx hb hts inF hown hV (ur_one hI.1 fq236) 0 rfl rfl 8 (by decide) (hts _ mw585) (fun _ h9 => h9) rfl dF_operate_77 ?_
      refine ur_iast hx hb hV hI 0 fq240 rfl (vp_in_nI (by omega) (by decide)) dF_operate_80 (fun H locs hI => ?_)
      obtain ⟨h241, eh241⟩ : ∃ z : ur_M, z = va_up h235 (b 7) (some (.inl (E.1 0, 10, .inl (upd (T1.2.2 7) (Int32.toNatClampNeg (nI pn)) (T1.1.2.1))))) := ⟨_, rfl⟩
      replace hI : ur_I D vwCl (ur_A h s.heap.size) s.heap h241 H locs := by rw [eh241]; exact hI
      have fq242 : h241 (b 0) = some (.inr (7, [.ref (b 1), .ref (b 2), .ref (b 3), .long (T1.1.1), .ref (b 4), .ref (b 5), .ref (b 6), .ref (b 7), .int (T1.1.2.1), .ref (b 8), .int (T1.1.2.2.1), .ref (b 9), .ref (b 10), .ref (b 11), .ref (b 12), .ref (b 13), .int (T1.1.2.2.2), .ref (b 14)])) := by rw [eh241]; exact ((va_up_ne _ _ (hT.ne (i := 0) (j := 7) (by decide) (by decide) (by decide))).trans fq236)
      have fq243 : h241 (b 4) = some (.inl (E.1 5, 10, .inr (.inl (vp_updL (T1.2.1) (Int32.toNatClampNeg (nI pn)) ((T1.1.1) + ((fo_tm (nI pn)).toInt64)))))) := by rw [eh241]; exact ((va_up_ne _ _ (hT.ne (i := 4) (j := 7) (by decide) (by decide) (by decide))).trans fq237)
      have fq244 : h241 (b 5) = some (.inl (E.1 6, 10, .inl (T1.2.2 5))) := by rw [eh241]; exact ((va_up_ne _ _ (hT.ne (i := 5) (j := 7) (by decide) (by decide) (by decide))).trans fq238)
      have fq245 : h241 (b 6) = some (.inl (E.1 0, 10, .inl (T1.2.2 6))) := by rw [eh241]; exact ((va_up_ne _ _ (hT.ne (i := 6) (j := 7) (by decide) (by decide) (by decide))).trans fq239)
      have fq246 : h241 (b 7) = some (.inl (E.1 0, 10, .inl (upd (T1.2.2 7) (Int32.toNatClampNeg (nI pn)) (T1.1.2.1)))) := by rw [eh241]; exact (va_up_self _ _ _)
      have s2 : fo_R E b (fo_pa (fo_pJ T1 (vp_updL T1.2.1 pn (T1.1.1 + (fo_tm (nI pn)).toInt64))) 7 (upd (T1.2.2 7) pn T1.1.2.1)) h241 := by rw [eh241, (show Int32.toNatClampNeg (nI pn) = pn from nI_clamp (by omega))]; exact s1.pa 7 _ (by decide) (by decide) (by decide)
      refine lv_aload_n hx hb dF_operate_81 rfl (lv_at hl 0 rfl) ?_
      refine lv_dup hx hb dF_operate_82 rfl ?_
      refine va_get (D := D) (ci := 7) (v := .int (T1.1.2.1)) (C := "UnitRoomModel") (T := TF) (N := 18) hx hb hts inF hown hV (ur_one hI.1 fq242) 0 rfl rfl 8 (by decide) (hts _ mw585) (fun _ h9 => h9) rfl dF_operate_83 ?_
      refine lv_iconst (v := 1) hx hb dF_operate_86 (by decide) ?_
      refine lv_iadd hx hb dF_operate_87 ?_
      refine ur_put (D := D) (ci := 7) (v := .int ((T1.1.2.1) + 1)) (ty := .int) (C := "UnitRoomModel") (T := TF) (N := 18) hx hb hts inF tyF tyF_ok nmF hown hV hI fq242 rfl 8 (by decide) (hts _ mw585) (fun _ h9 => h9) rfl (by decide +kernel) rfl rfl (Nat.le_of_ble_eq_true rfl) dF_operate_88 (fun H locs hI => ?_)
      obtain ⟨h247, eh247⟩ : ∃ z : ur_M, z = va_up h241 (b 0) (some (.inr (7, [.ref (b 1), .ref (b 2), .ref (b 3), .long (T1.1.1), .ref (b 4), .ref (b 5), .ref (b 6), .ref (b 7), .int ((T1.1.2.1) + 1), .ref (b 8), .int (T1.1.2.2.1), .ref (b 9), .ref (b 10), .ref (b 11), .ref (b 12), .ref (b 13), .int (T1.1.2.2.2), .ref (b 14)]))) := ⟨_, rfl⟩
      replace hI : ur_I D vwCl (ur_A h s.heap.size) s.heap h247 H locs := by rw [eh247]; exact hI
      have fq248 : h247 (b 0) = some (.inr (7, [.ref (b 1), .ref (b 2), .ref (b 3), .long (T1.1.1), .ref (b 4), .ref (b 5), .ref (b 6), .ref (b 7), .int ((T1.1.2.1) + 1), .ref (b 8), .int (T1.1.2.2.1), .ref (b 9), .ref (b 10), .ref (b 11), .ref (b 12), .ref (b 13), .int (T1.1.2.2.2), .ref (b 14)])) := by rw [eh247]; exact (va_up_self _ _ _)
      have fq249 : h247 (b 4) = some (.inl (E.1 5, 10, .inr (.inl (vp_updL (T1.2.1) (Int32.toNatClampNeg (nI pn)) ((T1.1.1) + ((fo_tm (nI pn)).toInt64)))))) := by rw [eh247]; exact ((va_up_ne _ _ (hT.ne (i := 4) (j := 0) (by decide) (by decide) (by decide))).trans fq243)
      have fq250 : h247 (b 5) = some (.inl (E.1 6, 10, .inl (T1.2.2 5))) := by rw [eh247]; exact ((va_up_ne _ _ (hT.ne (i := 5) (j := 0) (by decide) (by decide) (by decide))).trans fq244)
      have fq251 : h247 (b 6) = some (.inl (E.1 0, 10, .inl (T1.2.2 6))) := by rw [eh247]; exact ((va_up_ne _ _ (hT.ne (i := 6) (j := 0) (by decide) (by decide) (by decide))).trans fq245)
      have fq252 : h247 (b 7) = some (.inl (E.1 0, 10, .inl (upd (T1.2.2 7) (Int32.toNatClampNeg (nI pn)) (T1.1.2.1)))) := by rw [eh247]; exact ((va_up_ne _ _ (hT.ne (i := 7) (j := 0) (by decide) (by decide) (by decide))).trans fq246)
      have s3 : fo_R E b (fo_po (fo_pa (fo_pJ T1 (vp_updL T1.2.1 pn (T1.1.1 + (fo_tm (nI pn)).toInt64))) 7 (upd (T1.2.2 7) pn T1.1.2.1)) (T1.1.1, T1.1.2.1 + 1, T1.1.2.2)) h247 := by rw [eh247]; exact s2.po (T1.1.1, T1.1.2.1 + 1, T1.1.2.2)
      refine lv_aload_n hx hb dF_operate_91 rfl (lv_at hl 0 rfl) ?_
      refine va_get (D := D) (ci := 7) (v := .ref (b 5)) (C := "UnitRoomModel") (T := TF) (N := 18) hx hb hts inF hown hV (ur_one hI.1 fq248) 0 rfl rfl 5 (by decide) (hts _ mw582) (fun _ h9 => h9) rfl dF_operate_92 ?_
      refine lv_iload hx hb dF_operate_95 (lv_at hl 4 rfl) ?_
      refine lv_iload_n hx hb dF_operate_97 rfl (lv_at hl 1 rfl) ?_
      refine lv_iconst (v := 1) hx hb dF_operate_98 (by decide) ?_
      refine lv_icmp_ne (tgt := 106) hx hb dF_operate_99 (by decide) (fun c253 => absurd c253 (by decide)) (fun c253 => ?_)
      refine lv_iconst (v := 1) hx hb dF_operate_102 (by decide) ?_
      refine lv_goto (tgt := 107) hx hb dF_operate_103 (by decide) ?_
      refine ur_zast hx hb hV hI 6 fq250 rfl (vp_in_nI (by omega) (by decide)) dF_operate_107 (fun H locs hI => ?_)
      obtain ⟨h254, eh254⟩ : ∃ z : ur_M, z = va_up h247 (b 5) (some (.inl (E.1 6, 10, .inl (upd (T1.2.2 5) (Int32.toNatClampNeg (nI pn)) (vp_nar .boolean 1))))) := ⟨_, rfl⟩
      replace hI : ur_I D vwCl (ur_A h s.heap.size) s.heap h254 H locs := by rw [eh254]; exact hI
      have fq255 : h254 (b 0) = some (.inr (7, [.ref (b 1), .ref (b 2), .ref (b 3), .long (T1.1.1), .ref (b 4), .ref (b 5), .ref (b 6), .ref (b 7), .int ((T1.1.2.1) + 1), .ref (b 8), .int (T1.1.2.2.1), .ref (b 9), .ref (b 10), .ref (b 11), .ref (b 12), .ref (b 13), .int (T1.1.2.2.2), .ref (b 14)])) := by rw [eh254]; exact ((va_up_ne _ _ (hT.ne (i := 0) (j := 5) (by decide) (by decide) (by decide))).trans fq248)
      have fq256 : h254 (b 4) = some (.inl (E.1 5, 10, .inr (.inl (vp_updL (T1.2.1) (Int32.toNatClampNeg (nI pn)) ((T1.1.1) + ((fo_tm (nI pn)).toInt64)))))) := by rw [eh254]; exact ((va_up_ne _ _ (hT.ne (i := 4) (j := 5) (by decide) (by decide) (by decide))).trans fq249)
      have fq257 : h254 (b 5) = some (.inl (E.1 6, 10, .inl (upd (T1.2.2 5) (Int32.toNatClampNeg (nI pn)) (vp_nar .boolean 1)))) := by rw [eh254]; exact (va_up_self _ _ _)
      have fq258 : h254 (b 6) = some (.inl (E.1 0, 10, .inl (T1.2.2 6))) := by rw [eh254]; exact ((va_up_ne _ _ (hT.ne (i := 6) (j := 5) (by decide) (by decide) (by decide))).trans fq251)
      have fq259 : h254 (b 7) = some (.inl (E.1 0, 10, .inl (upd (T1.2.2 7) (Int32.toNatClampNeg (nI pn)) (T1.1.2.1)))) := by rw [eh254]; exact ((va_up_ne _ _ (hT.ne (i := 7) (j := 5) (by decide) (by decide) (by decide))).trans fq252)
      have s4 : fo_R E b (fo_pa (fo_po (fo_pa (fo_pJ T1 (vp_updL T1.2.1 pn (T1.1.1 + (fo_tm (nI pn)).toInt64))) 7 (upd (T1.2.2 7) pn T1.1.2.1)) (T1.1.1, T1.1.2.1 + 1, T1.1.2.2)) 5 (upd (T1.2.2 5) pn (if (1 : Int32) = 1 then 1 else 0))) h254 := by rw [eh254, (show Int32.toNatClampNeg (nI pn) = pn from nI_clamp (by omega)), fo_nar1, if_pos rfl]; exact s3.pa 5 _ (by decide) (by decide) (by decide)
      refine lv_aload_n hx hb dF_operate_108 rfl (lv_at hl 0 rfl) ?_
      refine va_get (D := D) (ci := 7) (v := .ref (b 6)) (C := "UnitRoomModel") (T := TF) (N := 18) hx hb hts inF hown hV (ur_one hI.1 fq255) 0 rfl rfl 6 (by decide) (hts _ mw583) (fun _ h9 => h9) rfl dF_operate_109 ?_
      refine lv_iload hx hb dF_operate_112 (lv_at hl 4 rfl) ?_
      refine lv_iload_n hx hb dF_operate_114 rfl (lv_at hl 2 rfl) ?_
      refine ur_iast hx hb hV hI 0 fq258 rfl (vp_in_nI (by omega) (by decide)) dF_operate_115 (fun H locs hI => ?_)
      obtain ⟨h260, eh260⟩ : ∃ z : ur_M, z = va_up h254 (b 6) (some (.inl (E.1 0, 10, .inl (upd (T1.2.2 6) (Int32.toNatClampNeg (nI pn)) mv)))) := ⟨_, rfl⟩
      replace hI : ur_I D vwCl (ur_A h s.heap.size) s.heap h260 H locs := by rw [eh260]; exact hI
      have fq261 : h260 (b 0) = some (.inr (7, [.ref (b 1), .ref (b 2), .ref (b 3), .long (T1.1.1), .ref (b 4), .ref (b 5), .ref (b 6), .ref (b 7), .int ((T1.1.2.1) + 1), .ref (b 8), .int (T1.1.2.2.1), .ref (b 9), .ref (b 10), .ref (b 11), .ref (b 12), .ref (b 13), .int (T1.1.2.2.2), .ref (b 14)])) := by rw [eh260]; exact ((va_up_ne _ _ (hT.ne (i := 0) (j := 6) (by decide) (by decide) (by decide))).trans fq255)
      have fq262 : h260 (b 4) = some (.inl (E.1 5, 10, .inr (.inl (vp_updL (T1.2.1) (Int32.toNatClampNeg (nI pn)) ((T1.1.1) + ((fo_tm (nI pn)).toInt64)))))) := by rw [eh260]; exact ((va_up_ne _ _ (hT.ne (i := 4) (j := 6) (by decide) (by decide) (by decide))).trans fq256)
      have fq263 : h260 (b 5) = some (.inl (E.1 6, 10, .inl (upd (T1.2.2 5) (Int32.toNatClampNeg (nI pn)) (vp_nar .boolean 1)))) := by rw [eh260]; exact ((va_up_ne _ _ (hT.ne (i := 5) (j := 6) (by decide) (by decide) (by decide))).trans fq257)
      have fq264 : h260 (b 6) = some (.inl (E.1 0, 10, .inl (upd (T1.2.2 6) (Int32.toNatClampNeg (nI pn)) mv))) := by rw [eh260]; exact (va_up_self _ _ _)
      have fq265 : h260 (b 7) = some (.inl (E.1 0, 10, .inl (upd (T1.2.2 7) (Int32.toNatClampNeg (nI pn)) (T1.1.2.1)))) := by rw [eh260]; exact ((va_up_ne _ _ (hT.ne (i := 7) (j := 6) (by decide) (by decide) (by decide))).trans fq259)
      obtain ⟨TB, hTB⟩ : ∃ z, z = fo_bg T1 pn 1 mv := ⟨_, rfl⟩
      have hB : fo_R E b TB h260 := by rw [hTB, eh260, (show Int32.toNatClampNeg (nI pn) = pn from nI_clamp (by omega))]; exact s4.pa 6 _ (by decide) (by decide) (by decide)
      have hB3 : TB.2.2 3 = T.2.2 3 := by rw [hTB, fo_bg_r _ _ _ _ 3 (by decide) (by decide) (by decide)]; exact hr9.2.2 3 (by decide) (by decide)
      have hB10 : TB.2.2 10 = T.2.2 10 := by rw [hTB, fo_bg_r _ _ _ _ 10 (by decide) (by decide) (by decide)]; exact hr9.2.2 10 (by decide) (by decide)
      have hBc : TB.1.2.2.1 = T.1.2.2.1 := by rw [hTB, fo_bg_1]; show T1.1.2.2.1 = _; rw [hr9.2.1]
      have hfin : fo_bg (fo_gg T pn) pn 1 mv = TB := by rw [hgg, hTB]
      have y0 : h260 (b 0) = some (.inr (7, [.ref (b 1), .ref (b 2), .ref (b 3), .long (TB.1.1), .ref (b 4), .ref (b 5), .ref (b 6), .ref (b 7), .int (TB.1.2.1), .ref (b 8), .int (TB.1.2.2.1), .ref (b 9), .ref (b 10), .ref (b 11), .ref (b 12), .ref (b 13), .int (TB.1.2.2.2), .ref (b 14)])) := hB.obj
      have y8 : h260 (b 8) = some (.inl (E.1 0, 1000, .inl (TB.2.2 8))) := hB.arr 8 (by decide) (by decide) (by decide)
      have y2 : h260 (b 2) = some (.inl (E.1 0, 38400, .inl (TB.2.2 2))) := hB.arr 2 (by decide) (by decide) (by decide)
      refine lv_iload_n hx hb dF_operate_116 rfl (lv_at hl 1 rfl) ?_
      refine lv_if_ne (tgt := 130) hx hb dF_operate_117 (by decide) (fun c266 => ?_) (fun c266 => absurd c266 (by decide))
      refine lv_iload hx hb dF_operate_130 (lv_at hl 4 rfl) ?_
      refine lv_iconst (v := 4) hx hb dF_operate_132 (by decide) ?_
      refine lv_icmp_ge (tgt := 165) hx hb dF_operate_133 (by decide) (fun c267 => ?_) (fun c267 => absurd c267 (not_not_intro (nI_le (a := 4) (by omega) (by omega))))
      refine lv_iload hx hb dF_operate_165 (lv_at hl 4 rfl) ?_
      refine lv_bipush (v := 6) hx hb dF_operate_167 (by decide) ?_
      refine lv_icmp_ge (tgt := 185) hx hb dF_operate_169 (by decide) (fun c268 => absurd c268 (fun z9 => absurd ((nI_leI (a := 6) (by decide) (by omega)).mp z9) (by omega))) (fun c268 => ?_)
      refine lv_aload_n hx hb dF_operate_172 rfl (lv_at hl 0 rfl) ?_
      refine lv_iload hx hb dF_operate_173 (lv_at hl 4 rfl) ?_
      refine lv_iload_n hx hb dF_operate_175 rfl (lv_at hl 1 rfl) ?_
      refine lv_iload_n hx hb dF_operate_176 rfl (lv_at hl 2 rfl) ?_
      refine lv_iload hx hb dF_operate_177 (lv_at hl 3 rfl) ?_
      refine ur_xv (va_runV (As := [.int (nI pn), .int 1, .int mv, .int (nI xn)]) (rest := []) ⟨hx, hb, hml, hown, hts⟩ (kF_use1 l D E h260 (b 0) (b 1) (b 2) (b 3) (b 4) (b 5) (b 6) (b 7) (b 8) (b 9) (b 10) (b 11) (b 12) (b 13) (b 14) (TB.1.1) (TB.1.2.1) (TB.1.2.2.1) (TB.1.2.2.2) pn xn mv (TB.2.2 8) (TB.2.2 2) y0 y8 y2 (by omega) (by omega) H.size) (cwV 4 hts (ur_gV mw702 mw704 ms12 mw11 mw705) rfl rfl rfl (by decide +kernel) ⟨(Nat.le_of_ble_eq_true rfl), (Nat.le_of_ble_eq_true rfl)⟩) ⟨ur_blind, va_recv hV (ur_one hI.1 y0) (ci := 7) (q0 := 0) rfl rfl, ur_pre hI hO hK (fun _ _ q => q)⟩ rfl rfl hl.1 rfl (lv_room (Nat.le_of_ble_eq_true rfl)) dF_operate_179 ⟨Nat.le_of_ble_eq_true rfl, Nat.le_of_ble_eq_true rfl⟩) hI (fun h269 H locs p269 hI => ?_)
      have eh269 := p269
      have fq270 : h269 (b 0) = some (.inr (7, [.ref (b 1), .ref (b 2), .ref (b 3), .long (TB.1.1), .ref (b 4), .ref (b 5), .ref (b 6), .ref (b 7), .int (TB.1.2.1), .ref (b 8), .int (TB.1.2.2.1), .ref (b 9), .ref (b 10), .ref (b 11), .ref (b 12), .ref (b 13), .int (TB.1.2.2.2), .ref (b 14)])) := by rw [eh269]; exact ((va_up_ne _ _ (hT.ne (i := 0) (j := 8) (by decide) (by decide) (by decide))).trans y0)
      have fq271 : h269 (b 8) = some (.inl (E.1 0, 1000, .inl (fo_cp (TB.2.2 8) (TB.2.2 2) (100 * pn) (100 * (64 * pn + xn)) 100))) := by rw [eh269]; exact (va_up_self _ _ _)
      have fq272 : h269 (b 2) = some (.inl (E.1 0, 38400, .inl (TB.2.2 2))) := by rw [eh269]; exact ((va_up_ne _ _ (hT.ne (i := 2) (j := 8) (by decide) (by decide) (by decide))).trans y2)
      refine lv_goto (tgt := 206) hx hb dF_operate_182 (by decide) ?_
      refine lv_iconst (v := 0) hx hb dF_operate_206 (by decide) ?_
      exact ur_ri hx hb hr hlocks hI hQ ⟨rfl, (by show fo_R E b _ _; rw [hfin, eh269]; exact hB.pa 8 _ (by decide) (by decide) (by decide))⟩ dF_operate_207
    · have hl : lv_has ls 7 [(0, .ref (b 0)), (2, .int 2), (3, .int (nI mn)), (4, .int (nI xn)), (5, .int (nI pn))] := hl
      refine lv_aload_n hx hb dF_operate_52 rfl (lv_at hl 0 rfl) ?_
      refine va_get (D := D) (ci := 7) (v := .ref (b 4)) (C := "UnitRoomModel") (T := TF) (N := 18) hx hb hts inF hown hV (ur_one hI.1 k0) 0 rfl rfl 4 (by decide) (hts _ mw581) (fun _ h9 => h9) rfl dF_operate_53 ?_
      refine lv_iload hx hb dF_operate_56 (lv_at hl 4 rfl) ?_
      refine lv_aload_n hx hb dF_operate_58 rfl (lv_at hl 0 rfl) ?_
      refine va_get (D := D) (ci := 7) (v := .long (T1.1.1)) (C := "UnitRoomModel") (T := TF) (N := 18) hx hb hts inF hown hV (ur_one hI.1 k0) 0 rfl rfl 3 (by decide) (hts _ mw580) (fun _ h9 => h9) rfl dF_operate_59 ?_
      refine lv_iload hx hb dF_operate_62 (lv_at hl 4 rfl) ?_
      refine ur_xi (va_runS (As := [.int (nI pn)]) (rest := [.long (T1.1.1), .int (nI pn), .ref (b 4)]) ⟨hx, hb, hml, hown, hts⟩ (kF_timeOf l D E h1 (nI pn) H.size) (va_cwS 1 hts (ur_gT mw690 mw691 mw11 mw692) rfl rfl rfl (by decide +kernel) ⟨(Nat.le_of_ble_eq_true rfl), (Nat.le_of_ble_eq_true rfl)⟩) ⟨ur_blind, ur_pre hI hO hK (fun _ _ q => q)⟩ rfl rfl hl.1 rfl (lv_room (Nat.le_of_ble_eq_true rfl)) dF_operate_64 ⟨Nat.le_of_ble_eq_true rfl, Nat.le_of_ble_eq_true rfl⟩) hI (fun r273 h273 H locs p273 hI => ?_)
      obtain ⟨er273, eh273⟩ := p273
      replace eh273 := eh273.symm; subst eh273
      replace er273 := er273.symm; subst er273
      refine lv_i2l hx hb dF_operate_67 rfl ?_
      refine lv_ladd hx hb dF_operate_68 ?_
      refine ur_last hx hb hV hI 5 k4 rfl (vp_in_nI (by omega) (by decide)) dF_operate_69 (fun H locs hI => ?_)
      obtain ⟨h274, eh274⟩ : ∃ z : ur_M, z = va_up h1 (b 4) (some (.inl (E.1 5, 10, .inr (.inl (vp_updL (T1.2.1) (Int32.toNatClampNeg (nI pn)) ((T1.1.1) + ((fo_tm (nI pn)).toInt64))))))) := ⟨_, rfl⟩
      replace hI : ur_I D vwCl (ur_A h s.heap.size) s.heap h274 H locs := by rw [eh274]; exact hI
      have fq275 : h274 (b 0) = some (.inr (7, [.ref (b 1), .ref (b 2), .ref (b 3), .long (T1.1.1), .ref (b 4), .ref (b 5), .ref (b 6), .ref (b 7), .int (T1.1.2.1), .ref (b 8), .int (T1.1.2.2.1), .ref (b 9), .ref (b 10), .ref (b 11), .ref (b 12), .ref (b 13), .int (T1.1.2.2.2), .ref (b 14)])) := by rw [eh274]; exact ((va_up_ne _ _ (hT.ne (i := 0) (j := 4) (by decide) (by decide) (by decide))).trans k0)
      have fq276 : h274 (b 4) = some (.inl (E.1 5, 10, .inr (.inl (vp_updL (T1.2.1) (Int32.toNatClampNeg (nI pn)) ((T1.1.1) + ((fo_tm (nI pn)).toInt64)))))) := by rw [eh274]; exact (va_up_self _ _ _)
      have fq277 : h274 (b 5) = some (.inl (E.1 6, 10, .inl (T1.2.2 5))) := by rw [eh274]; exact ((va_up_ne _ _ (hT.ne (i := 5) (j := 4) (by decide) (by decide) (by decide))).trans k5)
      have fq278 : h274 (b 6) = some (.inl (E.1 0, 10, .inl (T1.2.2 6))) := by rw [eh274]; exact ((va_up_ne _ _ (hT.ne (i := 6) (j := 4) (by decide) (by decide) (by decide))).trans k6)
      have fq279 : h274 (b 7) = some (.inl (E.1 0, 10, .inl (T1.2.2 7))) := by rw [eh274]; exact ((va_up_ne _ _ (hT.ne (i := 7) (j := 4) (by decide) (by decide) (by decide))).trans k7)
      have s1 : fo_R E b (fo_pJ T1 (vp_updL T1.2.1 pn (T1.1.1 + (fo_tm (nI pn)).toInt64))) h274 := by rw [eh274, (show Int32.toNatClampNeg (nI pn) = pn from nI_clamp (by omega))]; exact hT1.pJ _
      refine lv_aload_n hx hb dF_operate_70 rfl (lv_at hl 0 rfl) ?_
      refine va_get (D := D) (ci := 7) (v := .ref (b 7)) (C := "UnitRoomModel") (T := TF) (N := 18) hx hb hts inF hown hV (ur_one hI.1 fq275) 0 rfl rfl 7 (by decide) (hts _ mw584) (fun _ h9 => h9) rfl dF_operate_71 ?_
      refine lv_iload hx hb dF_operate_74 (lv_at hl 4 rfl) ?_
      refine lv_aload_n hx hb dF_operate_76 rfl (lv_at hl 0 rfl) ?_
      refine va_get (D := D) (ci := 7) (v := .int (T1.1.2.1)) (C := "UnitRoomModel") (T := TF) (N := 18) hx hb hts inF hown hV (ur_one hI.1 fq275) 0 rfl rfl 8 (by decide) (hts _ mw585) (fun _ h9 => h9) rfl dF_operate_77 ?_
      refine ur_iast hx hb hV hI 0 fq279 rfl (vp_in_nI (by omega) (by decide)) dF_operate_80 (fun H locs hI => ?_)
      obtain ⟨h280, eh280⟩ : ∃ z : ur_M, z = va_up h274 (b 7) (some (.inl (E.1 0, 10, .inl (upd (T1.2.2 7) (Int32.toNatClampNeg (nI pn)) (T1.1.2.1))))) := ⟨_, rfl⟩
      replace hI : ur_I D vwCl (ur_A h s.heap.size) s.heap h280 H locs := by rw [eh280]; exact hI
      have fq281 : h280 (b 0) = some (.inr (7, [.ref (b 1), .ref (b 2), .ref (b 3), .long (T1.1.1), .ref (b 4), .ref (b 5), .ref (b 6), .ref (b 7), .int (T1.1.2.1), .ref (b 8), .int (T1.1.2.2.1), .ref (b 9), .ref (b 10), .ref (b 11), .ref (b 12), .ref (b 13), .int (T1.1.2.2.2), .ref (b 14)])) := by rw [eh280]; exact ((va_up_ne _ _ (hT.ne (i := 0) (j := 7) (by decide) (by decide) (by decide))).trans fq275)
      have fq282 : h280 (b 4) = some (.inl (E.1 5, 10, .inr (.inl (vp_updL (T1.2.1) (Int32.toNatClampNeg (nI pn)) ((T1.1.1) + ((fo_tm (nI pn)).toInt64)))))) := by rw [eh280]; exact ((va_up_ne _ _ (hT.ne (i := 4) (j := 7) (by decide) (by decide) (by decide))).trans fq276)
      have fq283 : h280 (b 5) = some (.inl (E.1 6, 10, .inl (T1.2.2 5))) := by rw [eh280]; exact ((va_up_ne _ _ (hT.ne (i := 5) (j := 7) (by decide) (by decide) (by decide))).trans fq277)
      have fq284 : h280 (b 6) = some (.inl (E.1 0, 10, .inl (T1.2.2 6))) := by rw [eh280]; exact ((va_up_ne _ _ (hT.ne (i := 6) (j := 7) (by decide) (by decide) (by decide))).trans fq278)
      have fq285 : h280 (b 7) = some (.inl (E.1 0, 10, .inl (upd (T1.2.2 7) (Int32.toNatClampNeg (nI pn)) (T1.1.2.1)))) := by rw [eh280]; exact (va_up_self _ _ _)
      have s2 : fo_R E b (fo_pa (fo_pJ T1 (vp_updL T1.2.1 pn (T1.1.1 + (fo_tm (nI pn)).toInt64))) 7 (upd (T1.2.2 7) pn T1.1.2.1)) h280 := by rw [eh280, (show Int32.toNatClampNeg (nI pn) = pn from nI_clamp (by omega))]; exact s1.pa 7 _ (by decide) (by decide) (by decide)
      refine lv_aload_n hx hb dF_operate_81 rfl (lv_at hl 0 rfl) ?_
      refine lv_dup hx hb dF_operate_82 rfl ?_
      refine va_get (D := D) (ci := 7) (v := .int (T1.1.2.1)) (C := "UnitRoomModel") (T := TF) (N := 18) hx hb hts inF hown hV (ur_one hI.1 fq281) 0 rfl rfl 8 (by decide) (hts _ mw585) (fun _ h9 => h9) rfl dF_operate_83 ?_
      refine lv_iconst (v := 1) hx hb dF_operate_86 (by decide) ?_
      refine lv_iadd hx hb dF_operate_87 ?_
      refine ur_put (D := D) (ci := 7) (v := .int ((T1.1.2.1) + 1)) (ty := .int) (C := "UnitRoomModel") (T := TF) (N := 18) hx hb hts inF tyF tyF_ok nmF hown hV hI fq281 rfl 8 (by decide) (hts _ mw585) (fun _ h9 => h9) rfl (by decide +kernel) rfl rfl (Nat.le_of_ble_eq_true rfl) dF_operate_88 (fun H locs hI => ?_)
      obtain ⟨h286, eh286⟩ : ∃ z : ur_M, z = va_up h280 (b 0) (some (.inr (7, [.ref (b 1), .ref (b 2), .ref (b 3), .long (T1.1.1), .ref (b 4), .ref (b 5), .ref (b 6), .ref (b 7), .int ((T1.1.2.1) + 1), .ref (b 8), .int (T1.1.2.2.1), .ref (b 9), .ref (b 10), .ref (b 11), .ref (b 12), .ref (b 13), .int (T1.1.2.2.2), .ref (b 14)]))) := ⟨_, rfl⟩
      replace hI : ur_I D vwCl (ur_A h s.heap.size) s.heap h286 H locs := by rw [eh286]; exact hI
      have fq287 : h286 (b 0) = some (.inr (7, [.ref (b 1), .ref (b 2), .ref (b 3), .long (T1.1.1), .ref (b 4), .ref (b 5), .ref (b 6), .ref (b 7), .int ((T1.1.2.1) + 1), .ref (b 8), .int (T1.1.2.2.1), .ref (b 9), .ref (b 10), .ref (b 11), .ref (b 12), .ref (b 13), .int (T1.1.2.2.2), .ref (b 14)])) := by rw [eh286]; exact (va_up_self _ _ _)
      have fq288 : h286 (b 4) = some (.inl (E.1 5, 10, .inr (.inl (vp_updL (T1.2.1) (Int32.toNatClampNeg (nI pn)) ((T1.1.1) + ((fo_tm (nI pn)).toInt64)))))) := by rw [eh286]; exact ((va_up_ne _ _ (hT.ne (i := 4) (j := 0) (by decide) (by decide) (by decide))).trans fq282)
      have fq289 : h286 (b 5) = some (.inl (E.1 6, 10, .inl (T1.2.2 5))) := by rw [eh286]; exact ((va_up_ne _ _ (hT.ne (i := 5) (j := 0) (by decide) (by decide) (by decide))).trans fq283)
      have fq290 : h286 (b 6) = some (.inl (E.1 0, 10, .inl (T1.2.2 6))) := by rw [eh286]; exact ((va_up_ne _ _ (hT.ne (i := 6) (j := 0) (by decide) (by decide) (by decide))).trans fq284)
      have fq291 : h286 (b 7) = some (.inl (E.1 0, 10, .inl (upd (T1.2.2 7) (Int32.toNatClampNeg (nI pn)) (T1.1.2.1)))) := by rw [eh286]; exact ((va_up_ne _ _ (hT.ne (i := 7) (j := 0) (by decide) (by decide) (by decide))).trans fq285)
      have s3 : fo_R E b (fo_po (fo_pa (fo_pJ T1 (vp_updL T1.2.1 pn (T1.1.1 + (fo_tm (nI pn)).toInt64))) 7 (upd (T1.2.2 7) pn T1.1.2.1)) (T1.1.1, T1.1.2.1 + 1, T1.1.2.2)) h286 := by rw [eh286]; exact s2.po (T1.1.1, T1.1.2.1 + 1, T1.1.2.2)
      refine lv_aload_n hx hb dF_operate_91 rfl (lv_at hl 0 rfl) ?_
      refine va_get (D := D) (ci := 7) (v := .ref (b 5)) (C := "UnitRoomModel") (T := TF) (N := 18) hx hb hts inF hown hV (ur_one hI.1 fq287) 0 rfl rfl 5 (by decide) (hts _ mw582) (fun _ h9 => h9) rfl dF_operate_92 ?_
      refine lv_iload hx hb dF_operate_95 (lv_at hl 4 rfl) ?_
      refine lv_iload_n hx hb dF_operate_97 rfl (lv_at hl 1 rfl) ?_
      refine lv_iconst (v := 1) hx hb dF_operate_98 (by decide) ?_
      refine lv_icmp_ne (tgt := 106) hx hb dF_operate_99 (by decide) (fun c292 => ?_) (fun c292 => absurd c292 (by decide))
      refine lv_iconst (v := 0) hx hb dF_operate_106 (by decide) ?_
      refine ur_zast hx hb hV hI 6 fq289 rfl (vp_in_nI (by omega) (by decide)) dF_operate_107 (fun H locs hI => ?_)
      obtain ⟨h293, eh293⟩ : ∃ z : ur_M, z = va_up h286 (b 5) (some (.inl (E.1 6, 10, .inl (upd (T1.2.2 5) (Int32.toNatClampNeg (nI pn)) (vp_nar .boolean 0))))) := ⟨_, rfl⟩
      replace hI : ur_I D vwCl (ur_A h s.heap.size) s.heap h293 H locs := by rw [eh293]; exact hI
      have fq294 : h293 (b 0) = some (.inr (7, [.ref (b 1), .ref (b 2), .ref (b 3), .long (T1.1.1), .ref (b 4), .ref (b 5), .ref (b 6), .ref (b 7), .int ((T1.1.2.1) + 1), .ref (b 8), .int (T1.1.2.2.1), .ref (b 9), .ref (b 10), .ref (b 11), .ref (b 12), .ref (b 13), .int (T1.1.2.2.2), .ref (b 14)])) := by rw [eh293]; exact ((va_up_ne _ _ (hT.ne (i := 0) (j := 5) (by decide) (by decide) (by decide))).trans fq287)
      have fq295 : h293 (b 4) = some (.inl (E.1 5, 10, .inr (.inl (vp_updL (T1.2.1) (Int32.toNatClampNeg (nI pn)) ((T1.1.1) + ((fo_tm (nI pn)).toInt64)))))) := by rw [eh293]; exact ((va_up_ne _ _ (hT.ne (i := 4) (j := 5) (by decide) (by decide) (by decide))).trans fq288)
      have fq296 : h293 (b 5) = some (.inl (E.1 6, 10, .inl (upd (T1.2.2 5) (Int32.toNatClampNeg (nI pn)) (vp_nar .boolean 0)))) := by rw [eh293]; exact (va_up_self _ _ _)
      have fq297 : h293 (b 6) = some (.inl (E.1 0, 10, .inl (T1.2.2 6))) := by rw [eh293]; exact ((va_up_ne _ _ (hT.ne (i := 6) (j := 5) (by decide) (by decide) (by decide))).trans fq290)
      have fq298 : h293 (b 7) = some (.inl (E.1 0, 10, .inl (upd (T1.2.2 7) (Int32.toNatClampNeg (nI pn)) (T1.1.2.1)))) := by rw [eh293]; exact ((va_up_ne _ _ (hT.ne (i := 7) (j := 5) (by decide) (by decide) (by decide))).trans fq291)
      have s4 : fo_R E b (fo_pa (fo_po (fo_pa (fo_pJ T1 (vp_updL T1.2.1 pn (T1.1.1 + (fo_tm (nI pn)).toInt64))) 7 (upd (T1.2.2 7) pn T1.1.2.1)) (T1.1.1, T1.1.2.1 + 1, T1.1.2.2)) 5 (upd (T1.2.2 5) pn (if (2 : Int32) = 1 then 1 else 0))) h293 := by rw [eh293, (show Int32.toNatClampNeg (nI pn) = pn from nI_clamp (by omega)), fo_nar0, if_neg (by decide)]; exact s3.pa 5 _ (by decide) (by decide) (by decide)
      refine lv_aload_n hx hb dF_operate_108 rfl (lv_at hl 0 rfl) ?_
      refine va_get (D := D) (ci := 7) (v := .ref (b 6)) (C := "UnitRoomModel") (T := TF) (N := 18) hx hb hts inF hown hV (ur_one hI.1 fq294) 0 rfl rfl 6 (by decide) (hts _ mw583) (fun _ h9 => h9) rfl dF_operate_109 ?_
      refine lv_iload hx hb dF_operate_112 (lv_at hl 4 rfl) ?_
      refine lv_iload_n hx hb dF_operate_114 rfl (lv_at hl 2 rfl) ?_
      refine ur_iast hx hb hV hI 0 fq297 rfl (vp_in_nI (by omega) (by decide)) dF_operate_115 (fun H locs hI => ?_)
      obtain ⟨h299, eh299⟩ : ∃ z : ur_M, z = va_up h293 (b 6) (some (.inl (E.1 0, 10, .inl (upd (T1.2.2 6) (Int32.toNatClampNeg (nI pn)) (nI mn))))) := ⟨_, rfl⟩
      replace hI : ur_I D vwCl (ur_A h s.heap.size) s.heap h299 H locs := by rw [eh299]; exact hI
      have fq300 : h299 (b 0) = some (.inr (7, [.ref (b 1), .ref (b 2), .ref (b 3), .long (T1.1.1), .ref (b 4), .ref (b 5), .ref (b 6), .ref (b 7), .int ((T1.1.2.1) + 1), .ref (b 8), .int (T1.1.2.2.1), .ref (b 9), .ref (b 10), .ref (b 11), .ref (b 12), .ref (b 13), .int (T1.1.2.2.2), .ref (b 14)])) := by rw [eh299]; exact ((va_up_ne _ _ (hT.ne (i := 0) (j := 6) (by decide) (by decide) (by decide))).trans fq294)
      have fq301 : h299 (b 4) = some (.inl (E.1 5, 10, .inr (.inl (vp_updL (T1.2.1) (Int32.toNatClampNeg (nI pn)) ((T1.1.1) + ((fo_tm (nI pn)).toInt64)))))) := by rw [eh299]; exact ((va_up_ne _ _ (hT.ne (i := 4) (j := 6) (by decide) (by decide) (by decide))).trans fq295)
      have fq302 : h299 (b 5) = some (.inl (E.1 6, 10, .inl (upd (T1.2.2 5) (Int32.toNatClampNeg (nI pn)) (vp_nar .boolean 0)))) := by rw [eh299]; exact ((va_up_ne _ _ (hT.ne (i := 5) (j := 6) (by decide) (by decide) (by decide))).trans fq296)
      have fq303 : h299 (b 6) = some (.inl (E.1 0, 10, .inl (upd (T1.2.2 6) (Int32.toNatClampNeg (nI pn)) (nI mn)))) := by rw [eh299]; exact (va_up_self _ _ _)
      have fq304 : h299 (b 7) = some (.inl (E.1 0, 10, .inl (upd (T1.2.2 7) (Int32.toNatClampNeg (nI pn)) (T1.1.2.1)))) := by rw [eh299]; exact ((va_up_ne _ _ (hT.ne (i := 7) (j := 6) (by decide) (by decide) (by decide))).trans fq298)
      obtain ⟨TB, hTB⟩ : ∃ z, z = fo_bg T1 pn 2 (nI mn) := ⟨_, rfl⟩
      have hB : fo_R E b TB h299 := by rw [hTB, eh299, (show Int32.toNatClampNeg (nI pn) = pn from nI_clamp (by omega))]; exact s4.pa 6 _ (by decide) (by decide) (by decide)
      have hB3 : TB.2.2 3 = T.2.2 3 := by rw [hTB, fo_bg_r _ _ _ _ 3 (by decide) (by decide) (by decide)]; exact hr9.2.2 3 (by decide) (by decide)
      have hB10 : TB.2.2 10 = T.2.2 10 := by rw [hTB, fo_bg_r _ _ _ _ 10 (by decide) (by decide) (by decide)]; exact hr9.2.2 10 (by decide) (by decide)
      have hBc : TB.1.2.2.1 = T.1.2.2.1 := by rw [hTB, fo_bg_1]; show T1.1.2.2.1 = _; rw [hr9.2.1]
      have hfin : fo_bg (fo_gg T pn) pn 2 (nI mn) = TB := by rw [hgg, hTB]
      have y0 : h299 (b 0) = some (.inr (7, [.ref (b 1), .ref (b 2), .ref (b 3), .long (TB.1.1), .ref (b 4), .ref (b 5), .ref (b 6), .ref (b 7), .int (TB.1.2.1), .ref (b 8), .int (TB.1.2.2.1), .ref (b 9), .ref (b 10), .ref (b 11), .ref (b 12), .ref (b 13), .int (TB.1.2.2.2), .ref (b 14)])) := hB.obj
      have y2 : h299 (b 2) = some (.inl (E.1 0, 38400, .inl (TB.2.2 2))) := hB.arr 2 (by decide) (by decide) (by decide)
      have y1 : h299 (b 1) = some (.inl (E.1 0, 4000, .inl (TB.2.2 1))) := hB.arr 1 (by decide) (by decide) (by decide)
      refine lv_iload_n hx hb dF_operate_116 rfl (lv_at hl 1 rfl) ?_
      refine lv_if_ne (tgt := 130) hx hb dF_operate_117 (by decide) (fun c305 => ?_) (fun c305 => absurd c305 (by decide))
      refine lv_iload hx hb dF_operate_130 (lv_at hl 4 rfl) ?_
      refine lv_iconst (v := 4) hx hb dF_operate_132 (by decide) ?_
      refine lv_icmp_ge (tgt := 165) hx hb dF_operate_133 (by decide) (fun c306 => ?_) (fun c306 => absurd c306 (not_not_intro (nI_le (a := 4) (by omega) (by omega))))
      refine lv_iload hx hb dF_operate_165 (lv_at hl 4 rfl) ?_
      refine lv_bipush (v := 6) hx hb dF_operate_167 (by decide) ?_
      refine lv_icmp_ge (tgt := 185) hx hb dF_operate_169 (by decide) (fun c307 => absurd c307 (fun z9 => absurd ((nI_leI (a := 6) (by decide) (by omega)).mp z9) (by omega))) (fun c307 => ?_)
      refine lv_aload_n hx hb dF_operate_172 rfl (lv_at hl 0 rfl) ?_
      refine lv_iload hx hb dF_operate_173 (lv_at hl 4 rfl) ?_
      refine lv_iload_n hx hb dF_operate_175 rfl (lv_at hl 1 rfl) ?_
      refine lv_iload_n hx hb dF_operate_176 rfl (lv_at hl 2 rfl) ?_
      refine lv_iload hx hb dF_operate_177 (lv_at hl 3 rfl) ?_
      refine ur_xv (va_runV (As := [.int (nI pn), .int 2, .int (nI mn), .int (nI xn)]) (rest := []) ⟨hx, hb, hml, hown, hts⟩ (kF_use2 l D E h299 (b 0) (b 1) (b 2) (b 3) (b 4) (b 5) (b 6) (b 7) (b 8) (b 9) (b 10) (b 11) (b 12) (b 13) (b 14) (TB.1.1) (TB.1.2.1) (TB.1.2.2.1) (TB.1.2.2.2) pn xn mn (TB.2.2 2) (TB.2.2 1) y0 y2 y1 (by omega) (by omega) hmn H.size) (cwV 4 hts (ur_gV mw702 mw704 ms12 mw11 mw705) rfl rfl rfl (by decide +kernel) ⟨(Nat.le_of_ble_eq_true rfl), (Nat.le_of_ble_eq_true rfl)⟩) ⟨ur_blind, va_recv hV (ur_one hI.1 y0) (ci := 7) (q0 := 0) rfl rfl, ur_pre hI hO hK (fun _ _ q => q)⟩ rfl rfl hl.1 rfl (lv_room (Nat.le_of_ble_eq_true rfl)) dF_operate_179 ⟨Nat.le_of_ble_eq_true rfl, Nat.le_of_ble_eq_true rfl⟩) hI (fun h308 H locs p308 hI => ?_)
      have eh308 := p308
      have fq309 : h308 (b 0) = some (.inr (7, [.ref (b 1), .ref (b 2), .ref (b 3), .long (TB.1.1), .ref (b 4), .ref (b 5), .ref (b 6), .ref (b 7), .int (TB.1.2.1), .ref (b 8), .int (TB.1.2.2.1), .ref (b 9), .ref (b 10), .ref (b 11), .ref (b 12), .ref (b 13), .int (TB.1.2.2.2), .ref (b 14)])) := by rw [eh308]; exact ((va_up_ne _ _ (hT.ne (i := 0) (j := 2) (by decide) (by decide) (by decide))).trans y0)
      have fq310 : h308 (b 2) = some (.inl (E.1 0, 38400, .inl (fo_cp (TB.2.2 2) (TB.2.2 1) (100 * (64 * pn + xn)) mn 100))) := by rw [eh308]; exact (va_up_self _ _ _)
      have fq311 : h308 (b 1) = some (.inl (E.1 0, 4000, .inl (TB.2.2 1))) := by rw [eh308]; exact ((va_up_ne _ _ (hT.ne (i := 1) (j := 2) (by decide) (by decide) (by decide))).trans y1)
      refine lv_goto (tgt := 206) hx hb dF_operate_182 (by decide) ?_
      refine lv_iconst (v := 0) hx hb dF_operate_206 (by decide) ?_
      exact ur_ri hx hb hr hlocks hI hQ ⟨rfl, (by show fo_R E b _ _; rw [hfin, eh308]; exact hB.pa 2 _ (by decide) (by decide) (by decide))⟩ dF_operate_207
    · have hl : lv_has ls 7 [(0, .ref (b 0)), (2, .int 1), (3, .int mv), (4, .int x), (5, .int 6)] := hl
      refine lv_aload_n hx hb dF_operate_52 rfl (lv_at hl 0 rfl) ?_
      refine va_get (D := D) (ci := 7) (v := .ref (b 4)) (C := "UnitRoomModel") (T := TF) (N := 18) hx hb hts inF hown hV (ur_one hI.1 k0) 0 rfl rfl 4 (by decide) (hts _ mw581) (fun _ h9 => h9) rfl dF_operate_53 ?_
      refine lv_iload hx hb dF_operate_56 (lv_at hl 4 rfl) ?_
      refine lv_aload_n hx hb dF_operate_58 rfl (lv_at hl 0 rfl) ?_
      refine va_get (D := D) (ci := 7) (v := .long (T1.1.1)) (C := "UnitRoomModel") (T := TF) (N := 18) hx hb hts inF hown hV (ur_one hI.1 k0) 0 rfl rfl 3 (by decide) (hts _ mw580) (fun _ h9 => h9) rfl dF_operate_59 ?_
      refine lv_iload hx hb dF_operate_62 (lv_at hl 4 rfl) ?_
      refine ur_xi (va_runS (As := [.int 6]) (rest := [.long (T1.1.1), .int 6, .ref (b 4)]) ⟨hx, hb, hml, hown, hts⟩ (kF_timeOf l D E h1 6 H.size) (va_cwS 1 hts (ur_gT mw690 mw691 mw11 mw692) rfl rfl rfl (by decide +kernel) ⟨(Nat.le_of_ble_eq_true rfl), (Nat.le_of_ble_eq_true rfl)⟩) ⟨ur_blind, ur_pre hI hO hK (fun _ _ q => q)⟩ rfl rfl hl.1 rfl (lv_room (Nat.le_of_ble_eq_true rfl)) dF_operate_64 ⟨Nat.le_of_ble_eq_true rfl, Nat.le_of_ble_eq_true rfl⟩) hI (fun r312 h312 H locs p312 hI => ?_)
      obtain ⟨er312, eh312⟩ := p312
      replace eh312 := eh312.symm; subst eh312
      replace er312 := er312.symm; subst er312
      refine lv_i2l hx hb dF_operate_67 rfl ?_
      refine lv_ladd hx hb dF_operate_68 ?_
      refine ur_last hx hb hV hI 5 k4 rfl (vp_in_nI (by omega) (by decide)) dF_operate_69 (fun H locs hI => ?_)
      obtain ⟨h313, eh313⟩ : ∃ z : ur_M, z = va_up h1 (b 4) (some (.inl (E.1 5, 10, .inr (.inl (vp_updL (T1.2.1) (Int32.toNatClampNeg 6) ((T1.1.1) + ((fo_tm 6).toInt64))))))) := ⟨_, rfl⟩
      replace hI : ur_I D vwCl (ur_A h s.heap.size) s.heap h313 H locs := by rw [eh313]; exact hI
      have fq314 : h313 (b 0) = some (.inr (7, [.ref (b 1), .ref (b 2), .ref (b 3), .long (T1.1.1), .ref (b 4), .ref (b 5), .ref (b 6), .ref (b 7), .int (T1.1.2.1), .ref (b 8), .int (T1.1.2.2.1), .ref (b 9), .ref (b 10), .ref (b 11), .ref (b 12), .ref (b 13), .int (T1.1.2.2.2), .ref (b 14)])) := by rw [eh313]; exact ((va_up_ne _ _ (hT.ne (i := 0) (j := 4) (by decide) (by decide) (by decide))).trans k0)
      have fq315 : h313 (b 4) = some (.inl (E.1 5, 10, .inr (.inl (vp_updL (T1.2.1) (Int32.toNatClampNeg 6) ((T1.1.1) + ((fo_tm 6).toInt64)))))) := by rw [eh313]; exact (va_up_self _ _ _)
      have fq316 : h313 (b 5) = some (.inl (E.1 6, 10, .inl (T1.2.2 5))) := by rw [eh313]; exact ((va_up_ne _ _ (hT.ne (i := 5) (j := 4) (by decide) (by decide) (by decide))).trans k5)
      have fq317 : h313 (b 6) = some (.inl (E.1 0, 10, .inl (T1.2.2 6))) := by rw [eh313]; exact ((va_up_ne _ _ (hT.ne (i := 6) (j := 4) (by decide) (by decide) (by decide))).trans k6)
      have fq318 : h313 (b 7) = some (.inl (E.1 0, 10, .inl (T1.2.2 7))) := by rw [eh313]; exact ((va_up_ne _ _ (hT.ne (i := 7) (j := 4) (by decide) (by decide) (by decide))).trans k7)
      have s1 : fo_R E b (fo_pJ T1 (vp_updL T1.2.1 6 (T1.1.1 + (fo_tm (nI 6)).toInt64))) h313 := by rw [eh313, (show Int32.toNatClampNeg 6 = 6 from rfl)]; exact hT1.pJ _
      refine lv_aload_n hx hb dF_operate_70 rfl (lv_at hl 0 rfl) ?_
      refine va_get (D := D) (ci := 7) (v := .ref (b 7)) (C := "UnitRoomModel") (T := TF) (N := 18) hx hb hts inF hown hV (ur_one hI.1 fq314) 0 rfl rfl 7 (by decide) (hts _ mw584) (fun _ h9 => h9) rfl dF_operate_71 ?_
      refine lv_iload hx hb dF_operate_74 (lv_at hl 4 rfl) ?_
      refine lv_aload_n hx hb dF_operate_76 rfl (lv_at hl 0 rfl) ?_
      refine va_get (D := D) (ci := 7) (v := .int (T1.1.2.1)) (C := "UnitRoomModel") (T := TF) (N := 18) hx hb hts inF hown hV (ur_one hI.1 fq314) 0 rfl rfl 8 (by decide) (hts _ mw585) (fun _ h9 => h9) rfl dF_operate_77 ?_
      refine ur_iast hx hb hV hI 0 fq318 rfl (vp_in_nI (by omega) (by decide)) dF_operate_80 (fun H locs hI => ?_)
      obtain ⟨h319, eh319⟩ : ∃ z : ur_M, z = va_up h313 (b 7) (some (.inl (E.1 0, 10, .inl (upd (T1.2.2 7) (Int32.toNatClampNeg 6) (T1.1.2.1))))) := ⟨_, rfl⟩
      replace hI : ur_I D vwCl (ur_A h s.heap.size) s.heap h319 H locs := by rw [eh319]; exact hI
      have fq320 : h319 (b 0) = some (.inr (7, [.ref (b 1), .ref (b 2), .ref (b 3), .long (T1.1.1), .ref (b 4), .ref (b 5), .ref (b 6), .ref (b 7), .int (T1.1.2.1), .ref (b 8), .int (T1.1.2.2.1), .ref (b 9), .ref (b 10), .ref (b 11), .ref (b 12), .ref (b 13), .int (T1.1.2.2.2), .ref (b 14)])) := by rw [eh319]; exact ((va_up_ne _ _ (hT.ne (i := 0) (j := 7) (by decide) (by decide) (by decide))).trans fq314)
      have fq321 : h319 (b 4) = some (.inl (E.1 5, 10, .inr (.inl (vp_updL (T1.2.1) (Int32.toNatClampNeg 6) ((T1.1.1) + ((fo_tm 6).toInt64)))))) := by rw [eh319]; exact ((va_up_ne _ _ (hT.ne (i := 4) (j := 7) (by decide) (by decide) (by decide))).trans fq315)
      have fq322 : h319 (b 5) = some (.inl (E.1 6, 10, .inl (T1.2.2 5))) := by rw [eh319]; exact ((va_up_ne _ _ (hT.ne (i := 5) (j := 7) (by decide) (by decide) (by decide))).trans fq316)
      have fq323 : h319 (b 6) = some (.inl (E.1 0, 10, .inl (T1.2.2 6))) := by rw [eh319]; exact ((va_up_ne _ _ (hT.ne (i := 6) (j := 7) (by decide) (by decide) (by decide))).trans fq317)
      have fq324 : h319 (b 7) = some (.inl (E.1 0, 10, .inl (upd (T1.2.2 7) (Int32.toNatClampNeg 6) (T1.1.2.1)))) := by rw [eh319]; exact (va_up_self _ _ _)
      have s2 : fo_R E b (fo_pa (fo_pJ T1 (vp_updL T1.2.1 6 (T1.1.1 + (fo_tm (nI 6)).toInt64))) 7 (upd (T1.2.2 7) 6 T1.1.2.1)) h319 := by rw [eh319, (show Int32.toNatClampNeg 6 = 6 from rfl)]; exact s1.pa 7 _ (by decide) (by decide) (by decide)
      refine lv_aload_n hx hb dF_operate_81 rfl (lv_at hl 0 rfl) ?_
      refine lv_dup hx hb dF_operate_82 rfl ?_
      refine va_get (D := D) (ci := 7) (v := .int (T1.1.2.1)) (C := "UnitRoomModel") (T := TF) (N := 18) hx hb hts inF hown hV (ur_one hI.1 fq320) 0 rfl rfl 8 (by decide) (hts _ mw585) (fun _ h9 => h9) rfl dF_operate_83 ?_
      refine lv_iconst (v := 1) hx hb dF_operate_86 (by decide) ?_
      refine lv_iadd hx hb dF_operate_87 ?_
      refine ur_put (D := D) (ci := 7) (v := .int ((T1.1.2.1) + 1)) (ty := .int) (C := "UnitRoomModel") (T := TF) (N := 18) hx hb hts inF tyF tyF_ok nmF hown hV hI fq320 rfl 8 (by decide) (hts _ mw585) (fun _ h9 => h9) rfl (by decide +kernel) rfl rfl (Nat.le_of_ble_eq_true rfl) dF_operate_88 (fun H locs hI => ?_)
      obtain ⟨h325, eh325⟩ : ∃ z : ur_M, z = va_up h319 (b 0) (some (.inr (7, [.ref (b 1), .ref (b 2), .ref (b 3), .long (T1.1.1), .ref (b 4), .ref (b 5), .ref (b 6), .ref (b 7), .int ((T1.1.2.1) + 1), .ref (b 8), .int (T1.1.2.2.1), .ref (b 9), .ref (b 10), .ref (b 11), .ref (b 12), .ref (b 13), .int (T1.1.2.2.2), .ref (b 14)]))) := ⟨_, rfl⟩
      replace hI : ur_I D vwCl (ur_A h s.heap.size) s.heap h325 H locs := by rw [eh325]; exact hI
      have fq326 : h325 (b 0) = some (.inr (7, [.ref (b 1), .ref (b 2), .ref (b 3), .long (T1.1.1), .ref (b 4), .ref (b 5), .ref (b 6), .ref (b 7), .int ((T1.1.2.1) + 1), .ref (b 8), .int (T1.1.2.2.1), .ref (b 9), .ref (b 10), .ref (b 11), .ref (b 12), .ref (b 13), .int (T1.1.2.2.2), .ref (b 14)])) := by rw [eh325]; exact (va_up_self _ _ _)
      have fq327 : h325 (b 4) = some (.inl (E.1 5, 10, .inr (.inl (vp_updL (T1.2.1) (Int32.toNatClampNeg 6) ((T1.1.1) + ((fo_tm 6).toInt64)))))) := by rw [eh325]; exact ((va_up_ne _ _ (hT.ne (i := 4) (j := 0) (by decide) (by decide) (by decide))).trans fq321)
      have fq328 : h325 (b 5) = some (.inl (E.1 6, 10, .inl (T1.2.2 5))) := by rw [eh325]; exact ((va_up_ne _ _ (hT.ne (i := 5) (j := 0) (by decide) (by decide) (by decide))).trans fq322)
      have fq329 : h325 (b 6) = some (.inl (E.1 0, 10, .inl (T1.2.2 6))) := by rw [eh325]; exact ((va_up_ne _ _ (hT.ne (i := 6) (j := 0) (by decide) (by decide) (by decide))).trans fq323)
      have fq330 : h325 (b 7) = some (.inl (E.1 0, 10, .inl (upd (T1.2.2 7) (Int32.toNatClampNeg 6) (T1.1.2.1)))) := by rw [eh325]; exact ((va_up_ne _ _ (hT.ne (i := 7) (j := 0) (by decide) (by decide) (by decide))).trans fq324)
      have s3 : fo_R E b (fo_po (fo_pa (fo_pJ T1 (vp_updL T1.2.1 6 (T1.1.1 + (fo_tm (nI 6)).toInt64))) 7 (upd (T1.2.2 7) 6 T1.1.2.1)) (T1.1.1, T1.1.2.1 + 1, T1.1.2.2)) h325 := by rw [eh325]; exact s2.po (T1.1.1, T1.1.2.1 + 1, T1.1.2.2)
      refine lv_aload_n hx hb dF_operate_91 rfl (lv_at hl 0 rfl) ?_
      refine va_get (D := D) (ci := 7) (v := .ref (b 5)) (C := "UnitRoomModel") (T := TF) (N := 18) hx hb hts inF hown hV (ur_one hI.1 fq326) 0 rfl rfl 5 (by decide) (hts _ mw582) (fun _ h9 => h9) rfl dF_operate_92 ?_
      refine lv_iload hx hb dF_operate_95 (lv_at hl 4 rfl) ?_
      refine lv_iload_n hx hb dF_operate_97 rfl (lv_at hl 1 rfl) ?_
      refine lv_iconst (v := 1) hx hb dF_operate_98 (by decide) ?_
      refine lv_icmp_ne (tgt := 106) hx hb dF_operate_99 (by decide) (fun c331 => absurd c331 (by decide)) (fun c331 => ?_)
      refine lv_iconst (v := 1) hx hb dF_operate_102 (by decide) ?_
      refine lv_goto (tgt := 107) hx hb dF_operate_103 (by decide) ?_
      refine ur_zast hx hb hV hI 6 fq328 rfl (vp_in_nI (by omega) (by decide)) dF_operate_107 (fun H locs hI => ?_)
      obtain ⟨h332, eh332⟩ : ∃ z : ur_M, z = va_up h325 (b 5) (some (.inl (E.1 6, 10, .inl (upd (T1.2.2 5) (Int32.toNatClampNeg 6) (vp_nar .boolean 1))))) := ⟨_, rfl⟩
      replace hI : ur_I D vwCl (ur_A h s.heap.size) s.heap h332 H locs := by rw [eh332]; exact hI
      have fq333 : h332 (b 0) = some (.inr (7, [.ref (b 1), .ref (b 2), .ref (b 3), .long (T1.1.1), .ref (b 4), .ref (b 5), .ref (b 6), .ref (b 7), .int ((T1.1.2.1) + 1), .ref (b 8), .int (T1.1.2.2.1), .ref (b 9), .ref (b 10), .ref (b 11), .ref (b 12), .ref (b 13), .int (T1.1.2.2.2), .ref (b 14)])) := by rw [eh332]; exact ((va_up_ne _ _ (hT.ne (i := 0) (j := 5) (by decide) (by decide) (by decide))).trans fq326)
      have fq334 : h332 (b 4) = some (.inl (E.1 5, 10, .inr (.inl (vp_updL (T1.2.1) (Int32.toNatClampNeg 6) ((T1.1.1) + ((fo_tm 6).toInt64)))))) := by rw [eh332]; exact ((va_up_ne _ _ (hT.ne (i := 4) (j := 5) (by decide) (by decide) (by decide))).trans fq327)
      have fq335 : h332 (b 5) = some (.inl (E.1 6, 10, .inl (upd (T1.2.2 5) (Int32.toNatClampNeg 6) (vp_nar .boolean 1)))) := by rw [eh332]; exact (va_up_self _ _ _)
      have fq336 : h332 (b 6) = some (.inl (E.1 0, 10, .inl (T1.2.2 6))) := by rw [eh332]; exact ((va_up_ne _ _ (hT.ne (i := 6) (j := 5) (by decide) (by decide) (by decide))).trans fq329)
      have fq337 : h332 (b 7) = some (.inl (E.1 0, 10, .inl (upd (T1.2.2 7) (Int32.toNatClampNeg 6) (T1.1.2.1)))) := by rw [eh332]; exact ((va_up_ne _ _ (hT.ne (i := 7) (j := 5) (by decide) (by decide) (by decide))).trans fq330)
      have s4 : fo_R E b (fo_pa (fo_po (fo_pa (fo_pJ T1 (vp_updL T1.2.1 6 (T1.1.1 + (fo_tm (nI 6)).toInt64))) 7 (upd (T1.2.2 7) 6 T1.1.2.1)) (T1.1.1, T1.1.2.1 + 1, T1.1.2.2)) 5 (upd (T1.2.2 5) 6 (if (1 : Int32) = 1 then 1 else 0))) h332 := by rw [eh332, (show Int32.toNatClampNeg 6 = 6 from rfl), fo_nar1, if_pos rfl]; exact s3.pa 5 _ (by decide) (by decide) (by decide)
      refine lv_aload_n hx hb dF_operate_108 rfl (lv_at hl 0 rfl) ?_
      refine va_get (D := D) (ci := 7) (v := .ref (b 6)) (C := "UnitRoomModel") (T := TF) (N := 18) hx hb hts inF hown hV (ur_one hI.1 fq333) 0 rfl rfl 6 (by decide) (hts _ mw583) (fun _ h9 => h9) rfl dF_operate_109 ?_
      refine lv_iload hx hb dF_operate_112 (lv_at hl 4 rfl) ?_
      refine lv_iload_n hx hb dF_operate_114 rfl (lv_at hl 2 rfl) ?_
      refine ur_iast hx hb hV hI 0 fq336 rfl (vp_in_nI (by omega) (by decide)) dF_operate_115 (fun H locs hI => ?_)
      obtain ⟨h338, eh338⟩ : ∃ z : ur_M, z = va_up h332 (b 6) (some (.inl (E.1 0, 10, .inl (upd (T1.2.2 6) (Int32.toNatClampNeg 6) mv)))) := ⟨_, rfl⟩
      replace hI : ur_I D vwCl (ur_A h s.heap.size) s.heap h338 H locs := by rw [eh338]; exact hI
      have fq339 : h338 (b 0) = some (.inr (7, [.ref (b 1), .ref (b 2), .ref (b 3), .long (T1.1.1), .ref (b 4), .ref (b 5), .ref (b 6), .ref (b 7), .int ((T1.1.2.1) + 1), .ref (b 8), .int (T1.1.2.2.1), .ref (b 9), .ref (b 10), .ref (b 11), .ref (b 12), .ref (b 13), .int (T1.1.2.2.2), .ref (b 14)])) := by rw [eh338]; exact ((va_up_ne _ _ (hT.ne (i := 0) (j := 6) (by decide) (by decide) (by decide))).trans fq333)
      have fq340 : h338 (b 4) = some (.inl (E.1 5, 10, .inr (.inl (vp_updL (T1.2.1) (Int32.toNatClampNeg 6) ((T1.1.1) + ((fo_tm 6).toInt64)))))) := by rw [eh338]; exact ((va_up_ne _ _ (hT.ne (i := 4) (j := 6) (by decide) (by decide) (by decide))).trans fq334)
      have fq341 : h338 (b 5) = some (.inl (E.1 6, 10, .inl (upd (T1.2.2 5) (Int32.toNatClampNeg 6) (vp_nar .boolean 1)))) := by rw [eh338]; exact ((va_up_ne _ _ (hT.ne (i := 5) (j := 6) (by decide) (by decide) (by decide))).trans fq335)
      have fq342 : h338 (b 6) = some (.inl (E.1 0, 10, .inl (upd (T1.2.2 6) (Int32.toNatClampNeg 6) mv))) := by rw [eh338]; exact (va_up_self _ _ _)
      have fq343 : h338 (b 7) = some (.inl (E.1 0, 10, .inl (upd (T1.2.2 7) (Int32.toNatClampNeg 6) (T1.1.2.1)))) := by rw [eh338]; exact ((va_up_ne _ _ (hT.ne (i := 7) (j := 6) (by decide) (by decide) (by decide))).trans fq337)
      obtain ⟨TB, hTB⟩ : ∃ z, z = fo_bg T1 6 1 mv := ⟨_, rfl⟩
      have hB : fo_R E b TB h338 := by rw [hTB, eh338, (show Int32.toNatClampNeg 6 = 6 from rfl)]; exact s4.pa 6 _ (by decide) (by decide) (by decide)
      have hB3 : TB.2.2 3 = T.2.2 3 := by rw [hTB, fo_bg_r _ _ _ _ 3 (by decide) (by decide) (by decide)]; exact hr9.2.2 3 (by decide) (by decide)
      have hB10 : TB.2.2 10 = T.2.2 10 := by rw [hTB, fo_bg_r _ _ _ _ 10 (by decide) (by decide) (by decide)]; exact hr9.2.2 10 (by decide) (by decide)
      have hBc : TB.1.2.2.1 = T.1.2.2.1 := by rw [hTB, fo_bg_1]; show T1.1.2.2.1 = _; rw [hr9.2.1]
      have hfin : fo_bg (fo_gg T 6) 6 1 mv = TB := by rw [hgg, hTB]
      have y0 : h338 (b 0) = some (.inr (7, [.ref (b 1), .ref (b 2), .ref (b 3), .long (TB.1.1), .ref (b 4), .ref (b 5), .ref (b 6), .ref (b 7), .int (TB.1.2.1), .ref (b 8), .int (TB.1.2.2.1), .ref (b 9), .ref (b 10), .ref (b 11), .ref (b 12), .ref (b 13), .int (TB.1.2.2.2), .ref (b 14)])) := hB.obj
      have y8 : h338 (b 8) = some (.inl (E.1 0, 1000, .inl (TB.2.2 8))) := hB.arr 8 (by decide) (by decide) (by decide)
      have y9 : h338 (b 9) = some (.inl (E.1 0, 8000, .inl (TB.2.2 9))) := hB.arr 9 (by decide) (by decide) (by decide)
      have y14 : h338 (b 14) = some (.inl (E.1 0, 56, .inl (TB.2.2 14))) := hB.arr 14 (by decide) (by decide) (by decide)
      rw [show TB.1.2.2.1 = nI cn from hBc.trans hcd] at y0
      refine lv_iload_n hx hb dF_operate_116 rfl (lv_at hl 1 rfl) ?_
      refine lv_if_ne (tgt := 130) hx hb dF_operate_117 (by decide) (fun c344 => ?_) (fun c344 => absurd c344 (by decide))
      refine lv_iload hx hb dF_operate_130 (lv_at hl 4 rfl) ?_
      refine lv_iconst (v := 4) hx hb dF_operate_132 (by decide) ?_
      refine lv_icmp_ge (tgt := 165) hx hb dF_operate_133 (by decide) (fun c345 => ?_) (fun c345 => absurd c345 (by decide))
      refine lv_iload hx hb dF_operate_165 (lv_at hl 4 rfl) ?_
      refine lv_bipush (v := 6) hx hb dF_operate_167 (by decide) ?_
      refine lv_icmp_ge (tgt := 185) hx hb dF_operate_169 (by decide) (fun c346 => ?_) (fun c346 => absurd c346 (by decide))
      refine lv_iload hx hb dF_operate_185 (lv_at hl 4 rfl) ?_
      refine lv_bipush (v := 6) hx hb dF_operate_187 (by decide) ?_
      refine lv_icmp_ne (tgt := 199) hx hb dF_operate_189 (by decide) (fun c347 => absurd c347 (by decide)) (fun c347 => ?_)
      refine lv_aload_n hx hb dF_operate_192 rfl (lv_at hl 0 rfl) ?_
      refine ur_xv (va_runV (As := []) (rest := []) ⟨hx, hb, hml, hown, hts⟩ (kF_read l D E h338 (b 0) (b 1) (b 2) (b 3) (b 4) (b 5) (b 6) (b 7) (b 8) (b 9) (b 10) (b 11) (b 12) (b 13) (b 14) (TB.1.1) (TB.1.2.1) (TB.1.2.2.2) cn (TB.2.2 8) (TB.2.2 9) (TB.2.2 14) y0 y8 y9 y14 hc0 hc1 H.size) (cwV 0 hts (ur_gV mw706 mw708 ms13 mw11 mw709) rfl rfl rfl (by decide +kernel) ⟨(Nat.le_of_ble_eq_true rfl), (Nat.le_of_ble_eq_true rfl)⟩) ⟨ur_blind, va_recv hV (ur_one hI.1 y0) (ci := 7) (q0 := 0) rfl rfl, ur_pre hI hO hK (fun _ _ q => q)⟩ rfl rfl hl.1 rfl (lv_room (Nat.le_of_ble_eq_true rfl)) dF_operate_193 ⟨Nat.le_of_ble_eq_true rfl, Nat.le_of_ble_eq_true rfl⟩) hI (fun h348 H locs p348 hI => ?_)
      have eh348 := p348
      have fq349 : h348 (b 0) = some (.inr (7, [.ref (b 1), .ref (b 2), .ref (b 3), .long (TB.1.1), .ref (b 4), .ref (b 5), .ref (b 6), .ref (b 7), .int (TB.1.2.1), .ref (b 8), .int (nI (cn - 1)), .ref (b 9), .ref (b 10), .ref (b 11), .ref (b 12), .ref (b 13), .int (TB.1.2.2.2), .ref (b 14)])) := by rw [eh348]; exact ((va_up_ne _ _ (hT.ne (i := 0) (j := 9) (by decide) (by decide) (by decide))).trans (va_up_self _ _ _))
      have fq350 : h348 (b 8) = some (.inl (E.1 0, 1000, .inl (fo_rb (TB.2.2 8) (TB.2.2 14) (TB.2.2 9) 16))) := by rw [eh348]; exact ((va_up_ne _ _ (hT.ne (i := 8) (j := 9) (by decide) (by decide) (by decide))).trans ((va_up_ne _ _ (hT.ne (i := 8) (j := 0) (by decide) (by decide) (by decide))).trans (va_up_self _ _ _)))
      have fq351 : h348 (b 9) = some (.inl (E.1 0, 8000, .inl (fo_sh (TB.2.2 9) (80 * (cn - 1))))) := by rw [eh348]; exact (va_up_self _ _ _)
      have fq352 : h348 (b 14) = some (.inl (E.1 0, 56, .inl (TB.2.2 14))) := by rw [eh348]; exact ((va_up_ne _ _ (hT.ne (i := 14) (j := 9) (by decide) (by decide) (by decide))).trans ((va_up_ne _ _ (hT.ne (i := 14) (j := 0) (by decide) (by decide) (by decide))).trans ((va_up_ne _ _ (hT.ne (i := 14) (j := 8) (by decide) (by decide) (by decide))).trans y14)))
      refine lv_goto (tgt := 206) hx hb dF_operate_196 (by decide) ?_
      refine lv_iconst (v := 0) hx hb dF_operate_206 (by decide) ?_
      exact ur_ri hx hb hr hlocks hI hQ ⟨rfl, (by show fo_R E b _ _; rw [hfin, eh348]; exact ((hB.pa 8 _ (by decide) (by decide) (by decide)).po (TB.1.1, TB.1.2.1, nI (cn - 1), TB.1.2.2.2)).pa 9 _ (by decide) (by decide) (by decide))⟩ dF_operate_207
    · have hl : lv_has ls 7 [(0, .ref (b 0)), (2, .int 2), (3, .int (nI mn)), (4, .int x), (5, .int (nI (7 + l0)))] := hl
      refine lv_aload_n hx hb dF_operate_52 rfl (lv_at hl 0 rfl) ?_
      refine va_get (D := D) (ci := 7) (v := .ref (b 4)) (C := "UnitRoomModel") (T := TF) (N := 18) hx hb hts inF hown hV (ur_one hI.1 k0) 0 rfl rfl 4 (by decide) (hts _ mw581) (fun _ h9 => h9) rfl dF_operate_53 ?_
      refine lv_iload hx hb dF_operate_56 (lv_at hl 4 rfl) ?_
      refine lv_aload_n hx hb dF_operate_58 rfl (lv_at hl 0 rfl) ?_
      refine va_get (D := D) (ci := 7) (v := .long (T1.1.1)) (C := "UnitRoomModel") (T := TF) (N := 18) hx hb hts inF hown hV (ur_one hI.1 k0) 0 rfl rfl 3 (by decide) (hts _ mw580) (fun _ h9 => h9) rfl dF_operate_59 ?_
      refine lv_iload hx hb dF_operate_62 (lv_at hl 4 rfl) ?_
      refine ur_xi (va_runS (As := [.int (nI (7 + l0))]) (rest := [.long (T1.1.1), .int (nI (7 + l0)), .ref (b 4)]) ⟨hx, hb, hml, hown, hts⟩ (kF_timeOf l D E h1 (nI (7 + l0)) H.size) (va_cwS 1 hts (ur_gT mw690 mw691 mw11 mw692) rfl rfl rfl (by decide +kernel) ⟨(Nat.le_of_ble_eq_true rfl), (Nat.le_of_ble_eq_true rfl)⟩) ⟨ur_blind, ur_pre hI hO hK (fun _ _ q => q)⟩ rfl rfl hl.1 rfl (lv_room (Nat.le_of_ble_eq_true rfl)) dF_operate_64 ⟨Nat.le_of_ble_eq_true rfl, Nat.le_of_ble_eq_true rfl⟩) hI (fun r353 h353 H locs p353 hI => ?_)
      obtain ⟨er353, eh353⟩ := p353
      replace eh353 := eh353.symm; subst eh353
      replace er353 := er353.symm; subst er353
      refine lv_i2l hx hb dF_operate_67 rfl ?_
      refine lv_ladd hx hb dF_operate_68 ?_
      refine ur_last hx hb hV hI 5 k4 rfl (vp_in_nI (by omega) (by decide)) dF_operate_69 (fun H locs hI => ?_)
      obtain ⟨h354, eh354⟩ : ∃ z : ur_M, z = va_up h1 (b 4) (some (.inl (E.1 5, 10, .inr (.inl (vp_updL (T1.2.1) (Int32.toNatClampNeg (nI (7 + l0))) ((T1.1.1) + ((fo_tm (nI (7 + l0))).toInt64))))))) := ⟨_, rfl⟩
      replace hI : ur_I D vwCl (ur_A h s.heap.size) s.heap h354 H locs := by rw [eh354]; exact hI
      have fq355 : h354 (b 0) = some (.inr (7, [.ref (b 1), .ref (b 2), .ref (b 3), .long (T1.1.1), .ref (b 4), .ref (b 5), .ref (b 6), .ref (b 7), .int (T1.1.2.1), .ref (b 8), .int (T1.1.2.2.1), .ref (b 9), .ref (b 10), .ref (b 11), .ref (b 12), .ref (b 13), .int (T1.1.2.2.2), .ref (b 14)])) := by rw [eh354]; exact ((va_up_ne _ _ (hT.ne (i := 0) (j := 4) (by decide) (by decide) (by decide))).trans k0)
      have fq356 : h354 (b 4) = some (.inl (E.1 5, 10, .inr (.inl (vp_updL (T1.2.1) (Int32.toNatClampNeg (nI (7 + l0))) ((T1.1.1) + ((fo_tm (nI (7 + l0))).toInt64)))))) := by rw [eh354]; exact (va_up_self _ _ _)
      have fq357 : h354 (b 5) = some (.inl (E.1 6, 10, .inl (T1.2.2 5))) := by rw [eh354]; exact ((va_up_ne _ _ (hT.ne (i := 5) (j := 4) (by decide) (by decide) (by decide))).trans k5)
      have fq358 : h354 (b 6) = some (.inl (E.1 0, 10, .inl (T1.2.2 6))) := by rw [eh354]; exact ((va_up_ne _ _ (hT.ne (i := 6) (j := 4) (by decide) (by decide) (by decide))).trans k6)
      have fq359 : h354 (b 7) = some (.inl (E.1 0, 10, .inl (T1.2.2 7))) := by rw [eh354]; exact ((va_up_ne _ _ (hT.ne (i := 7) (j := 4) (by decide) (by decide) (by decide))).trans k7)
      have s1 : fo_R E b (fo_pJ T1 (vp_updL T1.2.1 (7 + l0) (T1.1.1 + (fo_tm (nI (7 + l0))).toInt64))) h354 := by rw [eh354, (show Int32.toNatClampNeg (nI (7 + l0)) = (7 + l0) from nI_clamp (by omega))]; exact hT1.pJ _
      refine lv_aload_n hx hb dF_operate_70 rfl (lv_at hl 0 rfl) ?_
      refine va_get (D := D) (ci := 7) (v := .ref (b 7)) (C := "UnitRoomModel") (T := TF) (N := 18) hx hb hts inF hown hV (ur_one hI.1 fq355) 0 rfl rfl 7 (by decide) (hts _ mw584) (fun _ h9 => h9) rfl dF_operate_71 ?_
      refine lv_iload hx hb dF_operate_74 (lv_at hl 4 rfl) ?_
      refine lv_aload_n hx hb dF_operate_76 rfl (lv_at hl 0 rfl) ?_
      refine va_get (D := D) (ci := 7) (v := .int (T1.1.2.1)) (C := "UnitRoomModel") (T := TF) (N := 18) hx hb hts inF hown hV (ur_one hI.1 fq355) 0 rfl rfl 8 (by decide) (hts _ mw585) (fun _ h9 => h9) rfl dF_operate_77 ?_
      refine ur_iast hx hb hV hI 0 fq359 rfl (vp_in_nI (by omega) (by decide)) dF_operate_80 (fun H locs hI => ?_)
      obtain ⟨h360, eh360⟩ : ∃ z : ur_M, z = va_up h354 (b 7) (some (.inl (E.1 0, 10, .inl (upd (T1.2.2 7) (Int32.toNatClampNeg (nI (7 + l0))) (T1.1.2.1))))) := ⟨_, rfl⟩
      replace hI : ur_I D vwCl (ur_A h s.heap.size) s.heap h360 H locs := by rw [eh360]; exact hI
      have fq361 : h360 (b 0) = some (.inr (7, [.ref (b 1), .ref (b 2), .ref (b 3), .long (T1.1.1), .ref (b 4), .ref (b 5), .ref (b 6), .ref (b 7), .int (T1.1.2.1), .ref (b 8), .int (T1.1.2.2.1), .ref (b 9), .ref (b 10), .ref (b 11), .ref (b 12), .ref (b 13), .int (T1.1.2.2.2), .ref (b 14)])) := by rw [eh360]; exact ((va_up_ne _ _ (hT.ne (i := 0) (j := 7) (by decide) (by decide) (by decide))).trans fq355)
      have fq362 : h360 (b 4) = some (.inl (E.1 5, 10, .inr (.inl (vp_updL (T1.2.1) (Int32.toNatClampNeg (nI (7 + l0))) ((T1.1.1) + ((fo_tm (nI (7 + l0))).toInt64)))))) := by rw [eh360]; exact ((va_up_ne _ _ (hT.ne (i := 4) (j := 7) (by decide) (by decide) (by decide))).trans fq356)
      have fq363 : h360 (b 5) = some (.inl (E.1 6, 10, .inl (T1.2.2 5))) := by rw [eh360]; exact ((va_up_ne _ _ (hT.ne (i := 5) (j := 7) (by decide) (by decide) (by decide))).trans fq357)
      have fq364 : h360 (b 6) = some (.inl (E.1 0, 10, .inl (T1.2.2 6))) := by rw [eh360]; exact ((va_up_ne _ _ (hT.ne (i := 6) (j := 7) (by decide) (by decide) (by decide))).trans fq358)
      have fq365 : h360 (b 7) = some (.inl (E.1 0, 10, .inl (upd (T1.2.2 7) (Int32.toNatClampNeg (nI (7 + l0))) (T1.1.2.1)))) := by rw [eh360]; exact (va_up_self _ _ _)
      have s2 : fo_R E b (fo_pa (fo_pJ T1 (vp_updL T1.2.1 (7 + l0) (T1.1.1 + (fo_tm (nI (7 + l0))).toInt64))) 7 (upd (T1.2.2 7) (7 + l0) T1.1.2.1)) h360 := by rw [eh360, (show Int32.toNatClampNeg (nI (7 + l0)) = (7 + l0) from nI_clamp (by omega))]; exact s1.pa 7 _ (by decide) (by decide) (by decide)
      refine lv_aload_n hx hb dF_operate_81 rfl (lv_at hl 0 rfl) ?_
      refine lv_dup hx hb dF_operate_82 rfl ?_
      refine va_get (D := D) (ci := 7) (v := .int (T1.1.2.1)) (C := "UnitRoomModel") (T := TF) (N := 18) hx hb hts inF hown hV (ur_one hI.1 fq361) 0 rfl rfl 8 (by decide) (hts _ mw585) (fun _ h9 => h9) rfl dF_operate_83 ?_
      refine lv_iconst (v := 1) hx hb dF_operate_86 (by decide) ?_
      refine lv_iadd hx hb dF_operate_87 ?_
      refine ur_put (D := D) (ci := 7) (v := .int ((T1.1.2.1) + 1)) (ty := .int) (C := "UnitRoomModel") (T := TF) (N := 18) hx hb hts inF tyF tyF_ok nmF hown hV hI fq361 rfl 8 (by decide) (hts _ mw585) (fun _ h9 => h9) rfl (by decide +kernel) rfl rfl (Nat.le_of_ble_eq_true rfl) dF_operate_88 (fun H locs hI => ?_)
      obtain ⟨h366, eh366⟩ : ∃ z : ur_M, z = va_up h360 (b 0) (some (.inr (7, [.ref (b 1), .ref (b 2), .ref (b 3), .long (T1.1.1), .ref (b 4), .ref (b 5), .ref (b 6), .ref (b 7), .int ((T1.1.2.1) + 1), .ref (b 8), .int (T1.1.2.2.1), .ref (b 9), .ref (b 10), .ref (b 11), .ref (b 12), .ref (b 13), .int (T1.1.2.2.2), .ref (b 14)]))) := ⟨_, rfl⟩
      replace hI : ur_I D vwCl (ur_A h s.heap.size) s.heap h366 H locs := by rw [eh366]; exact hI
      have fq367 : h366 (b 0) = some (.inr (7, [.ref (b 1), .ref (b 2), .ref (b 3), .long (T1.1.1), .ref (b 4), .ref (b 5), .ref (b 6), .ref (b 7), .int ((T1.1.2.1) + 1), .ref (b 8), .int (T1.1.2.2.1), .ref (b 9), .ref (b 10), .ref (b 11), .ref (b 12), .ref (b 13), .int (T1.1.2.2.2), .ref (b 14)])) := by rw [eh366]; exact (va_up_self _ _ _)
      have fq368 : h366 (b 4) = some (.inl (E.1 5, 10, .inr (.inl (vp_updL (T1.2.1) (Int32.toNatClampNeg (nI (7 + l0))) ((T1.1.1) + ((fo_tm (nI (7 + l0))).toInt64)))))) := by rw [eh366]; exact ((va_up_ne _ _ (hT.ne (i := 4) (j := 0) (by decide) (by decide) (by decide))).trans fq362)
      have fq369 : h366 (b 5) = some (.inl (E.1 6, 10, .inl (T1.2.2 5))) := by rw [eh366]; exact ((va_up_ne _ _ (hT.ne (i := 5) (j := 0) (by decide) (by decide) (by decide))).trans fq363)
      have fq370 : h366 (b 6) = some (.inl (E.1 0, 10, .inl (T1.2.2 6))) := by rw [eh366]; exact ((va_up_ne _ _ (hT.ne (i := 6) (j := 0) (by decide) (by decide) (by decide))).trans fq364)
      have fq371 : h366 (b 7) = some (.inl (E.1 0, 10, .inl (upd (T1.2.2 7) (Int32.toNatClampNeg (nI (7 + l0))) (T1.1.2.1)))) := by rw [eh366]; exact ((va_up_ne _ _ (hT.ne (i := 7) (j := 0) (by decide) (by decide) (by decide))).trans fq365)
      have s3 : fo_R E b (fo_po (fo_pa (fo_pJ T1 (vp_updL T1.2.1 (7 + l0) (T1.1.1 + (fo_tm (nI (7 + l0))).toInt64))) 7 (upd (T1.2.2 7) (7 + l0) T1.1.2.1)) (T1.1.1, T1.1.2.1 + 1, T1.1.2.2)) h366 := by rw [eh366]; exact s2.po (T1.1.1, T1.1.2.1 + 1, T1.1.2.2)
      refine lv_aload_n hx hb dF_operate_91 rfl (lv_at hl 0 rfl) ?_
      refine va_get (D := D) (ci := 7) (v := .ref (b 5)) (C := "UnitRoomModel") (T := TF) (N := 18) hx hb hts inF hown hV (ur_one hI.1 fq367) 0 rfl rfl 5 (by decide) (hts _ mw582) (fun _ h9 => h9) rfl dF_operate_92 ?_
      refine lv_iload hx hb dF_operate_95 (lv_at hl 4 rfl) ?_
      refine lv_iload_n hx hb dF_operate_97 rfl (lv_at hl 1 rfl) ?_
      refine lv_iconst (v := 1) hx hb dF_operate_98 (by decide) ?_
      refine lv_icmp_ne (tgt := 106) hx hb dF_operate_99 (by decide) (fun c372 => ?_) (fun c372 => absurd c372 (by decide))
      refine lv_iconst (v := 0) hx hb dF_operate_106 (by decide) ?_
      refine ur_zast hx hb hV hI 6 fq369 rfl (vp_in_nI (by omega) (by decide)) dF_operate_107 (fun H locs hI => ?_)
      obtain ⟨h373, eh373⟩ : ∃ z : ur_M, z = va_up h366 (b 5) (some (.inl (E.1 6, 10, .inl (upd (T1.2.2 5) (Int32.toNatClampNeg (nI (7 + l0))) (vp_nar .boolean 0))))) := ⟨_, rfl⟩
      replace hI : ur_I D vwCl (ur_A h s.heap.size) s.heap h373 H locs := by rw [eh373]; exact hI
      have fq374 : h373 (b 0) = some (.inr (7, [.ref (b 1), .ref (b 2), .ref (b 3), .long (T1.1.1), .ref (b 4), .ref (b 5), .ref (b 6), .ref (b 7), .int ((T1.1.2.1) + 1), .ref (b 8), .int (T1.1.2.2.1), .ref (b 9), .ref (b 10), .ref (b 11), .ref (b 12), .ref (b 13), .int (T1.1.2.2.2), .ref (b 14)])) := by rw [eh373]; exact ((va_up_ne _ _ (hT.ne (i := 0) (j := 5) (by decide) (by decide) (by decide))).trans fq367)
      have fq375 : h373 (b 4) = some (.inl (E.1 5, 10, .inr (.inl (vp_updL (T1.2.1) (Int32.toNatClampNeg (nI (7 + l0))) ((T1.1.1) + ((fo_tm (nI (7 + l0))).toInt64)))))) := by rw [eh373]; exact ((va_up_ne _ _ (hT.ne (i := 4) (j := 5) (by decide) (by decide) (by decide))).trans fq368)
      have fq376 : h373 (b 5) = some (.inl (E.1 6, 10, .inl (upd (T1.2.2 5) (Int32.toNatClampNeg (nI (7 + l0))) (vp_nar .boolean 0)))) := by rw [eh373]; exact (va_up_self _ _ _)
      have fq377 : h373 (b 6) = some (.inl (E.1 0, 10, .inl (T1.2.2 6))) := by rw [eh373]; exact ((va_up_ne _ _ (hT.ne (i := 6) (j := 5) (by decide) (by decide) (by decide))).trans fq370)
      have fq378 : h373 (b 7) = some (.inl (E.1 0, 10, .inl (upd (T1.2.2 7) (Int32.toNatClampNeg (nI (7 + l0))) (T1.1.2.1)))) := by rw [eh373]; exact ((va_up_ne _ _ (hT.ne (i := 7) (j := 5) (by decide) (by decide) (by decide))).trans fq371)
      have s4 : fo_R E b (fo_pa (fo_po (fo_pa (fo_pJ T1 (vp_updL T1.2.1 (7 + l0) (T1.1.1 + (fo_tm (nI (7 + l0))).toInt64))) 7 (upd (T1.2.2 7) (7 + l0) T1.1.2.1)) (T1.1.1, T1.1.2.1 + 1, T1.1.2.2)) 5 (upd (T1.2.2 5) (7 + l0) (if (2 : Int32) = 1 then 1 else 0))) h373 := by rw [eh373, (show Int32.toNatClampNeg (nI (7 + l0)) = (7 + l0) from nI_clamp (by omega)), fo_nar0, if_neg (by decide)]; exact s3.pa 5 _ (by decide) (by decide) (by decide)
      refine lv_aload_n hx hb dF_operate_108 rfl (lv_at hl 0 rfl) ?_
      refine va_get (D := D) (ci := 7) (v := .ref (b 6)) (C := "UnitRoomModel") (T := TF) (N := 18) hx hb hts inF hown hV (ur_one hI.1 fq374) 0 rfl rfl 6 (by decide) (hts _ mw583) (fun _ h9 => h9) rfl dF_operate_109 ?_
      refine lv_iload hx hb dF_operate_112 (lv_at hl 4 rfl) ?_
      refine lv_iload_n hx hb dF_operate_114 rfl (lv_at hl 2 rfl) ?_
      refine ur_iast hx hb hV hI 0 fq377 rfl (vp_in_nI (by omega) (by decide)) dF_operate_115 (fun H locs hI => ?_)
      obtain ⟨h379, eh379⟩ : ∃ z : ur_M, z = va_up h373 (b 6) (some (.inl (E.1 0, 10, .inl (upd (T1.2.2 6) (Int32.toNatClampNeg (nI (7 + l0))) (nI mn))))) := ⟨_, rfl⟩
      replace hI : ur_I D vwCl (ur_A h s.heap.size) s.heap h379 H locs := by rw [eh379]; exact hI
      have fq380 : h379 (b 0) = some (.inr (7, [.ref (b 1), .ref (b 2), .ref (b 3), .long (T1.1.1), .ref (b 4), .ref (b 5), .ref (b 6), .ref (b 7), .int ((T1.1.2.1) + 1), .ref (b 8), .int (T1.1.2.2.1), .ref (b 9), .ref (b 10), .ref (b 11), .ref (b 12), .ref (b 13), .int (T1.1.2.2.2), .ref (b 14)])) := by rw [eh379]; exact ((va_up_ne _ _ (hT.ne (i := 0) (j := 6) (by decide) (by decide) (by decide))).trans fq374)
      have fq381 : h379 (b 4) = some (.inl (E.1 5, 10, .inr (.inl (vp_updL (T1.2.1) (Int32.toNatClampNeg (nI (7 + l0))) ((T1.1.1) + ((fo_tm (nI (7 + l0))).toInt64)))))) := by rw [eh379]; exact ((va_up_ne _ _ (hT.ne (i := 4) (j := 6) (by decide) (by decide) (by decide))).trans fq375)
      have fq382 : h379 (b 5) = some (.inl (E.1 6, 10, .inl (upd (T1.2.2 5) (Int32.toNatClampNeg (nI (7 + l0))) (vp_nar .boolean 0)))) := by rw [eh379]; exact ((va_up_ne _ _ (hT.ne (i := 5) (j := 6) (by decide) (by decide) (by decide))).trans fq376)
      have fq383 : h379 (b 6) = some (.inl (E.1 0, 10, .inl (upd (T1.2.2 6) (Int32.toNatClampNeg (nI (7 + l0))) (nI mn)))) := by rw [eh379]; exact (va_up_self _ _ _)
      have fq384 : h379 (b 7) = some (.inl (E.1 0, 10, .inl (upd (T1.2.2 7) (Int32.toNatClampNeg (nI (7 + l0))) (T1.1.2.1)))) := by rw [eh379]; exact ((va_up_ne _ _ (hT.ne (i := 7) (j := 6) (by decide) (by decide) (by decide))).trans fq378)
      obtain ⟨TB, hTB⟩ : ∃ z, z = fo_bg T1 (7 + l0) 2 (nI mn) := ⟨_, rfl⟩
      have hB : fo_R E b TB h379 := by rw [hTB, eh379, (show Int32.toNatClampNeg (nI (7 + l0)) = (7 + l0) from nI_clamp (by omega))]; exact s4.pa 6 _ (by decide) (by decide) (by decide)
      have hB3 : TB.2.2 3 = T.2.2 3 := by rw [hTB, fo_bg_r _ _ _ _ 3 (by decide) (by decide) (by decide)]; exact hr9.2.2 3 (by decide) (by decide)
      have hB10 : TB.2.2 10 = T.2.2 10 := by rw [hTB, fo_bg_r _ _ _ _ 10 (by decide) (by decide) (by decide)]; exact hr9.2.2 10 (by decide) (by decide)
      have hBc : TB.1.2.2.1 = T.1.2.2.1 := by rw [hTB, fo_bg_1]; show T1.1.2.2.1 = _; rw [hr9.2.1]
      have hfin : fo_bg (fo_gg T (7 + l0)) (7 + l0) 2 (nI mn) = TB := by rw [hgg, hTB]
      have y0 : h379 (b 0) = some (.inr (7, [.ref (b 1), .ref (b 2), .ref (b 3), .long (TB.1.1), .ref (b 4), .ref (b 5), .ref (b 6), .ref (b 7), .int (TB.1.2.1), .ref (b 8), .int (TB.1.2.2.1), .ref (b 9), .ref (b 10), .ref (b 11), .ref (b 12), .ref (b 13), .int (TB.1.2.2.2), .ref (b 14)])) := hB.obj
      have y1 : h379 (b 1) = some (.inl (E.1 0, 4000, .inl (TB.2.2 1))) := hB.arr 1 (by decide) (by decide) (by decide)
      have y14 : h379 (b 14) = some (.inl (E.1 0, 56, .inl (TB.2.2 14))) := hB.arr 14 (by decide) (by decide) (by decide)
      have y10 : h379 (b 10) = some (.inl (E.1 0, 3, .inl (TB.2.2 10))) := hB.arr 10 (by decide) (by decide) (by decide)
      have y11 : h379 (b 11) = some (.inl (E.1 0, 900, .inl (TB.2.2 11))) := hB.arr 11 (by decide) (by decide) (by decide)
      have y12 : h379 (b 12) = some (.inl (E.1 1, 108000, .inl (TB.2.2 12))) := hB.arr 12 (by decide) (by decide) (by decide)
      refine lv_iload_n hx hb dF_operate_116 rfl (lv_at hl 1 rfl) ?_
      refine lv_if_ne (tgt := 130) hx hb dF_operate_117 (by decide) (fun c385 => ?_) (fun c385 => absurd c385 (by decide))
      refine lv_iload hx hb dF_operate_130 (lv_at hl 4 rfl) ?_
      refine lv_iconst (v := 4) hx hb dF_operate_132 (by decide) ?_
      refine lv_icmp_ge (tgt := 165) hx hb dF_operate_133 (by decide) (fun c386 => ?_) (fun c386 => absurd c386 (not_not_intro (nI_le (a := 4) (by omega) (by omega))))
      refine lv_iload hx hb dF_operate_165 (lv_at hl 4 rfl) ?_
      refine lv_bipush (v := 6) hx hb dF_operate_167 (by decide) ?_
      refine lv_icmp_ge (tgt := 185) hx hb dF_operate_169 (by decide) (fun c387 => ?_) (fun c387 => absurd c387 (not_not_intro (nI_le (a := 6) (by omega) (by omega))))
      refine lv_iload hx hb dF_operate_185 (lv_at hl 4 rfl) ?_
      refine lv_bipush (v := 6) hx hb dF_operate_187 (by decide) ?_
      refine lv_icmp_ne (tgt := 199) hx hb dF_operate_189 (by decide) (fun c388 => ?_) (fun c388 => absurd c388 (fun z9 => absurd ((nI_eq (b := 6) (by omega) (by decide)).mp z9) (by omega)))
      refine lv_aload_n hx hb dF_operate_199 rfl (lv_at hl 0 rfl) ?_
      refine lv_iload hx hb dF_operate_200 (lv_at hl 4 rfl) ?_
      refine lv_iload_n hx hb dF_operate_202 rfl (lv_at hl 2 rfl) ?_
      refine ur_xv (va_runV (As := [.int (nI (7 + l0)), .int (nI mn)]) (rest := []) ⟨hx, hb, hml, hown, hts⟩ (kF_wl l D E h379 (b 0) (b 1) (b 2) (b 3) (b 4) (b 5) (b 6) (b 7) (b 8) (b 9) (b 10) (b 11) (b 12) (b 13) (b 14) (TB.1.1) (TB.1.2.1) (TB.1.2.2.1) (TB.1.2.2.2) l0 kn mn (TB.2.2 1) (TB.2.2 14) (TB.2.2 10) (TB.2.2 11) (TB.2.2 12) y0 y1 y14 y10 y11 y12 hl0 (by rw [hB10]; exact hli) hmn hkn H.size) (cwV 2 hts (ur_gV mw714 mw716 ms15 mw11 mw717) rfl rfl rfl (by decide +kernel) ⟨(Nat.le_of_ble_eq_true rfl), (Nat.le_of_ble_eq_true rfl)⟩) ⟨ur_blind, va_recv hV (ur_one hI.1 y0) (ci := 7) (q0 := 0) rfl rfl, ur_pre hI hO hK (fun _ _ q => q)⟩ rfl rfl hl.1 rfl (lv_room (Nat.le_of_ble_eq_true rfl)) dF_operate_203 ⟨Nat.le_of_ble_eq_true rfl, Nat.le_of_ble_eq_true rfl⟩) hI (fun h389 H locs p389 hI => ?_)
      have eh389 := p389
      have fq390 : h389 (b 0) = some (.inr (7, [.ref (b 1), .ref (b 2), .ref (b 3), .long (TB.1.1), .ref (b 4), .ref (b 5), .ref (b 6), .ref (b 7), .int (TB.1.2.1), .ref (b 8), .int (TB.1.2.2.1), .ref (b 9), .ref (b 10), .ref (b 11), .ref (b 12), .ref (b 13), .int (TB.1.2.2.2), .ref (b 14)])) := by rw [eh389]; exact ((va_up_ne _ _ (hT.ne (i := 0) (j := 11) (by decide) (by decide) (by decide))).trans ((va_up_ne _ _ (hT.ne (i := 0) (j := 12) (by decide) (by decide) (by decide))).trans ((va_up_ne _ _ (hT.ne (i := 0) (j := 10) (by decide) (by decide) (by decide))).trans y0)))
      have fq391 : h389 (b 1) = some (.inl (E.1 0, 4000, .inl (TB.2.2 1))) := by rw [eh389]; exact ((va_up_ne _ _ (hT.ne (i := 1) (j := 11) (by decide) (by decide) (by decide))).trans ((va_up_ne _ _ (hT.ne (i := 1) (j := 12) (by decide) (by decide) (by decide))).trans ((va_up_ne _ _ (hT.ne (i := 1) (j := 10) (by decide) (by decide) (by decide))).trans y1)))
      have fq392 : h389 (b 14) = some (.inl (E.1 0, 56, .inl (TB.2.2 14))) := by rw [eh389]; exact ((va_up_ne _ _ (hT.ne (i := 14) (j := 11) (by decide) (by decide) (by decide))).trans ((va_up_ne _ _ (hT.ne (i := 14) (j := 12) (by decide) (by decide) (by decide))).trans ((va_up_ne _ _ (hT.ne (i := 14) (j := 10) (by decide) (by decide) (by decide))).trans y14)))
      have fq393 : h389 (b 10) = some (.inl (E.1 0, 3, .inl (upd (TB.2.2 10) l0 (nI (kn + 1))))) := by rw [eh389]; exact ((va_up_ne _ _ (hT.ne (i := 10) (j := 11) (by decide) (by decide) (by decide))).trans ((va_up_ne _ _ (hT.ne (i := 10) (j := 12) (by decide) (by decide) (by decide))).trans (va_up_self _ _ _)))
      have fq394 : h389 (b 11) = some (.inl (E.1 0, 900, .inl (upd (TB.2.2 11) (300 * l0 + kn) (fo_wn (TB.2.2 14) (TB.2.2 1) mn (5 * fo_W l0))))) := by rw [eh389]; exact (va_up_self _ _ _)
      have fq395 : h389 (b 12) = some (.inl (E.1 1, 108000, .inl (fo_wl (TB.2.2 12) (TB.2.2 14) (TB.2.2 1) mn (300 * l0 + kn) (5 * fo_W l0)))) := by rw [eh389]; exact ((va_up_ne _ _ (hT.ne (i := 12) (j := 11) (by decide) (by decide) (by decide))).trans (va_up_self _ _ _))
      refine lv_iconst (v := 0) hx hb dF_operate_206 (by decide) ?_
      exact ur_ri hx hb hr hlocks hI hQ ⟨rfl, (by show fo_R E b _ _; rw [hfin, eh389]; exact ((hB.pa 10 _ (by decide) (by decide) (by decide)).pa 12 _ (by decide) (by decide) (by decide)).pa 11 _ (by decide) (by decide) (by decide))⟩ dF_operate_207
    · have hl : lv_has ls 7 [(0, .ref (b 0)), (2, .int 2), (3, .int (nI mn)), (4, .int x), (5, .int (nI (7 + l0)))] := hl
      refine lv_aload_n hx hb dF_operate_52 rfl (lv_at hl 0 rfl) ?_
      refine va_get (D := D) (ci := 7) (v := .ref (b 4)) (C := "UnitRoomModel") (T := TF) (N := 18) hx hb hts inF hown hV (ur_one hI.1 k0) 0 rfl rfl 4 (by decide) (hts _ mw581) (fun _ h9 => h9) rfl dF_operate_53 ?_
      refine lv_iload hx hb dF_operate_56 (lv_at hl 4 rfl) ?_
      refine lv_aload_n hx hb dF_operate_58 rfl (lv_at hl 0 rfl) ?_
      refine va_get (D := D) (ci := 7) (v := .long (T1.1.1)) (C := "UnitRoomModel") (T := TF) (N := 18) hx hb hts inF hown hV (ur_one hI.1 k0) 0 rfl rfl 3 (by decide) (hts _ mw580) (fun _ h9 => h9) rfl dF_operate_59 ?_
      refine lv_iload hx hb dF_operate_62 (lv_at hl 4 rfl) ?_
      refine ur_xi (va_runS (As := [.int (nI (7 + l0))]) (rest := [.long (T1.1.1), .int (nI (7 + l0)), .ref (b 4)]) ⟨hx, hb, hml, hown, hts⟩ (kF_timeOf l D E h1 (nI (7 + l0)) H.size) (va_cwS 1 hts (ur_gT mw690 mw691 mw11 mw692) rfl rfl rfl (by decide +kernel) ⟨(Nat.le_of_ble_eq_true rfl), (Nat.le_of_ble_eq_true rfl)⟩) ⟨ur_blind, ur_pre hI hO hK (fun _ _ q => q)⟩ rfl rfl hl.1 rfl (lv_room (Nat.le_of_ble_eq_true rfl)) dF_operate_64 ⟨Nat.le_of_ble_eq_true rfl, Nat.le_of_ble_eq_true rfl⟩) hI (fun r396 h396 H locs p396 hI => ?_)
      obtain ⟨er396, eh396⟩ := p396
      replace eh396 := eh396.symm; subst eh396
      replace er396 := er396.symm; subst er396
      refine lv_i2l hx hb dF_operate_67 rfl ?_
      refine lv_ladd hx hb dF_operate_68 ?_
      refine ur_last hx hb hV hI 5 k4 rfl (vp_in_nI (by omega) (by decide)) dF_operate_69 (fun H locs hI => ?_)
      obtain ⟨h397, eh397⟩ : ∃ z : ur_M, z = va_up h1 (b 4) (some (.inl (E.1 5, 10, .inr (.inl (vp_updL (T1.2.1) (Int32.toNatClampNeg (nI (7 + l0))) ((T1.1.1) + ((fo_tm (nI (7 + l0))).toInt64))))))) := ⟨_, rfl⟩
      replace hI : ur_I D vwCl (ur_A h s.heap.size) s.heap h397 H locs := by rw [eh397]; exact hI
      have fq398 : h397 (b 0) = some (.inr (7, [.ref (b 1), .ref (b 2), .ref (b 3), .long (T1.1.1), .ref (b 4), .ref (b 5), .ref (b 6), .ref (b 7), .int (T1.1.2.1), .ref (b 8), .int (T1.1.2.2.1), .ref (b 9), .ref (b 10), .ref (b 11), .ref (b 12), .ref (b 13), .int (T1.1.2.2.2), .ref (b 14)])) := by rw [eh397]; exact ((va_up_ne _ _ (hT.ne (i := 0) (j := 4) (by decide) (by decide) (by decide))).trans k0)
      have fq399 : h397 (b 4) = some (.inl (E.1 5, 10, .inr (.inl (vp_updL (T1.2.1) (Int32.toNatClampNeg (nI (7 + l0))) ((T1.1.1) + ((fo_tm (nI (7 + l0))).toInt64)))))) := by rw [eh397]; exact (va_up_self _ _ _)
      have fq400 : h397 (b 5) = some (.inl (E.1 6, 10, .inl (T1.2.2 5))) := by rw [eh397]; exact ((va_up_ne _ _ (hT.ne (i := 5) (j := 4) (by decide) (by decide) (by decide))).trans k5)
      have fq401 : h397 (b 6) = some (.inl (E.1 0, 10, .inl (T1.2.2 6))) := by rw [eh397]; exact ((va_up_ne _ _ (hT.ne (i := 6) (j := 4) (by decide) (by decide) (by decide))).trans k6)
      have fq402 : h397 (b 7) = some (.inl (E.1 0, 10, .inl (T1.2.2 7))) := by rw [eh397]; exact ((va_up_ne _ _ (hT.ne (i := 7) (j := 4) (by decide) (by decide) (by decide))).trans k7)
      have s1 : fo_R E b (fo_pJ T1 (vp_updL T1.2.1 (7 + l0) (T1.1.1 + (fo_tm (nI (7 + l0))).toInt64))) h397 := by rw [eh397, (show Int32.toNatClampNeg (nI (7 + l0)) = (7 + l0) from nI_clamp (by omega))]; exact hT1.pJ _
      refine lv_aload_n hx hb dF_operate_70 rfl (lv_at hl 0 rfl) ?_
      refine va_get (D := D) (ci := 7) (v := .ref (b 7)) (C := "UnitRoomModel") (T := TF) (N := 18) hx hb hts inF hown hV (ur_one hI.1 fq398) 0 rfl rfl 7 (by decide) (hts _ mw584) (fun _ h9 => h9) rfl dF_operate_71 ?_
      refine lv_iload hx hb dF_operate_74 (lv_at hl 4 rfl) ?_
      refine lv_aload_n hx hb dF_operate_76 rfl (lv_at hl 0 rfl) ?_
      refine va_get (D := D) (ci := 7) (v := .int (T1.1.2.1)) (C := "UnitRoomModel") (T := TF) (N := 18) hx hb hts inF hown hV (ur_one hI.1 fq398) 0 rfl rfl 8 (by decide) (hts _ mw585) (fun _ h9 => h9) rfl dF_operate_77 ?_
      refine ur_iast hx hb hV hI 0 fq402 rfl (vp_in_nI (by omega) (by decide)) dF_operate_80 (fun H locs hI => ?_)
      obtain ⟨h403, eh403⟩ : ∃ z : ur_M, z = va_up h397 (b 7) (some (.inl (E.1 0, 10, .inl (upd (T1.2.2 7) (Int32.toNatClampNeg (nI (7 + l0))) (T1.1.2.1))))) := ⟨_, rfl⟩
      replace hI : ur_I D vwCl (ur_A h s.heap.size) s.heap h403 H locs := by rw [eh403]; exact hI
      have fq404 : h403 (b 0) = some (.inr (7, [.ref (b 1), .ref (b 2), .ref (b 3), .long (T1.1.1), .ref (b 4), .ref (b 5), .ref (b 6), .ref (b 7), .int (T1.1.2.1), .ref (b 8), .int (T1.1.2.2.1), .ref (b 9), .ref (b 10), .ref (b 11), .ref (b 12), .ref (b 13), .int (T1.1.2.2.2), .ref (b 14)])) := by rw [eh403]; exact ((va_up_ne _ _ (hT.ne (i := 0) (j := 7) (by decide) (by decide) (by decide))).trans fq398)
      have fq405 : h403 (b 4) = some (.inl (E.1 5, 10, .inr (.inl (vp_updL (T1.2.1) (Int32.toNatClampNeg (nI (7 + l0))) ((T1.1.1) + ((fo_tm (nI (7 + l0))).toInt64)))))) := by rw [eh403]; exact ((va_up_ne _ _ (hT.ne (i := 4) (j := 7) (by decide) (by decide) (by decide))).trans fq399)
      have fq406 : h403 (b 5) = some (.inl (E.1 6, 10, .inl (T1.2.2 5))) := by rw [eh403]; exact ((va_up_ne _ _ (hT.ne (i := 5) (j := 7) (by decide) (by decide) (by decide))).trans fq400)
      have fq407 : h403 (b 6) = some (.inl (E.1 0, 10, .inl (T1.2.2 6))) := by rw [eh403]; exact ((va_up_ne _ _ (hT.ne (i := 6) (j := 7) (by decide) (by decide) (by decide))).trans fq401)
      have fq408 : h403 (b 7) = some (.inl (E.1 0, 10, .inl (upd (T1.2.2 7) (Int32.toNatClampNeg (nI (7 + l0))) (T1.1.2.1)))) := by rw [eh403]; exact (va_up_self _ _ _)
      have s2 : fo_R E b (fo_pa (fo_pJ T1 (vp_updL T1.2.1 (7 + l0) (T1.1.1 + (fo_tm (nI (7 + l0))).toInt64))) 7 (upd (T1.2.2 7) (7 + l0) T1.1.2.1)) h403 := by rw [eh403, (show Int32.toNatClampNeg (nI (7 + l0)) = (7 + l0) from nI_clamp (by omega))]; exact s1.pa 7 _ (by decide) (by decide) (by decide)
      refine lv_aload_n hx hb dF_operate_81 rfl (lv_at hl 0 rfl) ?_
      refine lv_dup hx hb dF_operate_82 rfl ?_
      refine va_get (D := D) (ci := 7) (v := .int (T1.1.2.1)) (C := "UnitRoomModel") (T := TF) (N := 18) hx hb hts inF hown hV (ur_one hI.1 fq404) 0 rfl rfl 8 (by decide) (hts _ mw585) (fun _ h9 => h9) rfl dF_operate_83 ?_
      refine lv_iconst (v := 1) hx hb dF_operate_86 (by decide) ?_
      refine lv_iadd hx hb dF_operate_87 ?_
      refine ur_put (D := D) (ci := 7) (v := .int ((T1.1.2.1) + 1)) (ty := .int) (C := "UnitRoomModel") (T := TF) (N := 18) hx hb hts inF tyF tyF_ok nmF hown hV hI fq404 rfl 8 (by decide) (hts _ mw585) (fun _ h9 => h9) rfl (by decide +kernel) rfl rfl (Nat.le_of_ble_eq_true rfl) dF_operate_88 (fun H locs hI => ?_)
      obtain ⟨h409, eh409⟩ : ∃ z : ur_M, z = va_up h403 (b 0) (some (.inr (7, [.ref (b 1), .ref (b 2), .ref (b 3), .long (T1.1.1), .ref (b 4), .ref (b 5), .ref (b 6), .ref (b 7), .int ((T1.1.2.1) + 1), .ref (b 8), .int (T1.1.2.2.1), .ref (b 9), .ref (b 10), .ref (b 11), .ref (b 12), .ref (b 13), .int (T1.1.2.2.2), .ref (b 14)]))) := ⟨_, rfl⟩
      replace hI : ur_I D vwCl (ur_A h s.heap.size) s.heap h409 H locs := by rw [eh409]; exact hI
      have fq410 : h409 (b 0) = some (.inr (7, [.ref (b 1), .ref (b 2), .ref (b 3), .long (T1.1.1), .ref (b 4), .ref (b 5), .ref (b 6), .ref (b 7), .int ((T1.1.2.1) + 1), .ref (b 8), .int (T1.1.2.2.1), .ref (b 9), .ref (b 10), .ref (b 11), .ref (b 12), .ref (b 13), .int (T1.1.2.2.2), .ref (b 14)])) := by rw [eh409]; exact (va_up_self _ _ _)
      have fq411 : h409 (b 4) = some (.inl (E.1 5, 10, .inr (.inl (vp_updL (T1.2.1) (Int32.toNatClampNeg (nI (7 + l0))) ((T1.1.1) + ((fo_tm (nI (7 + l0))).toInt64)))))) := by rw [eh409]; exact ((va_up_ne _ _ (hT.ne (i := 4) (j := 0) (by decide) (by decide) (by decide))).trans fq405)
      have fq412 : h409 (b 5) = some (.inl (E.1 6, 10, .inl (T1.2.2 5))) := by rw [eh409]; exact ((va_up_ne _ _ (hT.ne (i := 5) (j := 0) (by decide) (by decide) (by decide))).trans fq406)
      have fq413 : h409 (b 6) = some (.inl (E.1 0, 10, .inl (T1.2.2 6))) := by rw [eh409]; exact ((va_up_ne _ _ (hT.ne (i := 6) (j := 0) (by decide) (by decide) (by decide))).trans fq407)
      have fq414 : h409 (b 7) = some (.inl (E.1 0, 10, .inl (upd (T1.2.2 7) (Int32.toNatClampNeg (nI (7 + l0))) (T1.1.2.1)))) := by rw [eh409]; exact ((va_up_ne _ _ (hT.ne (i := 7) (j := 0) (by decide) (by decide) (by decide))).trans fq408)
      have s3 : fo_R E b (fo_po (fo_pa (fo_pJ T1 (vp_updL T1.2.1 (7 + l0) (T1.1.1 + (fo_tm (nI (7 + l0))).toInt64))) 7 (upd (T1.2.2 7) (7 + l0) T1.1.2.1)) (T1.1.1, T1.1.2.1 + 1, T1.1.2.2)) h409 := by rw [eh409]; exact s2.po (T1.1.1, T1.1.2.1 + 1, T1.1.2.2)
      refine lv_aload_n hx hb dF_operate_91 rfl (lv_at hl 0 rfl) ?_
      refine va_get (D := D) (ci := 7) (v := .ref (b 5)) (C := "UnitRoomModel") (T := TF) (N := 18) hx hb hts inF hown hV (ur_one hI.1 fq410) 0 rfl rfl 5 (by decide) (hts _ mw582) (fun _ h9 => h9) rfl dF_operate_92 ?_
      refine lv_iload hx hb dF_operate_95 (lv_at hl 4 rfl) ?_
      refine lv_iload_n hx hb dF_operate_97 rfl (lv_at hl 1 rfl) ?_
      refine lv_iconst (v := 1) hx hb dF_operate_98 (by decide) ?_
      refine lv_icmp_ne (tgt := 106) hx hb dF_operate_99 (by decide) (fun c415 => ?_) (fun c415 => absurd c415 (by decide))
      refine lv_iconst (v := 0) hx hb dF_operate_106 (by decide) ?_
      refine ur_zast hx hb hV hI 6 fq412 rfl (vp_in_nI (by omega) (by decide)) dF_operate_107 (fun H locs hI => ?_)
      obtain ⟨h416, eh416⟩ : ∃ z : ur_M, z = va_up h409 (b 5) (some (.inl (E.1 6, 10, .inl (upd (T1.2.2 5) (Int32.toNatClampNeg (nI (7 + l0))) (vp_nar .boolean 0))))) := ⟨_, rfl⟩
      replace hI : ur_I D vwCl (ur_A h s.heap.size) s.heap h416 H locs := by rw [eh416]; exact hI
      have fq417 : h416 (b 0) = some (.inr (7, [.ref (b 1), .ref (b 2), .ref (b 3), .long (T1.1.1), .ref (b 4), .ref (b 5), .ref (b 6), .ref (b 7), .int ((T1.1.2.1) + 1), .ref (b 8), .int (T1.1.2.2.1), .ref (b 9), .ref (b 10), .ref (b 11), .ref (b 12), .ref (b 13), .int (T1.1.2.2.2), .ref (b 14)])) := by rw [eh416]; exact ((va_up_ne _ _ (hT.ne (i := 0) (j := 5) (by decide) (by decide) (by decide))).trans fq410)
      have fq418 : h416 (b 4) = some (.inl (E.1 5, 10, .inr (.inl (vp_updL (T1.2.1) (Int32.toNatClampNeg (nI (7 + l0))) ((T1.1.1) + ((fo_tm (nI (7 + l0))).toInt64)))))) := by rw [eh416]; exact ((va_up_ne _ _ (hT.ne (i := 4) (j := 5) (by decide) (by decide) (by decide))).trans fq411)
      have fq419 : h416 (b 5) = some (.inl (E.1 6, 10, .inl (upd (T1.2.2 5) (Int32.toNatClampNeg (nI (7 + l0))) (vp_nar .boolean 0)))) := by rw [eh416]; exact (va_up_self _ _ _)
      have fq420 : h416 (b 6) = some (.inl (E.1 0, 10, .inl (T1.2.2 6))) := by rw [eh416]; exact ((va_up_ne _ _ (hT.ne (i := 6) (j := 5) (by decide) (by decide) (by decide))).trans fq413)
      have fq421 : h416 (b 7) = some (.inl (E.1 0, 10, .inl (upd (T1.2.2 7) (Int32.toNatClampNeg (nI (7 + l0))) (T1.1.2.1)))) := by rw [eh416]; exact ((va_up_ne _ _ (hT.ne (i := 7) (j := 5) (by decide) (by decide) (by decide))).trans fq414)
      have s4 : fo_R E b (fo_pa (fo_po (fo_pa (fo_pJ T1 (vp_updL T1.2.1 (7 + l0) (T1.1.1 + (fo_tm (nI (7 + l0))).toInt64))) 7 (upd (T1.2.2 7) (7 + l0) T1.1.2.1)) (T1.1.1, T1.1.2.1 + 1, T1.1.2.2)) 5 (upd (T1.2.2 5) (7 + l0) (if (2 : Int32) = 1 then 1 else 0))) h416 := by rw [eh416, (show Int32.toNatClampNeg (nI (7 + l0)) = (7 + l0) from nI_clamp (by omega)), fo_nar0, if_neg (by decide)]; exact s3.pa 5 _ (by decide) (by decide) (by decide)
      refine lv_aload_n hx hb dF_operate_108 rfl (lv_at hl 0 rfl) ?_
      refine va_get (D := D) (ci := 7) (v := .ref (b 6)) (C := "UnitRoomModel") (T := TF) (N := 18) hx hb hts inF hown hV (ur_one hI.1 fq417) 0 rfl rfl 6 (by decide) (hts _ mw583) (fun _ h9 => h9) rfl dF_operate_109 ?_
      refine lv_iload hx hb dF_operate_112 (lv_at hl 4 rfl) ?_
      refine lv_iload_n hx hb dF_operate_114 rfl (lv_at hl 2 rfl) ?_
      refine ur_iast hx hb hV hI 0 fq420 rfl (vp_in_nI (by omega) (by decide)) dF_operate_115 (fun H locs hI => ?_)
      obtain ⟨h422, eh422⟩ : ∃ z : ur_M, z = va_up h416 (b 6) (some (.inl (E.1 0, 10, .inl (upd (T1.2.2 6) (Int32.toNatClampNeg (nI (7 + l0))) (nI mn))))) := ⟨_, rfl⟩
      replace hI : ur_I D vwCl (ur_A h s.heap.size) s.heap h422 H locs := by rw [eh422]; exact hI
      have fq423 : h422 (b 0) = some (.inr (7, [.ref (b 1), .ref (b 2), .ref (b 3), .long (T1.1.1), .ref (b 4), .ref (b 5), .ref (b 6), .ref (b 7), .int ((T1.1.2.1) + 1), .ref (b 8), .int (T1.1.2.2.1), .ref (b 9), .ref (b 10), .ref (b 11), .ref (b 12), .ref (b 13), .int (T1.1.2.2.2), .ref (b 14)])) := by rw [eh422]; exact ((va_up_ne _ _ (hT.ne (i := 0) (j := 6) (by decide) (by decide) (by decide))).trans fq417)
      have fq424 : h422 (b 4) = some (.inl (E.1 5, 10, .inr (.inl (vp_updL (T1.2.1) (Int32.toNatClampNeg (nI (7 + l0))) ((T1.1.1) + ((fo_tm (nI (7 + l0))).toInt64)))))) := by rw [eh422]; exact ((va_up_ne _ _ (hT.ne (i := 4) (j := 6) (by decide) (by decide) (by decide))).trans fq418)
      have fq425 : h422 (b 5) = some (.inl (E.1 6, 10, .inl (upd (T1.2.2 5) (Int32.toNatClampNeg (nI (7 + l0))) (vp_nar .boolean 0)))) := by rw [eh422]; exact ((va_up_ne _ _ (hT.ne (i := 5) (j := 6) (by decide) (by decide) (by decide))).trans fq419)
      have fq426 : h422 (b 6) = some (.inl (E.1 0, 10, .inl (upd (T1.2.2 6) (Int32.toNatClampNeg (nI (7 + l0))) (nI mn)))) := by rw [eh422]; exact (va_up_self _ _ _)
      have fq427 : h422 (b 7) = some (.inl (E.1 0, 10, .inl (upd (T1.2.2 7) (Int32.toNatClampNeg (nI (7 + l0))) (T1.1.2.1)))) := by rw [eh422]; exact ((va_up_ne _ _ (hT.ne (i := 7) (j := 6) (by decide) (by decide) (by decide))).trans fq421)
      obtain ⟨TB, hTB⟩ : ∃ z, z = fo_bg T1 (7 + l0) 2 (nI mn) := ⟨_, rfl⟩
      have hB : fo_R E b TB h422 := by rw [hTB, eh422, (show Int32.toNatClampNeg (nI (7 + l0)) = (7 + l0) from nI_clamp (by omega))]; exact s4.pa 6 _ (by decide) (by decide) (by decide)
      have hB3 : TB.2.2 3 = T.2.2 3 := by rw [hTB, fo_bg_r _ _ _ _ 3 (by decide) (by decide) (by decide)]; exact hr9.2.2 3 (by decide) (by decide)
      have hB10 : TB.2.2 10 = T.2.2 10 := by rw [hTB, fo_bg_r _ _ _ _ 10 (by decide) (by decide) (by decide)]; exact hr9.2.2 10 (by decide) (by decide)
      have hBc : TB.1.2.2.1 = T.1.2.2.1 := by rw [hTB, fo_bg_1]; show T1.1.2.2.1 = _; rw [hr9.2.1]
      have hfin : fo_bg (fo_gg T (7 + l0)) (7 + l0) 2 (nI mn) = TB := by rw [hgg, hTB]
      have y0 : h422 (b 0) = some (.inr (7, [.ref (b 1), .ref (b 2), .ref (b 3), .long (TB.1.1), .ref (b 4), .ref (b 5), .ref (b 6), .ref (b 7), .int (TB.1.2.1), .ref (b 8), .int (TB.1.2.2.1), .ref (b 9), .ref (b 10), .ref (b 11), .ref (b 12), .ref (b 13), .int (TB.1.2.2.2), .ref (b 14)])) := hB.obj
      have y1 : h422 (b 1) = some (.inl (E.1 0, 4000, .inl (TB.2.2 1))) := hB.arr 1 (by decide) (by decide) (by decide)
      have y14 : h422 (b 14) = some (.inl (E.1 0, 56, .inl (TB.2.2 14))) := hB.arr 14 (by decide) (by decide) (by decide)
      have y10 : h422 (b 10) = some (.inl (E.1 0, 3, .inl (TB.2.2 10))) := hB.arr 10 (by decide) (by decide) (by decide)
      have y11 : h422 (b 11) = some (.inl (E.1 0, 900, .inl (TB.2.2 11))) := hB.arr 11 (by decide) (by decide) (by decide)
      have y12 : h422 (b 12) = some (.inl (E.1 1, 108000, .inl (TB.2.2 12))) := hB.arr 12 (by decide) (by decide) (by decide)
      refine lv_iload_n hx hb dF_operate_116 rfl (lv_at hl 1 rfl) ?_
      refine lv_if_ne (tgt := 130) hx hb dF_operate_117 (by decide) (fun c428 => ?_) (fun c428 => absurd c428 (by decide))
      refine lv_iload hx hb dF_operate_130 (lv_at hl 4 rfl) ?_
      refine lv_iconst (v := 4) hx hb dF_operate_132 (by decide) ?_
      refine lv_icmp_ge (tgt := 165) hx hb dF_operate_133 (by decide) (fun c429 => ?_) (fun c429 => absurd c429 (not_not_intro (nI_le (a := 4) (by omega) (by omega))))
      refine lv_iload hx hb dF_operate_165 (lv_at hl 4 rfl) ?_
      refine lv_bipush (v := 6) hx hb dF_operate_167 (by decide) ?_
      refine lv_icmp_ge (tgt := 185) hx hb dF_operate_169 (by decide) (fun c430 => ?_) (fun c430 => absurd c430 (not_not_intro (nI_le (a := 6) (by omega) (by omega))))
      refine lv_iload hx hb dF_operate_185 (lv_at hl 4 rfl) ?_
      refine lv_bipush (v := 6) hx hb dF_operate_187 (by decide) ?_
      refine lv_icmp_ne (tgt := 199) hx hb dF_operate_189 (by decide) (fun c431 => ?_) (fun c431 => absurd c431 (fun z9 => absurd ((nI_eq (b := 6) (by omega) (by decide)).mp z9) (by omega)))
      refine lv_aload_n hx hb dF_operate_199 rfl (lv_at hl 0 rfl) ?_
      refine lv_iload hx hb dF_operate_200 (lv_at hl 4 rfl) ?_
      refine lv_iload_n hx hb dF_operate_202 rfl (lv_at hl 2 rfl) ?_
      refine ur_xv (va_runV (As := [.int (nI (7 + l0)), .int (nI mn)]) (rest := []) ⟨hx, hb, hml, hown, hts⟩ (kF_wlF l D E h422 (b 0) (b 1) (b 2) (b 3) (b 4) (b 5) (b 6) (b 7) (b 8) (b 9) (b 10) (b 11) (b 12) (b 13) (b 14) (TB.1.1) (TB.1.2.1) (TB.1.2.2.1) (TB.1.2.2.2) l0 300 mn (TB.2.2 1) (TB.2.2 14) (TB.2.2 10) (TB.2.2 11) (TB.2.2 12) y0 y1 y14 y10 y11 y12 hl0 (by rw [hB10]; exact hli) hmn rfl H.size) (cwV 2 hts (ur_gV mw714 mw716 ms15 mw11 mw717) rfl rfl rfl (by decide +kernel) ⟨(Nat.le_of_ble_eq_true rfl), (Nat.le_of_ble_eq_true rfl)⟩) ⟨ur_blind, va_recv hV (ur_one hI.1 y0) (ci := 7) (q0 := 0) rfl rfl, ur_pre hI hO hK (fun _ _ q => q)⟩ rfl rfl hl.1 rfl (lv_room (Nat.le_of_ble_eq_true rfl)) dF_operate_203 ⟨Nat.le_of_ble_eq_true rfl, Nat.le_of_ble_eq_true rfl⟩) hI (fun h432 H locs p432 hI => ?_)
      have eh432 := p432
      replace eh432 := eh432.symm; subst eh432
      refine lv_iconst (v := 0) hx hb dF_operate_206 (by decide) ?_
      exact ur_ri hx hb hr hlocks hI hQ ⟨rfl, (by show fo_R E b _ _; rw [hfin]; exact hB)⟩ dF_operate_207
  refine lv_aload_n hx hb dF_operate_26 rfl (lv_at hl 2 rfl) ?_
  refine va_get (D := D) (ci := 7) (v := .ref (b 4)) (C := "UnitRoomModel") (T := TF) (N := 18) hx hb hts inF hown hV (ur_one hI.1 g0) 0 rfl rfl 4 (by decide) (hts _ mw581) (fun _ h9 => h9) rfl dF_operate_27 ?_
  refine lv_iload hx hb dF_operate_30 (lv_at hl 1 rfl) ?_
  refine va_lald hx hb hV (ur_one hI.1 g4) 0 5 rfl rfl (vp_in_nI hpn (by decide)) dF_operate_32 ?_
  rw [nI_clamp (show pn < 2 ^ 31 by omega)]
  refine lv_aload_n hx hb dF_operate_33 rfl (lv_at hl 2 rfl) ?_
  refine va_get (D := D) (ci := 7) (v := .long (T.1.1)) (C := "UnitRoomModel") (T := TF) (N := 18) hx hb hts inF hown hV (ur_one hI.1 g0) 0 rfl rfl 3 (by decide) (hts _ mw580) (fun _ h9 => h9) rfl dF_operate_34 ?_
  refine W.lcmp hx hb dF_operate_37 ?_
  refine lv_if_le (tgt := 52) hx hb dF_operate_38 (by decide) (fun c433 => ?_) (fun c433 => ?_)
  · exact tail T h _ _ ls hT (by unfold fo_gg; rw [if_pos c433]) hI (lv_sub hl [2, 4, 5, 6, 1] rfl)
  · refine lv_aload_n hx hb dF_operate_41 rfl (lv_at hl 2 rfl) ?_
    refine lv_aload_n hx hb dF_operate_42 rfl (lv_at hl 2 rfl) ?_
    refine va_get (D := D) (ci := 7) (v := .ref (b 4)) (C := "UnitRoomModel") (T := TF) (N := 18) hx hb hts inF hown hV (ur_one hI.1 g0) 0 rfl rfl 4 (by decide) (hts _ mw581) (fun _ h9 => h9) rfl dF_operate_43 ?_
    refine lv_iload hx hb dF_operate_46 (lv_at hl 1 rfl) ?_
    refine va_lald hx hb hV (ur_one hI.1 g4) 0 5 rfl rfl (vp_in_nI hpn (by decide)) dF_operate_48 ?_
    rw [nI_clamp (show pn < 2 ^ 31 by omega)]
    refine ur_xv (va_runV (As := [.long (T.2.1 pn)]) (rest := []) ⟨hx, hb, hml, hown, hts⟩ (kF_go l D E h b T (T.2.1 pn) hT hG H.size) (cwV 1 hts (ur_gV mw682 mw684 ms8 mw11 mw685) rfl rfl rfl (by decide +kernel) ⟨(Nat.le_of_ble_eq_true rfl), (Nat.le_of_ble_eq_true rfl)⟩) ⟨ur_blind, va_recv hV (ur_one hI.1 g0) (ci := 7) (q0 := 0) rfl rfl, ur_pre hI hO hK (fun _ _ q => q)⟩ rfl rfl hl.1 rfl (lv_room (Nat.le_of_ble_eq_true rfl)) dF_operate_49 ⟨Nat.le_of_ble_eq_true rfl, Nat.le_of_ble_eq_true rfl⟩) hI (fun h434 H locs p434 hI => ?_)
    have hT9 : fo_R E b (fo_goS (fo_po T ((T.2.1 pn), T.1.2)) 10) h434 := p434
    exact tail _ _ _ _ ls hT9 (by unfold fo_gg; rw [if_neg c433]) hI (lv_sub hl [2, 4, 5, 6, 1] rfl)
