theorem fo_best_v (C : Nat → Int32) (J : Nat → Int64) (G : Nat → Int32) (t : Int64) (u : Nat) (hu : u ≤ 10) : fo_best C J G t u < 0 ∨ vp_in (fo_best C J G t u) 10 := by
  rcases fo_best_in C J G t u hu with h | ⟨j, hj, e, -⟩
  · exact Or.inl (fo_neg1 h)
  · rw [e]; exact Or.inr (vp_in_nI (by omega) (by decide))
theorem dF_goOn_0 : decode cF_goOn 0 = .ok (.aload_n 0, 1) := by decide +kernel
theorem dF_goOn_1 : decode cF_goOn 1 = .ok (.lload_n 1, 1) := by decide +kernel
theorem dF_goOn_2 : decode cF_goOn 2 = .ok (.putfield 83, 3) := by decide +kernel
theorem dF_goOn_5 : decode cF_goOn 5 = .ok (.iconst 1, 1) := by decide +kernel
theorem dF_goOn_6 : decode cF_goOn 6 = .ok (.istore_n 3, 1) := by decide +kernel
theorem dF_goOn_7 : decode cF_goOn 7 = .ok (.iload_n 3, 1) := by decide +kernel
theorem dF_goOn_8 : decode cF_goOn 8 = .ok (.ifCond .eq 140, 3) := by decide +kernel
theorem dF_goOn_11 : decode cF_goOn 11 = .ok (.iconst (-1), 1) := by decide +kernel
theorem dF_goOn_12 : decode cF_goOn 12 = .ok (.istore 4, 2) := by decide +kernel
theorem dF_goOn_14 : decode cF_goOn 14 = .ok (.iconst 0, 1) := by decide +kernel
theorem dF_goOn_15 : decode cF_goOn 15 = .ok (.istore 5, 2) := by decide +kernel
theorem dF_goOn_17 : decode cF_goOn 17 = .ok (.iload 5, 2) := by decide +kernel
theorem dF_goOn_19 : decode cF_goOn 19 = .ok (.bipush 10, 2) := by decide +kernel
theorem dF_goOn_21 : decode cF_goOn 21 = .ok (.if_icmp .ge 54, 3) := by decide +kernel
theorem dF_goOn_24 : decode cF_goOn 24 = .ok (.aload_n 0, 1) := by decide +kernel
theorem dF_goOn_25 : decode cF_goOn 25 = .ok (.getfield 24, 3) := by decide +kernel
theorem dF_goOn_28 : decode cF_goOn 28 = .ok (.iload 5, 2) := by decide +kernel
theorem dF_goOn_30 : decode cF_goOn 30 = .ok (.baload, 1) := by decide +kernel
theorem dF_goOn_31 : decode cF_goOn 31 = .ok (.ifCond .eq 34, 3) := by decide +kernel
theorem dF_goOn_34 : decode cF_goOn 34 = .ok (.aload_n 0, 1) := by decide +kernel
theorem dF_goOn_35 : decode cF_goOn 35 = .ok (.getfield 20, 3) := by decide +kernel
theorem dF_goOn_38 : decode cF_goOn 38 = .ok (.iload 5, 2) := by decide +kernel
theorem dF_goOn_40 : decode cF_goOn 40 = .ok (.laload, 1) := by decide +kernel
theorem dF_goOn_41 : decode cF_goOn 41 = .ok (.aload_n 0, 1) := by decide +kernel
theorem dF_goOn_42 : decode cF_goOn 42 = .ok (.getfield 83, 3) := by decide +kernel
theorem dF_goOn_45 : decode cF_goOn 45 = .ok (.lcmp, 1) := by decide +kernel
theorem dF_goOn_46 : decode cF_goOn 46 = .ok (.ifCond .gt 19, 3) := by decide +kernel
theorem dF_goOn_49 : decode cF_goOn 49 = .ok (.aload_n 0, 1) := by decide +kernel
theorem dF_goOn_50 : decode cF_goOn 50 = .ok (.iload 5, 2) := by decide +kernel
theorem dF_goOn_52 : decode cF_goOn 52 = .ok (.iload 4, 2) := by decide +kernel
theorem dF_goOn_54 : decode cF_goOn 54 = .ok (.invokevirtual 87, 3) := by decide +kernel
theorem dF_goOn_57 : decode cF_goOn 57 = .ok (.ifCond .eq 8, 3) := by decide +kernel
theorem dF_goOn_60 : decode cF_goOn 60 = .ok (.iload 5, 2) := by decide +kernel
theorem dF_goOn_62 : decode cF_goOn 62 = .ok (.goto 5, 3) := by decide +kernel
theorem dF_goOn_65 : decode cF_goOn 65 = .ok (.iload 4, 2) := by decide +kernel
theorem dF_goOn_67 : decode cF_goOn 67 = .ok (.istore 4, 2) := by decide +kernel
theorem dF_goOn_69 : decode cF_goOn 69 = .ok (.iinc 5 1, 3) := by decide +kernel
theorem dF_goOn_72 : decode cF_goOn 72 = .ok (.goto (-55), 3) := by decide +kernel
theorem dF_goOn_75 : decode cF_goOn 75 = .ok (.iload 4, 2) := by decide +kernel
theorem dF_goOn_77 : decode cF_goOn 77 = .ok (.ifCond .lt 7, 3) := by decide +kernel
theorem dF_goOn_80 : decode cF_goOn 80 = .ok (.iconst 1, 1) := by decide +kernel
theorem dF_goOn_81 : decode cF_goOn 81 = .ok (.goto 4, 3) := by decide +kernel
theorem dF_goOn_84 : decode cF_goOn 84 = .ok (.iconst 0, 1) := by decide +kernel
theorem dF_goOn_85 : decode cF_goOn 85 = .ok (.istore_n 3, 1) := by decide +kernel
theorem dF_goOn_86 : decode cF_goOn 86 = .ok (.iload_n 3, 1) := by decide +kernel
theorem dF_goOn_87 : decode cF_goOn 87 = .ok (.ifCond .eq 58, 3) := by decide +kernel
theorem dF_goOn_90 : decode cF_goOn 90 = .ok (.aload_n 0, 1) := by decide +kernel
theorem dF_goOn_91 : decode cF_goOn 91 = .ok (.getfield 24, 3) := by decide +kernel
theorem dF_goOn_94 : decode cF_goOn 94 = .ok (.iload 4, 2) := by decide +kernel
theorem dF_goOn_96 : decode cF_goOn 96 = .ok (.iconst 0, 1) := by decide +kernel
theorem dF_goOn_97 : decode cF_goOn 97 = .ok (.bastore, 1) := by decide +kernel
theorem dF_goOn_98 : decode cF_goOn 98 = .ok (.iconst 0, 1) := by decide +kernel
theorem dF_goOn_99 : decode cF_goOn 99 = .ok (.istore 5, 2) := by decide +kernel
theorem dF_goOn_101 : decode cF_goOn 101 = .ok (.iload 5, 2) := by decide +kernel
theorem dF_goOn_103 : decode cF_goOn 103 = .ok (.iload 4, 2) := by decide +kernel
theorem dF_goOn_105 : decode cF_goOn 105 = .ok (.invokestatic 74, 3) := by decide +kernel
theorem dF_goOn_108 : decode cF_goOn 108 = .ok (.if_icmp .ge 37, 3) := by decide +kernel
theorem dF_goOn_111 : decode cF_goOn 111 = .ok (.aload_n 0, 1) := by decide +kernel
theorem dF_goOn_112 : decode cF_goOn 112 = .ok (.getfield 7, 3) := by decide +kernel
theorem dF_goOn_115 : decode cF_goOn 115 = .ok (.aload_n 0, 1) := by decide +kernel
theorem dF_goOn_116 : decode cF_goOn 116 = .ok (.getfield 28, 3) := by decide +kernel
theorem dF_goOn_119 : decode cF_goOn 119 = .ok (.iload 4, 2) := by decide +kernel
theorem dF_goOn_121 : decode cF_goOn 121 = .ok (.iaload, 1) := by decide +kernel
theorem dF_goOn_122 : decode cF_goOn 122 = .ok (.iload 5, 2) := by decide +kernel
theorem dF_goOn_124 : decode cF_goOn 124 = .ok (.iadd, 1) := by decide +kernel
theorem dF_goOn_125 : decode cF_goOn 125 = .ok (.aload_n 0, 1) := by decide +kernel
theorem dF_goOn_126 : decode cF_goOn 126 = .ok (.getfield 34, 3) := by decide +kernel
theorem dF_goOn_129 : decode cF_goOn 129 = .ok (.bipush 100, 2) := by decide +kernel
theorem dF_goOn_131 : decode cF_goOn 131 = .ok (.iload 4, 2) := by decide +kernel
theorem dF_goOn_133 : decode cF_goOn 133 = .ok (.imul, 1) := by decide +kernel
theorem dF_goOn_134 : decode cF_goOn 134 = .ok (.iload 5, 2) := by decide +kernel
theorem dF_goOn_136 : decode cF_goOn 136 = .ok (.iadd, 1) := by decide +kernel
theorem dF_goOn_137 : decode cF_goOn 137 = .ok (.iaload, 1) := by decide +kernel
theorem dF_goOn_138 : decode cF_goOn 138 = .ok (.iastore, 1) := by decide +kernel
theorem dF_goOn_139 : decode cF_goOn 139 = .ok (.iinc 5 1, 3) := by decide +kernel
theorem dF_goOn_142 : decode cF_goOn 142 = .ok (.goto (-41), 3) := by decide +kernel
theorem dF_goOn_145 : decode cF_goOn 145 = .ok (.goto (-138), 3) := by decide +kernel
theorem dF_goOn_148 : decode cF_goOn 148 = .ok (.return_, 1) := by decide +kernel
abbrev rmkF_go : Room := { frames := 1, cells := 0, slots := 0, locals := 22 }
set_option maxHeartbeats 4000000 in
set_option maxRecDepth 100000 in
theorem kF_go (l : Launch) (D : va_G) (E : ur_Ev) (h : ur_M) (b : Nat → Nat) (T0 : fo_S) (tt : Int64)  (hR : fo_R E b T0 h) (hG : fo_Gl T0) : ur_Mv l yF_goOn wsF_goOn rmkF_go D vwCl (ur_v E) [.ref (b 0), .long tt] h (fun h2 => fo_R E b (fo_goS (fo_po T0 (tt, T0.1.2)) 10) h2) 0 0 := by
  intro sz
  refine ur_of (cc := cF_goOn) (maxL := 6) (ret := none) (by decide) rfl (Nat.le_of_ble_eq_true rfl) ?_
  intro p e s m args below meth c ls Q hsz hx hb hml hr hlocks hnm hown hts hO hK hI hQ hl
  subst hsz
  have hV := hK.1
  have hts : ∀ w ∈ ur_G, w.before args s = true := fun w hw => hts w (List.mem_cons_of_mem _ hw)
  have hZ : ur_Z E (ur_A h s.heap.size) s s.heap := hO.1
  have hown : s.vm.findClass "UnitRoomModel" = some m.cls := hown
  have hl : lv_has ls 6 [(0, .ref (b 0)), (1, .long tt)] := hl
  have i0 : h (b 0) = some (.inr (7, [.ref (b 1), .ref (b 2), .ref (b 3), .long (T0.1.1), .ref (b 4), .ref (b 5), .ref (b 6), .ref (b 7), .int (T0.1.2.1), .ref (b 8), .int (T0.1.2.2.1), .ref (b 9), .ref (b 10), .ref (b 11), .ref (b 12), .ref (b 13), .int (T0.1.2.2.2), .ref (b 14)])) := hR.obj
  have i1 : h (b 1) = some (.inl (E.1 0, 4000, .inl (T0.2.2 1))) := hR.arr 1 (by decide) (by decide) (by decide)
  have i2 : h (b 2) = some (.inl (E.1 0, 38400, .inl (T0.2.2 2))) := hR.arr 2 (by decide) (by decide) (by decide)
  have i3 : h (b 3) = some (.inl (E.1 0, 4, .inl (T0.2.2 3))) := hR.arr 3 (by decide) (by decide) (by decide)
  have i4 : h (b 4) = some (.inl (E.1 5, 10, .inr (.inl (T0.2.1)))) := hR.frees
  have i5 : h (b 5) = some (.inl (E.1 6, 10, .inl (T0.2.2 5))) := hR.arr 5 (by decide) (by decide) (by decide)
  have i6 : h (b 6) = some (.inl (E.1 0, 10, .inl (T0.2.2 6))) := hR.arr 6 (by decide) (by decide) (by decide)
  have i7 : h (b 7) = some (.inl (E.1 0, 10, .inl (T0.2.2 7))) := hR.arr 7 (by decide) (by decide) (by decide)
  have i8 : h (b 8) = some (.inl (E.1 0, 1000, .inl (T0.2.2 8))) := hR.arr 8 (by decide) (by decide) (by decide)
  have i9 : h (b 9) = some (.inl (E.1 0, 8000, .inl (T0.2.2 9))) := hR.arr 9 (by decide) (by decide) (by decide)
  have i10 : h (b 10) = some (.inl (E.1 0, 3, .inl (T0.2.2 10))) := hR.arr 10 (by decide) (by decide) (by decide)
  have i11 : h (b 11) = some (.inl (E.1 0, 900, .inl (T0.2.2 11))) := hR.arr 11 (by decide) (by decide) (by decide)
  have i12 : h (b 12) = some (.inl (E.1 1, 108000, .inl (T0.2.2 12))) := hR.arr 12 (by decide) (by decide) (by decide)
  have i13 : h (b 13) = some (.inl (E.1 0, 400, .inl (T0.2.2 13))) := hR.arr 13 (by decide) (by decide) (by decide)
  have i14 : h (b 14) = some (.inl (E.1 0, 56, .inl (T0.2.2 14))) := hR.arr 14 (by decide) (by decide) (by decide)
  refine lv_aload_n hx hb dF_goOn_0 rfl (lv_at hl 0 rfl) ?_
  refine lv_lload_n hx hb dF_goOn_1 rfl (lv_at hl 1 rfl) ?_
  refine ur_put (D := D) (ci := 7) (v := .long tt) (ty := .long) (C := "UnitRoomModel") (T := TF) (N := 18) hx hb hts inF tyF tyF_ok nmF hown hV hI i0 rfl 3 (by decide) (hts _ mw580) (fun _ h9 => h9) rfl (by decide +kernel) rfl rfl (Nat.le_of_ble_eq_true rfl) dF_goOn_2 (fun H locs hI => ?_)
  obtain ⟨h1, eh1⟩ : ∃ z : ur_M, z = va_up h (b 0) (some (.inr (7, [.ref (b 1), .ref (b 2), .ref (b 3), .long tt, .ref (b 4), .ref (b 5), .ref (b 6), .ref (b 7), .int (T0.1.2.1), .ref (b 8), .int (T0.1.2.2.1), .ref (b 9), .ref (b 10), .ref (b 11), .ref (b 12), .ref (b 13), .int (T0.1.2.2.2), .ref (b 14)]))) := ⟨_, rfl⟩
  replace hI : ur_I D vwCl (ur_A h s.heap.size) s.heap h1 H locs := by rw [eh1]; exact hI
  have fq2 : h1 (b 0) = some (.inr (7, [.ref (b 1), .ref (b 2), .ref (b 3), .long tt, .ref (b 4), .ref (b 5), .ref (b 6), .ref (b 7), .int (T0.1.2.1), .ref (b 8), .int (T0.1.2.2.1), .ref (b 9), .ref (b 10), .ref (b 11), .ref (b 12), .ref (b 13), .int (T0.1.2.2.2), .ref (b 14)])) := by rw [eh1]; exact (va_up_self _ _ _)
  have fq3 : h1 (b 1) = some (.inl (E.1 0, 4000, .inl (T0.2.2 1))) := by rw [eh1]; exact ((va_up_ne _ _ (hR.ne (i := 1) (j := 0) (by decide) (by decide) (by decide))).trans i1)
  have fq4 : h1 (b 2) = some (.inl (E.1 0, 38400, .inl (T0.2.2 2))) := by rw [eh1]; exact ((va_up_ne _ _ (hR.ne (i := 2) (j := 0) (by decide) (by decide) (by decide))).trans i2)
  have fq5 : h1 (b 3) = some (.inl (E.1 0, 4, .inl (T0.2.2 3))) := by rw [eh1]; exact ((va_up_ne _ _ (hR.ne (i := 3) (j := 0) (by decide) (by decide) (by decide))).trans i3)
  have fq6 : h1 (b 4) = some (.inl (E.1 5, 10, .inr (.inl (T0.2.1)))) := by rw [eh1]; exact ((va_up_ne _ _ (hR.ne (i := 4) (j := 0) (by decide) (by decide) (by decide))).trans i4)
  have fq7 : h1 (b 5) = some (.inl (E.1 6, 10, .inl (T0.2.2 5))) := by rw [eh1]; exact ((va_up_ne _ _ (hR.ne (i := 5) (j := 0) (by decide) (by decide) (by decide))).trans i5)
  have fq8 : h1 (b 6) = some (.inl (E.1 0, 10, .inl (T0.2.2 6))) := by rw [eh1]; exact ((va_up_ne _ _ (hR.ne (i := 6) (j := 0) (by decide) (by decide) (by decide))).trans i6)
  have fq9 : h1 (b 7) = some (.inl (E.1 0, 10, .inl (T0.2.2 7))) := by rw [eh1]; exact ((va_up_ne _ _ (hR.ne (i := 7) (j := 0) (by decide) (by decide) (by decide))).trans i7)
  have fq10 : h1 (b 8) = some (.inl (E.1 0, 1000, .inl (T0.2.2 8))) := by rw [eh1]; exact ((va_up_ne _ _ (hR.ne (i := 8) (j := 0) (by decide) (by decide) (by decide))).trans i8)
  have fq11 : h1 (b 9) = some (.inl (E.1 0, 8000, .inl (T0.2.2 9))) := by rw [eh1]; exact ((va_up_ne _ _ (hR.ne (i := 9) (j := 0) (by decide) (by decide) (by decide))).trans i9)
  have fq12 : h1 (b 10) = some (.inl (E.1 0, 3, .inl (T0.2.2 10))) := by rw [eh1]; exact ((va_up_ne _ _ (hR.ne (i := 10) (j := 0) (by decide) (by decide) (by decide))).trans i10)
  have fq13 : h1 (b 11) = some (.inl (E.1 0, 900, .inl (T0.2.2 11))) := by rw [eh1]; exact ((va_up_ne _ _ (hR.ne (i := 11) (j := 0) (by decide) (by decide) (by decide))).trans i11)
  have fq14 : h1 (b 12) = some (.inl (E.1 1, 108000, .inl (T0.2.2 12))) := by rw [eh1]; exact ((va_up_ne _ _ (hR.ne (i := 12) (j := 0) (by decide) (by decide) (by decide))).trans i12)
  have fq15 : h1 (b 13) = some (.inl (E.1 0, 400, .inl (T0.2.2 13))) := by rw [eh1]; exact ((va_up_ne _ _ (hR.ne (i := 13) (j := 0) (by decide) (by decide) (by decide))).trans i13)
  have fq16 : h1 (b 14) = some (.inl (E.1 0, 56, .inl (T0.2.2 14))) := by rw [eh1]; exact ((va_up_ne _ _ (hR.ne (i := 14) (j := 0) (by decide) (by decide) (by decide))).trans i14)
  refine lv_iconst (v := 1) hx hb dF_goOn_5 (by decide) ?_
  refine lv_istore_n (lv' := [(3, .int 1), (0, .ref (b 0)), (1, .long tt)]) hx hb dF_goOn_6 rfl hl (by decide) rfl (fun ls hl => ?_)
  have hR1 : fo_R E b (fo_po T0 (tt, T0.1.2)) h1 := by rw [eh1]; exact hR.po _
  have lpg : ∀ (n k : Nat) (T : fo_S) (h1 : ur_M) (H : Heap) (locs : List Loc) (ls : Array Slot), k < n → fo_cnt (T.2.2 5) 10 ≤ k → fo_R E b T h1 → fo_Gl T → fo_goS (fo_po T0 (tt, T0.1.2)) 10 = fo_goS T k → ur_I D vwCl (ur_A h s.heap.size) s.heap h1 H locs → lv_has ls 6 [(0, .ref (b 0)), (3, .int 1)] → W p l e rmkF_go s m args below meth c H locs 0 0 Q (F0 m 7 ls []) := by
    intro n
    induction n with
    | zero => intro k T h1 H locs ls hn; exact absurd hn (Nat.not_lt_zero _)
    | succ n ih =>
      intro k T h1 H locs ls hn hk hT hGT hgo hI hl
      have g0 : h1 (b 0) = some (.inr (7, [.ref (b 1), .ref (b 2), .ref (b 3), .long (T.1.1), .ref (b 4), .ref (b 5), .ref (b 6), .ref (b 7), .int (T.1.2.1), .ref (b 8), .int (T.1.2.2.1), .ref (b 9), .ref (b 10), .ref (b 11), .ref (b 12), .ref (b 13), .int (T.1.2.2.2), .ref (b 14)])) := hT.obj
      have g1 : h1 (b 1) = some (.inl (E.1 0, 4000, .inl (T.2.2 1))) := hT.arr 1 (by decide) (by decide) (by decide)
      have g4 : h1 (b 4) = some (.inl (E.1 5, 10, .inr (.inl (T.2.1)))) := hT.frees
      have g5 : h1 (b 5) = some (.inl (E.1 6, 10, .inl (T.2.2 5))) := hT.arr 5 (by decide) (by decide) (by decide)
      have g6 : h1 (b 6) = some (.inl (E.1 0, 10, .inl (T.2.2 6))) := hT.arr 6 (by decide) (by decide) (by decide)
      have g7 : h1 (b 7) = some (.inl (E.1 0, 10, .inl (T.2.2 7))) := hT.arr 7 (by decide) (by decide) (by decide)
      have g8 : h1 (b 8) = some (.inl (E.1 0, 1000, .inl (T.2.2 8))) := hT.arr 8 (by decide) (by decide) (by decide)
      refine lv_iload_n hx hb dF_goOn_7 rfl (lv_at hl 1 rfl) ?_
      refine lv_if_eq (tgt := 148) hx hb dF_goOn_8 (by decide) (fun c17 => absurd c17 (by decide)) (fun c17 => ?_)
      refine lv_iconst (v := (-1)) hx hb dF_goOn_11 (by decide) ?_
      refine lv_istore (lv' := [(4, .int (-1)), (0, .ref (b 0)), (3, .int 1)]) hx hb dF_goOn_12 hl (by decide) rfl (fun ls hl => ?_)
      refine lv_iconst (v := 0) hx hb dF_goOn_14 (by decide) ?_
      refine lv_istore (lv' := [(5, .int 0), (4, .int (-1)), (0, .ref (b 0)), (3, .int 1)]) hx hb dF_goOn_15 hl (by decide) rfl (fun ls hl => ?_)
      have lpn18 : ∀ (n18 : Nat) (u : Nat) (H : Heap) (locs : List Loc) (ls : Array Slot), 10 - u < n18 → (u ≤ 10) → ur_I D vwCl (ur_A h s.heap.size) s.heap h1 H locs → lv_has ls 6 [(0, .ref (b 0)), (3, .int 1), (4, .int (fo_best (T.2.2 5) T.2.1 (T.2.2 7) T.1.1 u)), (5, .int (nI u))] → W p l e rmkF_go s m args below meth c H locs 0 0 Q (F0 m 17 ls []) := by
        intro n18
        induction n18 with
        | zero => intro u H locs ls hnn18; exact absurd hnn18 (Nat.not_lt_zero _)
        | succ n18 ihn18 =>
          intro u H locs ls hnn18 hu hI hl
          refine lv_iload hx hb dF_goOn_17 (lv_at hl 3 rfl) ?_
          refine lv_bipush (v := 10) hx hb dF_goOn_19 (by decide) ?_
          refine lv_icmp_ge (tgt := 75) hx hb dF_goOn_21 (by decide) (fun c19 => ?_) (fun c19 => ?_)
          · have he9 : u = 10 := Nat.le_antisymm hu (Nat.not_lt.mp (fun z9 => nI_ge (b := 10) z9 (by decide) c19))
            obtain ⟨bb, hbb⟩ : ∃ z, z = fo_best (T.2.2 5) T.2.1 (T.2.2 7) T.1.1 10 := ⟨_, rfl⟩
            rw [he9, ← hbb] at hl
            refine lv_iload hx hb dF_goOn_75 (lv_at hl 2 rfl) ?_
            refine lv_if_lt (tgt := 84) hx hb dF_goOn_77 (by decide) (fun c20 => ?_) (fun c20 => ?_)
            · have hend9 := c20
              refine lv_iconst (v := 0) hx hb dF_goOn_84 (by decide) ?_
              refine lv_istore_n (lv' := [(3, .int 0), (0, .ref (b 0)), (4, .int bb), (5, .int (nI 10))]) hx hb dF_goOn_85 rfl hl (by decide) rfl (fun ls hl => ?_)
              refine lv_iload_n hx hb dF_goOn_86 rfl (lv_at hl 0 rfl) ?_
              refine lv_if_eq (tgt := 145) hx hb dF_goOn_87 (by decide) (fun c21 => ?_) (fun c21 => absurd c21 (by decide))
              refine lv_goto (tgt := 7) hx hb dF_goOn_145 (by decide) ?_
              refine lv_iload_n hx hb dF_goOn_7 rfl (lv_at hl 0 rfl) ?_
              refine lv_if_eq (tgt := 148) hx hb dF_goOn_8 (by decide) (fun c22 => ?_) (fun c22 => absurd c22 (by decide))
              exact ur_rv hx hb hr hlocks hI hQ (by show fo_R E b _ _; rw [hgo, fo_goS_end (by rw [← hbb]; exact hend9)]; exact hT) dF_goOn_148
            · have hnb9 := c20
              obtain ⟨j, hj9, ej9, hc9⟩ : ∃ j : Nat, j < 10 ∧ bb = nI j ∧ ¬ T.2.2 5 j = 0 := by rw [hbb]; rw [hbb] at hnb9; exact (fo_best_in _ _ _ _ 10 (Nat.le_refl _)).resolve_left (fun z9 => hnb9 (fo_neg1 z9))
              rw [ej9] at hl hnb9
              obtain ⟨gn, hgn9, hgw9⟩ := hGT j hj9 hc9
              obtain ⟨wn, hwn9, hwl9⟩ := fo_ws_n j hj9
              rw [hwn9, nI_clamp (show wn < 2 ^ 31 by omega)] at hgw9
              refine lv_iconst (v := 1) hx hb dF_goOn_80 (by decide) ?_
              refine lv_goto (tgt := 85) hx hb dF_goOn_81 (by decide) ?_
              refine lv_istore_n (lv' := [(3, .int 1), (0, .ref (b 0)), (4, .int (nI j)), (5, .int (nI 10))]) hx hb dF_goOn_85 rfl hl (by decide) rfl (fun ls hl => ?_)
              refine lv_iload_n hx hb dF_goOn_86 rfl (lv_at hl 0 rfl) ?_
              refine lv_if_eq (tgt := 145) hx hb dF_goOn_87 (by decide) (fun c23 => absurd c23 (by decide)) (fun c23 => ?_)
              refine lv_aload_n hx hb dF_goOn_90 rfl (lv_at hl 1 rfl) ?_
              refine va_get (D := D) (ci := 7) (v := .ref (b 5)) (C := "UnitRoomModel") (T := TF) (N := 18) hx hb hts inF hown hV (ur_one hI.1 g0) 0 rfl rfl 5 (by decide) (hts _ mw582) (fun _ h9 => h9) rfl dF_goOn_91 ?_
              refine lv_iload hx hb dF_goOn_94 (lv_at hl 2 rfl) ?_
              refine lv_iconst (v := 0) hx hb dF_goOn_96 (by decide) ?_
              refine ur_zast hx hb hV hI 6 g5 rfl (vp_in_nI hj9 (by decide)) dF_goOn_97 (fun H locs hI => ?_)
              obtain ⟨h24, eh24⟩ : ∃ z : ur_M, z = va_up h1 (b 5) (some (.inl (E.1 6, 10, .inl (upd (T.2.2 5) (Int32.toNatClampNeg (nI j)) (vp_nar .boolean 0))))) := ⟨_, rfl⟩
              replace hI : ur_I D vwCl (ur_A h s.heap.size) s.heap h24 H locs := by rw [eh24]; exact hI
              have fq25 : h24 (b 0) = some (.inr (7, [.ref (b 1), .ref (b 2), .ref (b 3), .long (T.1.1), .ref (b 4), .ref (b 5), .ref (b 6), .ref (b 7), .int (T.1.2.1), .ref (b 8), .int (T.1.2.2.1), .ref (b 9), .ref (b 10), .ref (b 11), .ref (b 12), .ref (b 13), .int (T.1.2.2.2), .ref (b 14)])) := by rw [eh24]; exact ((va_up_ne _ _ (hT.ne (i := 0) (j := 5) (by decide) (by decide) (by decide))).trans g0)
              have fq26 : h24 (b 1) = some (.inl (E.1 0, 4000, .inl (T.2.2 1))) := by rw [eh24]; exact ((va_up_ne _ _ (hT.ne (i := 1) (j := 5) (by decide) (by decide) (by decide))).trans g1)
              have fq27 : h24 (b 4) = some (.inl (E.1 5, 10, .inr (.inl (T.2.1)))) := by rw [eh24]; exact ((va_up_ne _ _ (hT.ne (i := 4) (j := 5) (by decide) (by decide) (by decide))).trans g4)
              have fq28 : h24 (b 5) = some (.inl (E.1 6, 10, .inl (upd (T.2.2 5) (Int32.toNatClampNeg (nI j)) (vp_nar .boolean 0)))) := by rw [eh24]; exact (va_up_self _ _ _)
              have fq29 : h24 (b 6) = some (.inl (E.1 0, 10, .inl (T.2.2 6))) := by rw [eh24]; exact ((va_up_ne _ _ (hT.ne (i := 6) (j := 5) (by decide) (by decide) (by decide))).trans g6)
              have fq30 : h24 (b 7) = some (.inl (E.1 0, 10, .inl (T.2.2 7))) := by rw [eh24]; exact ((va_up_ne _ _ (hT.ne (i := 7) (j := 5) (by decide) (by decide) (by decide))).trans g7)
              have fq31 : h24 (b 8) = some (.inl (E.1 0, 1000, .inl (T.2.2 8))) := by rw [eh24]; exact ((va_up_ne _ _ (hT.ne (i := 8) (j := 5) (by decide) (by decide) (by decide))).trans g8)
              refine lv_iconst (v := 0) hx hb dF_goOn_98 (by decide) ?_
              refine lv_istore (lv' := [(5, .int 0), (3, .int 1), (0, .ref (b 0)), (4, .int (nI j))]) hx hb dF_goOn_99 hl (by decide) rfl (fun ls hl => ?_)
              have hU : fo_R E b (fo_pa T 5 (upd (T.2.2 5) j 0)) h24 := by rw [eh24, nI_clamp (show j < 2 ^ 31 by omega), fo_nar0]; exact hT.pa 5 _ (by decide) (by decide) (by decide)
              have hU0 : fo_R E b (fo_pa (fo_pa T 5 (upd (T.2.2 5) j 0)) 1 (fo_cp (T.2.2 1) (T.2.2 8) gn (100 * j) 0)) h24 := by have z9 : fo_pa (fo_pa T 5 (upd (T.2.2 5) j 0)) 1 (T.2.2 1) = fo_pa T 5 (upd (T.2.2 5) j 0) := fo_pa_id (fo_pa T 5 (upd (T.2.2 5) j 0)) 1; rw [fo_cp_0, z9]; exact hU
              have lpi : ∀ (n i : Nat) (h2 : ur_M) (H : Heap) (locs : List Loc) (ls : Array Slot), wn - i < n → i ≤ wn → fo_R E b (fo_pa (fo_pa T 5 (upd (T.2.2 5) j 0)) 1 (fo_cp (T.2.2 1) (T.2.2 8) gn (100 * j) i)) h2 → ur_I D vwCl (ur_A h s.heap.size) s.heap h2 H locs → lv_has ls 6 [(0, .ref (b 0)), (3, .int 1), (4, .int (nI j)), (5, .int (nI i))] → W p l e rmkF_go s m args below meth c H locs 0 0 Q (F0 m 101 ls []) := by
                intro n
                induction n with
                | zero => intro i h2 H locs ls hn; exact absurd hn (Nat.not_lt_zero _)
                | succ n ih2 =>
                  intro i h2 H locs ls hn2 hi9 hW hI hl
                  have k0 : h2 (b 0) = some (.inr (7, [.ref (b 1), .ref (b 2), .ref (b 3), .long (T.1.1), .ref (b 4), .ref (b 5), .ref (b 6), .ref (b 7), .int (T.1.2.1), .ref (b 8), .int (T.1.2.2.1), .ref (b 9), .ref (b 10), .ref (b 11), .ref (b 12), .ref (b 13), .int (T.1.2.2.2), .ref (b 14)])) := hW.obj
                  have k1 : h2 (b 1) = some (.inl (E.1 0, 4000, .inl (fo_cp (T.2.2 1) (T.2.2 8) gn (100 * j) i))) := hW.arr 1 (by decide) (by decide) (by decide)
                  have k6 : h2 (b 6) = some (.inl (E.1 0, 10, .inl (T.2.2 6))) := hW.arr 6 (by decide) (by decide) (by decide)
                  have k8 : h2 (b 8) = some (.inl (E.1 0, 1000, .inl (T.2.2 8))) := hW.arr 8 (by decide) (by decide) (by decide)
                  refine lv_iload hx hb dF_goOn_101 (lv_at hl 3 rfl) ?_
                  refine lv_iload hx hb dF_goOn_103 (lv_at hl 2 rfl) ?_
                  refine ur_xi (va_runS (As := [.int (nI j)]) (rest := [.int (nI i)]) ⟨hx, hb, hml, hown, hts⟩ (kF_wordsOf l D E h2 (nI j) H.size) (va_cwS 1 hts (ur_gT mw676 mw677 mw11 mw678) rfl rfl rfl (by decide +kernel) ⟨(Nat.le_of_ble_eq_true rfl), (Nat.le_of_ble_eq_true rfl)⟩) ⟨ur_blind, ur_pre hI hO hK (fun _ _ q => q)⟩ rfl rfl hl.1 rfl (lv_room (Nat.le_of_ble_eq_true rfl)) dF_goOn_105 ⟨Nat.le_of_ble_eq_true rfl, Nat.le_of_ble_eq_true rfl⟩) hI (fun r32 h32 H locs p32 hI => ?_)
                  obtain ⟨er32, eh32⟩ := p32
                  replace eh32 := eh32.symm; subst eh32
                  replace er32 := er32.symm; subst er32
                  rw [hwn9]
                  refine lv_icmp_ge (tgt := 145) hx hb dF_goOn_108 (by decide) (fun c33 => ?_) (fun c33 => ?_)
                  · have he8 : i = wn := Nat.le_antisymm hi9 (Nat.not_lt.mp (fun z9 => nI_ge z9 (by omega) c33))
                    have hV9 := hW
                    rw [he8] at hV9
                    refine lv_goto (tgt := 7) hx hb dF_goOn_145 (by decide) ?_
                    obtain ⟨k9, rfl⟩ : ∃ z, k = z + 1 := ⟨k - 1, by have := fo_cnt_0 hj9 hc9; omega⟩
                    rw [fo_goS_s (T := T) (n := k9) (hbb.symm.trans ej9) hj9 hgn9 (by omega) hwn9 (by omega)] at hgo
                    exact ih k9 _ _ H locs ls (by omega) (by rw [fo_pa_n _ _ (by decide), fo_pa_s]; have := fo_cnt_0 hj9 hc9; omega) hV9 (fo_Gl_dlv hGT j _) hgo hI (lv_sub hl [0, 1] rfl)
                  · have hlt : i < wn := Nat.not_le.mp (fun z9 => c33 (nI_le z9 (by omega)))
                    refine lv_aload_n hx hb dF_goOn_111 rfl (lv_at hl 0 rfl) ?_
                    refine va_get (D := D) (ci := 7) (v := .ref (b 1)) (C := "UnitRoomModel") (T := TF) (N := 18) hx hb hts inF hown hV (ur_one hI.1 k0) 0 rfl rfl 0 (by decide) (hts _ mw577) (fun _ h9 => h9) rfl dF_goOn_112 ?_
                    refine lv_aload_n hx hb dF_goOn_115 rfl (lv_at hl 0 rfl) ?_
                    refine va_get (D := D) (ci := 7) (v := .ref (b 6)) (C := "UnitRoomModel") (T := TF) (N := 18) hx hb hts inF hown hV (ur_one hI.1 k0) 0 rfl rfl 6 (by decide) (hts _ mw583) (fun _ h9 => h9) rfl dF_goOn_116 ?_
                    refine lv_iload hx hb dF_goOn_119 (lv_at hl 2 rfl) ?_
                    refine va_iald hx hb hV (ur_one hI.1 k6) 0 0 rfl rfl (vp_in_nI hj9 (by decide)) dF_goOn_121 ?_
                    rw [nI_clamp (show j < 2 ^ 31 by omega), hgn9]
                    refine lv_iload hx hb dF_goOn_122 (lv_at hl 3 rfl) ?_
                    refine lv_iadd hx hb dF_goOn_124 ?_
                    rw [nI_add]
                    refine lv_aload_n hx hb dF_goOn_125 rfl (lv_at hl 0 rfl) ?_
                    refine va_get (D := D) (ci := 7) (v := .ref (b 8)) (C := "UnitRoomModel") (T := TF) (N := 18) hx hb hts inF hown hV (ur_one hI.1 k0) 0 rfl rfl 9 (by decide) (hts _ mw586) (fun _ h9 => h9) rfl dF_goOn_126 ?_
                    refine lv_bipush (v := 100) hx hb dF_goOn_129 (by decide) ?_
                    refine lv_iload hx hb dF_goOn_131 (lv_at hl 2 rfl) ?_
                    refine lv_imul hx hb dF_goOn_133 ?_
                    refine lv_iload hx hb dF_goOn_134 (lv_at hl 3 rfl) ?_
                    refine lv_iadd hx hb dF_goOn_136 ?_
                    refine va_iald hx hb hV (ur_one hI.1 k8) 0 0 rfl rfl (by rw [fo_100]; exact vp_in_nI (by omega) (by decide)) dF_goOn_137 ?_
                    refine ur_iast hx hb hV hI 0 k1 rfl (vp_in_nI (by omega) (by decide)) dF_goOn_138 (fun H locs hI => ?_)
                    obtain ⟨h34, eh34⟩ : ∃ z : ur_M, z = va_up h2 (b 1) (some (.inl (E.1 0, 4000, .inl (upd (fo_cp (T.2.2 1) (T.2.2 8) gn (100 * j) i) (Int32.toNatClampNeg (nI (gn + i))) ((T.2.2 8) (Int32.toNatClampNeg ((100 * (nI j)) + (nI i)))))))) := ⟨_, rfl⟩
                    replace hI : ur_I D vwCl (ur_A h s.heap.size) s.heap h34 H locs := by rw [eh34]; exact hI
                    have fq35 : h34 (b 0) = some (.inr (7, [.ref (b 1), .ref (b 2), .ref (b 3), .long (T.1.1), .ref (b 4), .ref (b 5), .ref (b 6), .ref (b 7), .int (T.1.2.1), .ref (b 8), .int (T.1.2.2.1), .ref (b 9), .ref (b 10), .ref (b 11), .ref (b 12), .ref (b 13), .int (T.1.2.2.2), .ref (b 14)])) := by rw [eh34]; exact ((va_up_ne _ _ (hT.ne (i := 0) (j := 1) (by decide) (by decide) (by decide))).trans k0)
                    have fq36 : h34 (b 1) = some (.inl (E.1 0, 4000, .inl (upd (fo_cp (T.2.2 1) (T.2.2 8) gn (100 * j) i) (Int32.toNatClampNeg (nI (gn + i))) ((T.2.2 8) (Int32.toNatClampNeg ((100 * (nI j)) + (nI i))))))) := by rw [eh34]; exact (va_up_self _ _ _)
                    have fq37 : h34 (b 6) = some (.inl (E.1 0, 10, .inl (T.2.2 6))) := by rw [eh34]; exact ((va_up_ne _ _ (hT.ne (i := 6) (j := 1) (by decide) (by decide) (by decide))).trans k6)
                    have fq38 : h34 (b 8) = some (.inl (E.1 0, 1000, .inl (T.2.2 8))) := by rw [eh34]; exact ((va_up_ne _ _ (hT.ne (i := 8) (j := 1) (by decide) (by decide) (by decide))).trans k8)
                    refine lv_iinc (v := ((nI i) + 1)) (lv' := [(5, .int ((nI i) + 1)), (0, .ref (b 0)), (3, .int 1), (4, .int (nI j))]) hx hb dF_goOn_139 hl (k := 3) rfl rfl (by decide) rfl (fun ls hl => ?_)
                    refine lv_goto (tgt := 101) hx hb dF_goOn_142 (by decide) ?_
                    rw [nI_1] at hl
                    exact ih2 (i + 1) _ H locs ls (by omega) hlt (by rw [eh34, nI_clamp (show gn + i < 2 ^ 31 by omega), fo_100, nI_clamp (show 100 * j + i < 2 ^ 31 by omega), fo_cp_succ]; have z9 := hW.pa 1 (fo_cp (T.2.2 1) (T.2.2 8) gn (100 * j) (i + 1)) (by decide) (by decide) (by decide); rwa [fo_pa_pa] at z9) hI (lv_sub hl [1, 2, 3, 0] rfl)
              exact lpi _ 0 _ _ _ ls (Nat.lt_succ_self _) (Nat.zero_le _) hU0 hI (lv_sub hl [2, 1, 3, 0] rfl)
          · have hlt : u < 10 := Nat.not_le.mp (fun z9 => c19 (nI_le z9 (by omega)))
            refine lv_aload_n hx hb dF_goOn_24 rfl (lv_at hl 0 rfl) ?_
            refine va_get (D := D) (ci := 7) (v := .ref (b 5)) (C := "UnitRoomModel") (T := TF) (N := 18) hx hb hts inF hown hV (ur_one hI.1 g0) 0 rfl rfl 5 (by decide) (hts _ mw582) (fun _ h9 => h9) rfl dF_goOn_25 ?_
            refine lv_iload hx hb dF_goOn_28 (lv_at hl 3 rfl) ?_
            refine va_zald hx hb hV (ur_one hI.1 g5) 0 6 rfl rfl (vp_in_nI hlt (by decide)) dF_goOn_30 ?_
            rw [nI_clamp (show u < 2 ^ 31 by omega)]
            refine lv_if_eq (tgt := 65) hx hb dF_goOn_31 (by decide) (fun c39 => ?_) (fun c39 => ?_)
            · refine lv_iload hx hb dF_goOn_65 (lv_at hl 2 rfl) ?_
              refine lv_istore (lv' := [(4, .int (fo_best (T.2.2 5) T.2.1 (T.2.2 7) T.1.1 u)), (0, .ref (b 0)), (3, .int 1), (5, .int (nI u))]) hx hb dF_goOn_67 hl (by decide) rfl (fun ls hl => ?_)
              refine lv_iinc (v := ((nI u) + 1)) (lv' := [(5, .int ((nI u) + 1)), (4, .int (fo_best (T.2.2 5) T.2.1 (T.2.2 7) T.1.1 u)), (0, .ref (b 0)), (3, .int 1)]) hx hb dF_goOn_69 hl (k := 3) rfl rfl (by decide) rfl (fun ls hl => ?_)
              refine lv_goto (tgt := 17) hx hb dF_goOn_72 (by decide) ?_
              rw [nI_1 u] at hl
              have hx9 : fo_best (T.2.2 5) T.2.1 (T.2.2 7) T.1.1 (u + 1) = fo_best (T.2.2 5) T.2.1 (T.2.2 7) T.1.1 u := by rw [fo_best, if_pos c39]
              exact ihn18 (u + 1) H locs ls (by omega) hlt hI (by rw [hx9]; exact (lv_sub hl [2, 3, 1, 0] rfl))
            · refine lv_aload_n hx hb dF_goOn_34 rfl (lv_at hl 0 rfl) ?_
              refine va_get (D := D) (ci := 7) (v := .ref (b 4)) (C := "UnitRoomModel") (T := TF) (N := 18) hx hb hts inF hown hV (ur_one hI.1 g0) 0 rfl rfl 4 (by decide) (hts _ mw581) (fun _ h9 => h9) rfl dF_goOn_35 ?_
              refine lv_iload hx hb dF_goOn_38 (lv_at hl 3 rfl) ?_
              refine va_lald hx hb hV (ur_one hI.1 g4) 0 5 rfl rfl (vp_in_nI hlt (by decide)) dF_goOn_40 ?_
              rw [nI_clamp (show u < 2 ^ 31 by omega)]
              refine lv_aload_n hx hb dF_goOn_41 rfl (lv_at hl 0 rfl) ?_
              refine va_get (D := D) (ci := 7) (v := .long (T.1.1)) (C := "UnitRoomModel") (T := TF) (N := 18) hx hb hts inF hown hV (ur_one hI.1 g0) 0 rfl rfl 3 (by decide) (hts _ mw580) (fun _ h9 => h9) rfl dF_goOn_42 ?_
              refine W.lcmp hx hb dF_goOn_45 ?_
              refine lv_if_gt (tgt := 65) hx hb dF_goOn_46 (by decide) (fun c40 => ?_) (fun c40 => ?_)
              · refine lv_iload hx hb dF_goOn_65 (lv_at hl 2 rfl) ?_
                refine lv_istore (lv' := [(4, .int (fo_best (T.2.2 5) T.2.1 (T.2.2 7) T.1.1 u)), (0, .ref (b 0)), (3, .int 1), (5, .int (nI u))]) hx hb dF_goOn_67 hl (by decide) rfl (fun ls hl => ?_)
                refine lv_iinc (v := ((nI u) + 1)) (lv' := [(5, .int ((nI u) + 1)), (4, .int (fo_best (T.2.2 5) T.2.1 (T.2.2 7) T.1.1 u)), (0, .ref (b 0)), (3, .int 1)]) hx hb dF_goOn_69 hl (k := 3) rfl rfl (by decide) rfl (fun ls hl => ?_)
                refine lv_goto (tgt := 17) hx hb dF_goOn_72 (by decide) ?_
                rw [nI_1 u] at hl
                have hx9 : fo_best (T.2.2 5) T.2.1 (T.2.2 7) T.1.1 (u + 1) = fo_best (T.2.2 5) T.2.1 (T.2.2 7) T.1.1 u := by rw [fo_best, if_neg c39, if_pos c40]
                exact ihn18 (u + 1) H locs ls (by omega) hlt hI (by rw [hx9]; exact (lv_sub hl [2, 3, 1, 0] rfl))
              · refine lv_aload_n hx hb dF_goOn_49 rfl (lv_at hl 0 rfl) ?_
                refine lv_iload hx hb dF_goOn_50 (lv_at hl 3 rfl) ?_
                refine lv_iload hx hb dF_goOn_52 (lv_at hl 2 rfl) ?_
                refine ur_xi (va_runV (As := [.int (nI u), .int (fo_best (T.2.2 5) T.2.1 (T.2.2 7) T.1.1 u)]) (rest := []) ⟨hx, hb, hml, hown, hts⟩ (kF_ahead l D E h1 (b 0) (b 1) (b 2) (b 3) (b 4) (b 5) (b 6) (b 7) (b 8) (b 9) (b 10) (b 11) (b 12) (b 13) (b 14) (T.1.1) (T.1.2.1) (T.1.2.2.1) (T.1.2.2.2) (T.2.1) (T.2.2 7) (nI u) (fo_best (T.2.2 5) T.2.1 (T.2.2 7) T.1.1 u) g0 g4 g7 (vp_in_nI hlt (by decide)) (fo_best_v _ _ _ _ u hu) H.size) (cwV 2 hts (ur_gV mw686 mw688 ms9 mw11 mw689) rfl rfl rfl (by decide +kernel) ⟨(Nat.le_of_ble_eq_true rfl), (Nat.le_of_ble_eq_true rfl)⟩) ⟨ur_blind, va_recv hV (ur_one hI.1 g0) (ci := 7) (q0 := 0) rfl rfl, ur_pre hI hO hK (fun _ _ q => q)⟩ rfl rfl hl.1 rfl (lv_room (Nat.le_of_ble_eq_true rfl)) dF_goOn_54 ⟨Nat.le_of_ble_eq_true rfl, Nat.le_of_ble_eq_true rfl⟩) hI (fun r41 h41 H locs p41 hI => ?_)
                obtain ⟨er41, eh41⟩ := p41
                replace eh41 := eh41.symm; subst eh41
                refine lv_if_eq (tgt := 65) hx hb dF_goOn_57 (by decide) (fun c42 => ?_) (fun c42 => ?_)
                · have k43 : (fo_ah (T.2.1) (T.2.2 7) (nI u) (fo_best (T.2.2 5) T.2.1 (T.2.2 7) T.1.1 u)) = false := um_b0 er41 c42
                  refine lv_iload hx hb dF_goOn_65 (lv_at hl 2 rfl) ?_
                  refine lv_istore (lv' := [(4, .int (fo_best (T.2.2 5) T.2.1 (T.2.2 7) T.1.1 u)), (0, .ref (b 0)), (3, .int 1), (5, .int (nI u))]) hx hb dF_goOn_67 hl (by decide) rfl (fun ls hl => ?_)
                  refine lv_iinc (v := ((nI u) + 1)) (lv' := [(5, .int ((nI u) + 1)), (4, .int (fo_best (T.2.2 5) T.2.1 (T.2.2 7) T.1.1 u)), (0, .ref (b 0)), (3, .int 1)]) hx hb dF_goOn_69 hl (k := 3) rfl rfl (by decide) rfl (fun ls hl => ?_)
                  refine lv_goto (tgt := 17) hx hb dF_goOn_72 (by decide) ?_
                  rw [nI_1 u] at hl
                  have hx9 : fo_best (T.2.2 5) T.2.1 (T.2.2 7) T.1.1 (u + 1) = fo_best (T.2.2 5) T.2.1 (T.2.2 7) T.1.1 u := by rw [fo_best, if_neg c39, if_neg c40, if_neg (by rw [k43]; decide)]
                  exact ihn18 (u + 1) H locs ls (by omega) hlt hI (by rw [hx9]; exact (lv_sub hl [2, 3, 1, 0] rfl))
                · have k44 : (fo_ah (T.2.1) (T.2.2 7) (nI u) (fo_best (T.2.2 5) T.2.1 (T.2.2 7) T.1.1 u)) = true := um_b1 er41 c42
                  refine lv_iload hx hb dF_goOn_60 (lv_at hl 3 rfl) ?_
                  refine lv_goto (tgt := 67) hx hb dF_goOn_62 (by decide) ?_
                  refine lv_istore (lv' := [(4, .int (nI u)), (0, .ref (b 0)), (3, .int 1), (5, .int (nI u))]) hx hb dF_goOn_67 hl (by decide) rfl (fun ls hl => ?_)
                  refine lv_iinc (v := ((nI u) + 1)) (lv' := [(5, .int ((nI u) + 1)), (4, .int (nI u)), (0, .ref (b 0)), (3, .int 1)]) hx hb dF_goOn_69 hl (k := 3) rfl rfl (by decide) rfl (fun ls hl => ?_)
                  refine lv_goto (tgt := 17) hx hb dF_goOn_72 (by decide) ?_
                  rw [nI_1 u] at hl
                  have hx9 : fo_best (T.2.2 5) T.2.1 (T.2.2 7) T.1.1 (u + 1) = nI u := by rw [fo_best, if_neg c39, if_neg c40, if_pos k44]
                  exact ihn18 (u + 1) H locs ls (by omega) hlt hI (by rw [hx9]; exact (lv_sub hl [2, 3, 1, 0] rfl))
      exact lpn18 _ 0 _ _ ls (Nat.lt_succ_self _) (by decide) hI (lv_sub hl [2, 3, 1, 0] rfl)
  exact lpg _ 10 _ _ _ _ ls (Nat.lt_succ_self _) (fo_cnt_le _ _) hR1 hG rfl hI (lv_sub hl [1, 0] rfl)
def fo_add (n : Int32) : Int64 := if 0 ≤ n then (if n ≤ 10000 then n.toInt64 else (10000 : Int32).toInt64) else (0 : Int32).toInt64
theorem fo_goS_1 : ∀ (n : Nat) (T : fo_S), (fo_goS T n).1 = T.1 := by
  intro n
  induction n with
  | zero => intro T; rfl
  | succ n ih =>
    intro T
    rw [fo_goS]
    by_cases c : fo_best (T.2.2 5) T.2.1 (T.2.2 7) T.1.1 10 < 0
    · rw [if_pos c]
    · rw [if_neg c, ih]; rfl
theorem dF_pass_0 : decode cF_pass 0 = .ok (.aload_n 0, 1) := by decide +kernel
theorem dF_pass_1 : decode cF_pass 1 = .ok (.aload_n 0, 1) := by decide +kernel
theorem dF_pass_2 : decode cF_pass 2 = .ok (.getfield 83, 3) := by decide +kernel
theorem dF_pass_5 : decode cF_pass 5 = .ok (.iload_n 1, 1) := by decide +kernel
theorem dF_pass_6 : decode cF_pass 6 = .ok (.ifCond .ge 7, 3) := by decide +kernel
theorem dF_pass_9 : decode cF_pass 9 = .ok (.iconst 0, 1) := by decide +kernel
theorem dF_pass_10 : decode cF_pass 10 = .ok (.goto 17, 3) := by decide +kernel
theorem dF_pass_13 : decode cF_pass 13 = .ok (.iload_n 1, 1) := by decide +kernel
theorem dF_pass_14 : decode cF_pass 14 = .ok (.sipush 10000, 3) := by decide +kernel
theorem dF_pass_17 : decode cF_pass 17 = .ok (.if_icmp .le 9, 3) := by decide +kernel
theorem dF_pass_20 : decode cF_pass 20 = .ok (.sipush 10000, 3) := by decide +kernel
theorem dF_pass_23 : decode cF_pass 23 = .ok (.goto 4, 3) := by decide +kernel
theorem dF_pass_26 : decode cF_pass 26 = .ok (.iload_n 1, 1) := by decide +kernel
theorem dF_pass_27 : decode cF_pass 27 = .ok (.i2l, 1) := by decide +kernel
theorem dF_pass_28 : decode cF_pass 28 = .ok (.ladd, 1) := by decide +kernel
theorem dF_pass_29 : decode cF_pass 29 = .ok (.invokevirtual 109, 3) := by decide +kernel
theorem dF_pass_32 : decode cF_pass 32 = .ok (.aload_n 0, 1) := by decide +kernel
theorem dF_pass_33 : decode cF_pass 33 = .ok (.getfield 83, 3) := by decide +kernel
theorem dF_pass_36 : decode cF_pass 36 = .ok (.lreturn, 1) := by decide +kernel
abbrev rmkF_pass : Room := { frames := 2, cells := 0, slots := 0, locals := 47 }
set_option maxHeartbeats 4000000 in
set_option maxRecDepth 100000 in
theorem kF_pass (l : Launch) (D : va_G) (E : ur_Ev) (h : ur_M) (b : Nat → Nat) (T : fo_S) (n : Int32)  (hT : fo_R E b T h) (hG : fo_Gl T) : ur_Ml l yF_pass wsF_pass rmkF_pass D vwCl (ur_v E) [.ref (b 0), .int n] h (fun r h2 => r = T.1.1 + fo_add n ∧ fo_R E b (fo_goS (fo_po T (T.1.1 + fo_add n, T.1.2)) 10) h2) 0 0 := by
  intro sz
  refine ur_of (cc := cF_pass) (maxL := 2) (ret := (some .long)) (by decide) rfl (Nat.le_of_ble_eq_true rfl) ?_
  intro p e s m args below meth c ls Q hsz hx hb hml hr hlocks hnm hown hts hO hK hI hQ hl
  subst hsz
  have hV := hK.1
  have hts : ∀ w ∈ ur_G, w.before args s = true := fun w hw => hts w (List.mem_cons_of_mem _ hw)
  have hZ : ur_Z E (ur_A h s.heap.size) s s.heap := hO.1
  have hown : s.vm.findClass "UnitRoomModel" = some m.cls := hown
  have hl : lv_has ls 2 [(0, .ref (b 0)), (1, .int n)] := hl
  have g0 : h (b 0) = some (.inr (7, [.ref (b 1), .ref (b 2), .ref (b 3), .long (T.1.1), .ref (b 4), .ref (b 5), .ref (b 6), .ref (b 7), .int (T.1.2.1), .ref (b 8), .int (T.1.2.2.1), .ref (b 9), .ref (b 10), .ref (b 11), .ref (b 12), .ref (b 13), .int (T.1.2.2.2), .ref (b 14)])) := hT.obj
  have g1 : h (b 1) = some (.inl (E.1 0, 4000, .inl (T.2.2 1))) := hT.arr 1 (by decide) (by decide) (by decide)
  have g2 : h (b 2) = some (.inl (E.1 0, 38400, .inl (T.2.2 2))) := hT.arr 2 (by decide) (by decide) (by decide)
  have g3 : h (b 3) = some (.inl (E.1 0, 4, .inl (T.2.2 3))) := hT.arr 3 (by decide) (by decide) (by decide)
  have g4 : h (b 4) = some (.inl (E.1 5, 10, .inr (.inl (T.2.1)))) := hT.frees
  have g5 : h (b 5) = some (.inl (E.1 6, 10, .inl (T.2.2 5))) := hT.arr 5 (by decide) (by decide) (by decide)
  have g6 : h (b 6) = some (.inl (E.1 0, 10, .inl (T.2.2 6))) := hT.arr 6 (by decide) (by decide) (by decide)
  have g7 : h (b 7) = some (.inl (E.1 0, 10, .inl (T.2.2 7))) := hT.arr 7 (by decide) (by decide) (by decide)
  have g8 : h (b 8) = some (.inl (E.1 0, 1000, .inl (T.2.2 8))) := hT.arr 8 (by decide) (by decide) (by decide)
  have g9 : h (b 9) = some (.inl (E.1 0, 8000, .inl (T.2.2 9))) := hT.arr 9 (by decide) (by decide) (by decide)
  have g10 : h (b 10) = some (.inl (E.1 0, 3, .inl (T.2.2 10))) := hT.arr 10 (by decide) (by decide) (by decide)
  have g11 : h (b 11) = some (.inl (E.1 0, 900, .inl (T.2.2 11))) := hT.arr 11 (by decide) (by decide) (by decide)
  have g12 : h (b 12) = some (.inl (E.1 1, 108000, .inl (T.2.2 12))) := hT.arr 12 (by decide) (by decide) (by decide)
  have g13 : h (b 13) = some (.inl (E.1 0, 400, .inl (T.2.2 13))) := hT.arr 13 (by decide) (by decide) (by decide)
  have g14 : h (b 14) = some (.inl (E.1 0, 56, .inl (T.2.2 14))) := hT.arr 14 (by decide) (by decide) (by decide)
  refine lv_aload_n hx hb dF_pass_0 rfl (lv_at hl 0 rfl) ?_
  refine lv_aload_n hx hb dF_pass_1 rfl (lv_at hl 0 rfl) ?_
  refine va_get (D := D) (ci := 7) (v := .long (T.1.1)) (C := "UnitRoomModel") (T := TF) (N := 18) hx hb hts inF hown hV (ur_one hI.1 g0) 0 rfl rfl 3 (by decide) (hts _ mw580) (fun _ h9 => h9) rfl dF_pass_2 ?_
  refine lv_iload_n hx hb dF_pass_5 rfl (lv_at hl 1 rfl) ?_
  refine lv_if_ge (tgt := 13) hx hb dF_pass_6 (by decide) (fun c1 => ?_) (fun c1 => ?_)
  · refine lv_iload_n hx hb dF_pass_13 rfl (lv_at hl 1 rfl) ?_
    refine lv_sipush (v := 10000) hx hb dF_pass_14 (by decide) ?_
    refine lv_icmp_le (tgt := 26) hx hb dF_pass_17 (by decide) (fun c2 => ?_) (fun c2 => ?_)
    · refine lv_iload_n hx hb dF_pass_26 rfl (lv_at hl 1 rfl) ?_
      refine lv_i2l hx hb dF_pass_27 rfl ?_
      rw [show (n.toInt64) = fo_add n by unfold fo_add; rw [if_pos c1, if_pos c2]]
      refine lv_ladd hx hb dF_pass_28 ?_
      refine ur_xv (va_runV (As := [.long ((T.1.1) + (fo_add n))]) (rest := []) ⟨hx, hb, hml, hown, hts⟩ (kF_go l D E h b T ((T.1.1) + (fo_add n)) hT hG s.heap.size) (cwV 1 hts (ur_gV mw682 mw684 ms8 mw11 mw685) rfl rfl rfl (by decide +kernel) ⟨(Nat.le_of_ble_eq_true rfl), (Nat.le_of_ble_eq_true rfl)⟩) ⟨ur_blind, va_recv hV (ur_one hI.1 g0) (ci := 7) (q0 := 0) rfl rfl, ur_pre hI hO hK (fun _ _ q => q)⟩ rfl rfl hl.1 rfl (lv_room (Nat.le_of_ble_eq_true rfl)) dF_pass_29 ⟨Nat.le_of_ble_eq_true rfl, Nat.le_of_ble_eq_true rfl⟩) hI (fun h3 H locs p3 hI => ?_)
      have hT9 : fo_R E b (fo_goS (fo_po T (((T.1.1) + (fo_add n)), T.1.2)) 10) h3 := p3
      have g9 : h3 (b 0) = some (.inr (7, [.ref (b 1), .ref (b 2), .ref (b 3), .long (T.1.1 + fo_add n), .ref (b 4), .ref (b 5), .ref (b 6), .ref (b 7), .int (T.1.2.1), .ref (b 8), .int (T.1.2.2.1), .ref (b 9), .ref (b 10), .ref (b 11), .ref (b 12), .ref (b 13), .int (T.1.2.2.2), .ref (b 14)])) := by have z9 := hT9.obj; rw [fo_goS_1] at z9; exact z9
      refine lv_aload_n hx hb dF_pass_32 rfl (lv_at hl 0 rfl) ?_
      refine va_get (D := D) (ci := 7) (v := .long (T.1.1 + fo_add n)) (C := "UnitRoomModel") (T := TF) (N := 18) hx hb hts inF hown hV (ur_one hI.1 g9) 0 rfl rfl 3 (by decide) (hts _ mw580) (fun _ h9 => h9) rfl dF_pass_33 ?_
      exact ur_rl hx hb hr hlocks hI hQ ⟨rfl, hT9⟩ dF_pass_36
    · refine lv_sipush (v := 10000) hx hb dF_pass_20 (by decide) ?_
      refine lv_goto (tgt := 27) hx hb dF_pass_23 (by decide) ?_
      refine lv_i2l hx hb dF_pass_27 rfl ?_
      rw [show ((10000 : Int32).toInt64) = fo_add n by unfold fo_add; rw [if_pos c1, if_neg c2]]
      refine lv_ladd hx hb dF_pass_28 ?_
      refine ur_xv (va_runV (As := [.long ((T.1.1) + (fo_add n))]) (rest := []) ⟨hx, hb, hml, hown, hts⟩ (kF_go l D E h b T ((T.1.1) + (fo_add n)) hT hG s.heap.size) (cwV 1 hts (ur_gV mw682 mw684 ms8 mw11 mw685) rfl rfl rfl (by decide +kernel) ⟨(Nat.le_of_ble_eq_true rfl), (Nat.le_of_ble_eq_true rfl)⟩) ⟨ur_blind, va_recv hV (ur_one hI.1 g0) (ci := 7) (q0 := 0) rfl rfl, ur_pre hI hO hK (fun _ _ q => q)⟩ rfl rfl hl.1 rfl (lv_room (Nat.le_of_ble_eq_true rfl)) dF_pass_29 ⟨Nat.le_of_ble_eq_true rfl, Nat.le_of_ble_eq_true rfl⟩) hI (fun h4 H locs p4 hI => ?_)
      have hT9 : fo_R E b (fo_goS (fo_po T (((T.1.1) + (fo_add n)), T.1.2)) 10) h4 := p4
      have g9 : h4 (b 0) = some (.inr (7, [.ref (b 1), .ref (b 2), .ref (b 3), .long (T.1.1 + fo_add n), .ref (b 4), .ref (b 5), .ref (b 6), .ref (b 7), .int (T.1.2.1), .ref (b 8), .int (T.1.2.2.1), .ref (b 9), .ref (b 10), .ref (b 11), .ref (b 12), .ref (b 13), .int (T.1.2.2.2), .ref (b 14)])) := by have z9 := hT9.obj; rw [fo_goS_1] at z9; exact z9
      refine lv_aload_n hx hb dF_pass_32 rfl (lv_at hl 0 rfl) ?_
      refine va_get (D := D) (ci := 7) (v := .long (T.1.1 + fo_add n)) (C := "UnitRoomModel") (T := TF) (N := 18) hx hb hts inF hown hV (ur_one hI.1 g9) 0 rfl rfl 3 (by decide) (hts _ mw580) (fun _ h9 => h9) rfl dF_pass_33 ?_
      exact ur_rl hx hb hr hlocks hI hQ ⟨rfl, hT9⟩ dF_pass_36
  · refine lv_iconst (v := 0) hx hb dF_pass_9 (by decide) ?_
    refine lv_goto (tgt := 27) hx hb dF_pass_10 (by decide) ?_
    refine lv_i2l hx hb dF_pass_27 rfl ?_
    rw [show ((0 : Int32).toInt64) = fo_add n by unfold fo_add; rw [if_neg c1]]
    refine lv_ladd hx hb dF_pass_28 ?_
    refine ur_xv (va_runV (As := [.long ((T.1.1) + (fo_add n))]) (rest := []) ⟨hx, hb, hml, hown, hts⟩ (kF_go l D E h b T ((T.1.1) + (fo_add n)) hT hG s.heap.size) (cwV 1 hts (ur_gV mw682 mw684 ms8 mw11 mw685) rfl rfl rfl (by decide +kernel) ⟨(Nat.le_of_ble_eq_true rfl), (Nat.le_of_ble_eq_true rfl)⟩) ⟨ur_blind, va_recv hV (ur_one hI.1 g0) (ci := 7) (q0 := 0) rfl rfl, ur_pre hI hO hK (fun _ _ q => q)⟩ rfl rfl hl.1 rfl (lv_room (Nat.le_of_ble_eq_true rfl)) dF_pass_29 ⟨Nat.le_of_ble_eq_true rfl, Nat.le_of_ble_eq_true rfl⟩) hI (fun h5 H locs p5 hI => ?_)
    have hT9 : fo_R E b (fo_goS (fo_po T (((T.1.1) + (fo_add n)), T.1.2)) 10) h5 := p5
    have g9 : h5 (b 0) = some (.inr (7, [.ref (b 1), .ref (b 2), .ref (b 3), .long (T.1.1 + fo_add n), .ref (b 4), .ref (b 5), .ref (b 6), .ref (b 7), .int (T.1.2.1), .ref (b 8), .int (T.1.2.2.1), .ref (b 9), .ref (b 10), .ref (b 11), .ref (b 12), .ref (b 13), .int (T.1.2.2.2), .ref (b 14)])) := by have z9 := hT9.obj; rw [fo_goS_1] at z9; exact z9
    refine lv_aload_n hx hb dF_pass_32 rfl (lv_at hl 0 rfl) ?_
    refine va_get (D := D) (ci := 7) (v := .long (T.1.1 + fo_add n)) (C := "UnitRoomModel") (T := TF) (N := 18) hx hb hts inF hown hV (ur_one hI.1 g9) 0 rfl rfl 3 (by decide) (hts _ mw580) (fun _ h9 => h9) rfl dF_pass_33 ?_
    exact ur_rl hx hb hr hlocks hI hQ ⟨rfl, hT9⟩ dF_pass_36
