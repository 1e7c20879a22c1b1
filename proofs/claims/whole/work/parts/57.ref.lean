theorem dF_writeLine_0 : decode cF_writeLine 0 = .ok (.sipush 300, 3) := by decide +kernel
theorem dF_writeLine_3 : decode cF_writeLine 3 = .ok (.iload_n 1, 1) := by decide +kernel
theorem dF_writeLine_4 : decode cF_writeLine 4 = .ok (.bipush 7, 2) := by decide +kernel
theorem dF_writeLine_6 : decode cF_writeLine 6 = .ok (.isub, 1) := by decide +kernel
theorem dF_writeLine_7 : decode cF_writeLine 7 = .ok (.imul, 1) := by decide +kernel
theorem dF_writeLine_8 : decode cF_writeLine 8 = .ok (.aload_n 0, 1) := by decide +kernel
theorem dF_writeLine_9 : decode cF_writeLine 9 = .ok (.getfield 40, 3) := by decide +kernel
theorem dF_writeLine_12 : decode cF_writeLine 12 = .ok (.iload_n 1, 1) := by decide +kernel
theorem dF_writeLine_13 : decode cF_writeLine 13 = .ok (.bipush 7, 2) := by decide +kernel
theorem dF_writeLine_15 : decode cF_writeLine 15 = .ok (.isub, 1) := by decide +kernel
theorem dF_writeLine_16 : decode cF_writeLine 16 = .ok (.iaload, 1) := by decide +kernel
theorem dF_writeLine_17 : decode cF_writeLine 17 = .ok (.iadd, 1) := by decide +kernel
theorem dF_writeLine_18 : decode cF_writeLine 18 = .ok (.istore_n 3, 1) := by decide +kernel
theorem dF_writeLine_19 : decode cF_writeLine 19 = .ok (.aload_n 0, 1) := by decide +kernel
theorem dF_writeLine_20 : decode cF_writeLine 20 = .ok (.getfield 40, 3) := by decide +kernel
theorem dF_writeLine_23 : decode cF_writeLine 23 = .ok (.iload_n 1, 1) := by decide +kernel
theorem dF_writeLine_24 : decode cF_writeLine 24 = .ok (.bipush 7, 2) := by decide +kernel
theorem dF_writeLine_26 : decode cF_writeLine 26 = .ok (.isub, 1) := by decide +kernel
theorem dF_writeLine_27 : decode cF_writeLine 27 = .ok (.iaload, 1) := by decide +kernel
theorem dF_writeLine_28 : decode cF_writeLine 28 = .ok (.sipush 300, 3) := by decide +kernel
theorem dF_writeLine_31 : decode cF_writeLine 31 = .ok (.if_icmp .ne 4, 3) := by decide +kernel
theorem dF_writeLine_34 : decode cF_writeLine 34 = .ok (.return_, 1) := by decide +kernel
theorem dF_writeLine_35 : decode cF_writeLine 35 = .ok (.aload_n 0, 1) := by decide +kernel
theorem dF_writeLine_36 : decode cF_writeLine 36 = .ok (.getfield 40, 3) := by decide +kernel
theorem dF_writeLine_39 : decode cF_writeLine 39 = .ok (.iload_n 1, 1) := by decide +kernel
theorem dF_writeLine_40 : decode cF_writeLine 40 = .ok (.bipush 7, 2) := by decide +kernel
theorem dF_writeLine_42 : decode cF_writeLine 42 = .ok (.isub, 1) := by decide +kernel
theorem dF_writeLine_43 : decode cF_writeLine 43 = .ok (.dup2, 1) := by decide +kernel
theorem dF_writeLine_44 : decode cF_writeLine 44 = .ok (.iaload, 1) := by decide +kernel
theorem dF_writeLine_45 : decode cF_writeLine 45 = .ok (.iconst 1, 1) := by decide +kernel
theorem dF_writeLine_46 : decode cF_writeLine 46 = .ok (.iadd, 1) := by decide +kernel
theorem dF_writeLine_47 : decode cF_writeLine 47 = .ok (.iastore, 1) := by decide +kernel
theorem dF_writeLine_48 : decode cF_writeLine 48 = .ok (.iconst 0, 1) := by decide +kernel
theorem dF_writeLine_49 : decode cF_writeLine 49 = .ok (.istore 4, 2) := by decide +kernel
theorem dF_writeLine_51 : decode cF_writeLine 51 = .ok (.iconst 0, 1) := by decide +kernel
theorem dF_writeLine_52 : decode cF_writeLine 52 = .ok (.istore 5, 2) := by decide +kernel
theorem dF_writeLine_54 : decode cF_writeLine 54 = .ok (.iload 5, 2) := by decide +kernel
theorem dF_writeLine_56 : decode cF_writeLine 56 = .ok (.iconst 5, 1) := by decide +kernel
theorem dF_writeLine_57 : decode cF_writeLine 57 = .ok (.iload_n 1, 1) := by decide +kernel
theorem dF_writeLine_58 : decode cF_writeLine 58 = .ok (.invokestatic 74, 3) := by decide +kernel
theorem dF_writeLine_61 : decode cF_writeLine 61 = .ok (.imul, 1) := by decide +kernel
theorem dF_writeLine_62 : decode cF_writeLine 62 = .ok (.if_icmp .ge 73, 3) := by decide +kernel
theorem dF_writeLine_65 : decode cF_writeLine 65 = .ok (.aload_n 0, 1) := by decide +kernel
theorem dF_writeLine_66 : decode cF_writeLine 66 = .ok (.aload_n 0, 1) := by decide +kernel
theorem dF_writeLine_67 : decode cF_writeLine 67 = .ok (.getfield 7, 3) := by decide +kernel
theorem dF_writeLine_70 : decode cF_writeLine 70 = .ok (.iload_n 2, 1) := by decide +kernel
theorem dF_writeLine_71 : decode cF_writeLine 71 = .ok (.iload 5, 2) := by decide +kernel
theorem dF_writeLine_73 : decode cF_writeLine 73 = .ok (.iconst 5, 1) := by decide +kernel
theorem dF_writeLine_74 : decode cF_writeLine 74 = .ok (.idiv, 1) := by decide +kernel
theorem dF_writeLine_75 : decode cF_writeLine 75 = .ok (.iadd, 1) := by decide +kernel
theorem dF_writeLine_76 : decode cF_writeLine 76 = .ok (.iaload, 1) := by decide +kernel
theorem dF_writeLine_77 : decode cF_writeLine 77 = .ok (.bipush 24, 2) := by decide +kernel
theorem dF_writeLine_79 : decode cF_writeLine 79 = .ok (.bipush 6, 2) := by decide +kernel
theorem dF_writeLine_81 : decode cF_writeLine 81 = .ok (.iload 5, 2) := by decide +kernel
theorem dF_writeLine_83 : decode cF_writeLine 83 = .ok (.iconst 5, 1) := by decide +kernel
theorem dF_writeLine_84 : decode cF_writeLine 84 = .ok (.irem, 1) := by decide +kernel
theorem dF_writeLine_85 : decode cF_writeLine 85 = .ok (.imul, 1) := by decide +kernel
theorem dF_writeLine_86 : decode cF_writeLine 86 = .ok (.isub, 1) := by decide +kernel
theorem dF_writeLine_87 : decode cF_writeLine 87 = .ok (.ishr, 1) := by decide +kernel
theorem dF_writeLine_88 : decode cF_writeLine 88 = .ok (.bipush 63, 2) := by decide +kernel
theorem dF_writeLine_90 : decode cF_writeLine 90 = .ok (.iand, 1) := by decide +kernel
theorem dF_writeLine_91 : decode cF_writeLine 91 = .ok (.invokevirtual 94, 3) := by decide +kernel
theorem dF_writeLine_94 : decode cF_writeLine 94 = .ok (.istore 6, 2) := by decide +kernel
theorem dF_writeLine_96 : decode cF_writeLine 96 = .ok (.aload_n 0, 1) := by decide +kernel
theorem dF_writeLine_97 : decode cF_writeLine 97 = .ok (.getfield 47, 3) := by decide +kernel
theorem dF_writeLine_100 : decode cF_writeLine 100 = .ok (.bipush 120, 2) := by decide +kernel
theorem dF_writeLine_102 : decode cF_writeLine 102 = .ok (.iload_n 3, 1) := by decide +kernel
theorem dF_writeLine_103 : decode cF_writeLine 103 = .ok (.imul, 1) := by decide +kernel
theorem dF_writeLine_104 : decode cF_writeLine 104 = .ok (.iload 5, 2) := by decide +kernel
theorem dF_writeLine_106 : decode cF_writeLine 106 = .ok (.iadd, 1) := by decide +kernel
theorem dF_writeLine_107 : decode cF_writeLine 107 = .ok (.iload 6, 2) := by decide +kernel
theorem dF_writeLine_109 : decode cF_writeLine 109 = .ok (.i2b, 1) := by decide +kernel
theorem dF_writeLine_110 : decode cF_writeLine 110 = .ok (.bastore, 1) := by decide +kernel
theorem dF_writeLine_111 : decode cF_writeLine 111 = .ok (.iload 6, 2) := by decide +kernel
theorem dF_writeLine_113 : decode cF_writeLine 113 = .ok (.bipush 32, 2) := by decide +kernel
theorem dF_writeLine_115 : decode cF_writeLine 115 = .ok (.if_icmp .ne 8, 3) := by decide +kernel
theorem dF_writeLine_118 : decode cF_writeLine 118 = .ok (.iload 4, 2) := by decide +kernel
theorem dF_writeLine_120 : decode cF_writeLine 120 = .ok (.goto 7, 3) := by decide +kernel
theorem dF_writeLine_123 : decode cF_writeLine 123 = .ok (.iload 5, 2) := by decide +kernel
theorem dF_writeLine_125 : decode cF_writeLine 125 = .ok (.iconst 1, 1) := by decide +kernel
theorem dF_writeLine_126 : decode cF_writeLine 126 = .ok (.iadd, 1) := by decide +kernel
theorem dF_writeLine_127 : decode cF_writeLine 127 = .ok (.istore 4, 2) := by decide +kernel
theorem dF_writeLine_129 : decode cF_writeLine 129 = .ok (.iinc 5 1, 3) := by decide +kernel
theorem dF_writeLine_132 : decode cF_writeLine 132 = .ok (.goto (-78), 3) := by decide +kernel
theorem dF_writeLine_135 : decode cF_writeLine 135 = .ok (.aload_n 0, 1) := by decide +kernel
theorem dF_writeLine_136 : decode cF_writeLine 136 = .ok (.getfield 43, 3) := by decide +kernel
theorem dF_writeLine_139 : decode cF_writeLine 139 = .ok (.iload_n 3, 1) := by decide +kernel
theorem dF_writeLine_140 : decode cF_writeLine 140 = .ok (.iload 4, 2) := by decide +kernel
theorem dF_writeLine_142 : decode cF_writeLine 142 = .ok (.iastore, 1) := by decide +kernel
theorem dF_writeLine_143 : decode cF_writeLine 143 = .ok (.return_, 1) := by decide +kernel
abbrev rmkF_wl : Room := { frames := 2, cells := 0, slots := 0, locals := 43 }
set_option maxHeartbeats 4000000 in
set_option maxRecDepth 100000 in
theorem kF_wl (l : Launch) (D : va_G) (E : ur_Ev) (h : ur_M) (q : Nat) (b1 : Nat) (b2 : Nat) (b3 : Nat) (b4 : Nat) (b5 : Nat) (b6 : Nat) (b7 : Nat) (b8 : Nat) (b9 : Nat) (b10 : Nat) (b11 : Nat) (b12 : Nat) (b13 : Nat) (b14 : Nat) (ti : Int64) (ops : Int32) (cds : Int32) (tsz : Int32) (l0 : Nat) (kn : Nat) (mn : Nat) (g_memory : Nat → Int32) (g_alphabet : Nat → Int32) (g_lines : Nat → Int32) (g_lengths : Nat → Int32) (g_letters : Nat → Int32) (f0 : h q = some (.inr (7, [.ref b1, .ref b2, .ref b3, .long ti, .ref b4, .ref b5, .ref b6, .ref b7, .int ops, .ref b8, .int cds, .ref b9, .ref b10, .ref b11, .ref b12, .ref b13, .int tsz, .ref b14]))) (f1 : h b1 = some (.inl (E.1 0, 4000, .inl g_memory))) (f2 : h b14 = some (.inl (E.1 0, 56, .inl g_alphabet))) (f3 : h b10 = some (.inl (E.1 0, 3, .inl g_lines))) (f4 : h b11 = some (.inl (E.1 0, 900, .inl g_lengths))) (f5 : h b12 = some (.inl (E.1 1, 108000, .inl g_letters))) (hl0 : l0 < 3) (h1 : g_lines l0 = nI kn) (hm : mn + fo_W l0 ≤ 4000) (hk : kn < 300) : ur_Mv l yF_writeLine wsF_writeLine rmkF_wl D vwCl (ur_v E) [.ref q, .int (nI (7 + l0)), .int (nI mn)] h (fun h2 => h2 = va_up (va_up (va_up h b10 (some (.inl (E.1 0, 3, .inl (upd g_lines l0 (nI (kn + 1))))))) b12 (some (.inl (E.1 1, 108000, .inl (fo_wl g_letters g_alphabet g_memory mn (300 * l0 + kn) (5 * fo_W l0)))))) b11 (some (.inl (E.1 0, 900, .inl (upd g_lengths (300 * l0 + kn) (fo_wn g_alphabet g_memory mn (5 * fo_W l0))))))) 0 0 := by
  intro sz
  refine ur_of (cc := cF_writeLine) (maxL := 7) (ret := none) (by decide) rfl (Nat.le_of_ble_eq_true rfl) ?_
  intro p e s m args below meth c ls Q hsz hx hb hml hr hlocks hnm hown hts hO hK hI hQ hl
  subst hsz
  have hV := hK.1
  have hts : ∀ w ∈ ur_G, w.before args s = true := fun w hw => hts w (List.mem_cons_of_mem _ hw)
  have hZ : ur_Z E (ur_A h s.heap.size) s s.heap := hO.1
  have hown : s.vm.findClass "UnitRoomModel" = some m.cls := hown
  have hl : lv_has ls 7 [(0, .ref q), (1, .int (nI (7 + l0))), (2, .int (nI mn))] := hl
  refine lv_sipush (v := 300) hx hb dF_writeLine_0 (by decide) ?_
  refine lv_iload_n hx hb dF_writeLine_3 rfl (lv_at hl 1 rfl) ?_
  refine lv_bipush (v := 7) hx hb dF_writeLine_4 (by decide) ?_
  refine lv_isub hx hb dF_writeLine_6 ?_
  rw [fo_7]
  refine lv_imul hx hb dF_writeLine_7 ?_
  refine lv_aload_n hx hb dF_writeLine_8 rfl (lv_at hl 0 rfl) ?_
  refine va_get (D := D) (ci := 7) (v := .ref b10) (C := "UnitRoomModel") (T := TF) (N := 18) hx hb hts inF hown hV (ur_one hI.1 f0) 0 rfl rfl 12 (by decide) (hts _ mw589) (fun _ h9 => h9) rfl dF_writeLine_9 ?_
  refine lv_iload_n hx hb dF_writeLine_12 rfl (lv_at hl 1 rfl) ?_
  refine lv_bipush (v := 7) hx hb dF_writeLine_13 (by decide) ?_
  refine lv_isub hx hb dF_writeLine_15 ?_
  rw [fo_7]
  refine va_iald hx hb hV (ur_one hI.1 f3) 0 0 rfl rfl (vp_in_nI hl0 (by decide)) dF_writeLine_16 ?_
  rw [nI_clamp (show l0 < 2 ^ 31 by omega), h1]
  refine lv_iadd hx hb dF_writeLine_17 ?_
  rw [fo_300l]
  refine lv_istore_n (lv' := [(3, .int (nI (300 * l0 + kn))), (0, .ref q), (1, .int (nI (7 + l0))), (2, .int (nI mn))]) hx hb dF_writeLine_18 rfl hl (by decide) rfl (fun ls hl => ?_)
  refine lv_aload_n hx hb dF_writeLine_19 rfl (lv_at hl 1 rfl) ?_
  refine va_get (D := D) (ci := 7) (v := .ref b10) (C := "UnitRoomModel") (T := TF) (N := 18) hx hb hts inF hown hV (ur_one hI.1 f0) 0 rfl rfl 12 (by decide) (hts _ mw589) (fun _ h9 => h9) rfl dF_writeLine_20 ?_
  refine lv_iload_n hx hb dF_writeLine_23 rfl (lv_at hl 2 rfl) ?_
  refine lv_bipush (v := 7) hx hb dF_writeLine_24 (by decide) ?_
  refine lv_isub hx hb dF_writeLine_26 ?_
  rw [fo_7]
  refine va_iald hx hb hV (ur_one hI.1 f3) 0 0 rfl rfl (vp_in_nI hl0 (by decide)) dF_writeLine_27 ?_
  rw [nI_clamp (show l0 < 2 ^ 31 by omega), h1]
  refine lv_sipush (v := 300) hx hb dF_writeLine_28 (by decide) ?_
  refine lv_icmp_ne (tgt := 35) hx hb dF_writeLine_31 (by decide) (fun c1 => ?_) (fun c1 => absurd c1 (fun z9 => absurd ((nI_eq (a := kn) (b := 300) (by omega) (by decide)).mp z9) (by omega)))
  refine lv_aload_n hx hb dF_writeLine_35 rfl (lv_at hl 1 rfl) ?_
  refine va_get (D := D) (ci := 7) (v := .ref b10) (C := "UnitRoomModel") (T := TF) (N := 18) hx hb hts inF hown hV (ur_one hI.1 f0) 0 rfl rfl 12 (by decide) (hts _ mw589) (fun _ h9 => h9) rfl dF_writeLine_36 ?_
  refine lv_iload_n hx hb dF_writeLine_39 rfl (lv_at hl 2 rfl) ?_
  refine lv_bipush (v := 7) hx hb dF_writeLine_40 (by decide) ?_
  refine lv_isub hx hb dF_writeLine_42 ?_
  rw [fo_7]
  refine lv_dup2_11 hx hb dF_writeLine_43 rfl rfl ?_
  refine va_iald hx hb hV (ur_one hI.1 f3) 0 0 rfl rfl (vp_in_nI hl0 (by decide)) dF_writeLine_44 ?_
  rw [nI_clamp (show l0 < 2 ^ 31 by omega), h1]
  refine lv_iconst (v := 1) hx hb dF_writeLine_45 (by decide) ?_
  refine lv_iadd hx hb dF_writeLine_46 ?_
  refine ur_iast hx hb hV hI 0 f3 rfl (vp_in_nI hl0 (by decide)) dF_writeLine_47 (fun H locs hI => ?_)
  obtain ⟨h2, eh2⟩ : ∃ z : ur_M, z = va_up h b10 (some (.inl (E.1 0, 3, .inl (upd g_lines (Int32.toNatClampNeg (nI l0)) ((nI kn) + 1))))) := ⟨_, rfl⟩
  replace hI : ur_I D vwCl (ur_A h s.heap.size) s.heap h2 H locs := by rw [eh2]; exact hI
  have fq3 : h2 q = some (.inr (7, [.ref b1, .ref b2, .ref b3, .long ti, .ref b4, .ref b5, .ref b6, .ref b7, .int ops, .ref b8, .int cds, .ref b9, .ref b10, .ref b11, .ref b12, .ref b13, .int tsz, .ref b14])) := by rw [eh2]; exact ((va_up_ne _ _ (ur_ne f0 f3 (by intro z; simp at z))).trans f0)
  have fq4 : h2 b1 = some (.inl (E.1 0, 4000, .inl g_memory)) := by rw [eh2]; exact ((va_up_ne _ _ (ur_ne f1 f3 (by intro z; simp at z))).trans f1)
  have fq5 : h2 b14 = some (.inl (E.1 0, 56, .inl g_alphabet)) := by rw [eh2]; exact ((va_up_ne _ _ (ur_ne f2 f3 (by intro z; simp at z))).trans f2)
  have fq6 : h2 b10 = some (.inl (E.1 0, 3, .inl (upd g_lines (Int32.toNatClampNeg (nI l0)) ((nI kn) + 1)))) := by rw [eh2]; exact (va_up_self _ _ _)
  have fq7 : h2 b11 = some (.inl (E.1 0, 900, .inl g_lengths)) := by rw [eh2]; exact ((va_up_ne _ _ (ur_ne f4 f3 (by intro z; simp at z))).trans f4)
  have fq8 : h2 b12 = some (.inl (E.1 1, 108000, .inl g_letters)) := by rw [eh2]; exact ((va_up_ne _ _ (ur_ne f5 f3 (by intro z; simp at z))).trans f5)
  refine lv_iconst (v := 0) hx hb dF_writeLine_48 (by decide) ?_
  refine lv_istore (lv' := [(4, .int 0), (3, .int (nI (300 * l0 + kn))), (0, .ref q), (1, .int (nI (7 + l0))), (2, .int (nI mn))]) hx hb dF_writeLine_49 hl (by decide) rfl (fun ls hl => ?_)
  refine lv_iconst (v := 0) hx hb dF_writeLine_51 (by decide) ?_
  refine lv_istore (lv' := [(5, .int 0), (4, .int 0), (3, .int (nI (300 * l0 + kn))), (0, .ref q), (1, .int (nI (7 + l0))), (2, .int (nI mn))]) hx hb dF_writeLine_52 hl (by decide) rfl (fun ls hl => ?_)
  have hh9 : h2 = va_up h b10 (some (.inl (E.1 0, 3, .inl (upd g_lines l0 (nI (kn + 1)))))) := by rw [eh2, nI_clamp (show l0 < 2 ^ 31 by omega), nI_1]
  have g1 := fq8
  rw [hh9] at g1
  have lpn9 : ∀ (n9 : Nat) (k : Nat) (hn9 : ur_M) (H : Heap) (locs : List Loc) (ls : Array Slot), 5 * fo_W l0 - k < n9 → (k ≤ 5 * fo_W l0) → hn9 = va_up (va_up h b10 (some (.inl (E.1 0, 3, .inl (upd g_lines l0 (nI (kn + 1))))))) b12 (some (.inl (E.1 1, 108000, .inl (fo_wl g_letters g_alphabet g_memory mn (300 * l0 + kn) k)))) → ur_I D vwCl (ur_A h s.heap.size) s.heap hn9 H locs → lv_has ls 7 [(0, .ref q), (1, .int (nI (7 + l0))), (2, .int (nI mn)), (3, .int (nI (300 * l0 + kn))), (4, .int (fo_wn g_alphabet g_memory mn k)), (5, .int (nI k))] → W p l e rmkF_wl s m args below meth c H locs 0 0 Q (F0 m 54 ls []) := by
    intro n9
    induction n9 with
    | zero => intro k hn9 H locs ls hnn9; exact absurd hnn9 (Nat.not_lt_zero _)
    | succ n9 ihn9 =>
      intro k hn9 H locs ls hnn9 hkk ehn9 hI hl
      have fq10 : hn9 q = some (.inr (7, [.ref b1, .ref b2, .ref b3, .long ti, .ref b4, .ref b5, .ref b6, .ref b7, .int ops, .ref b8, .int cds, .ref b9, .ref b10, .ref b11, .ref b12, .ref b13, .int tsz, .ref b14])) := by rw [ehn9]; exact (va_up_ne _ _ (ur_ne f0 f5 (by intro z; simp at z))).trans ((va_up_ne _ _ (ur_ne f0 f3 (by intro z; simp at z))).trans f0)
      have fq11 : hn9 b1 = some (.inl (E.1 0, 4000, .inl g_memory)) := by rw [ehn9]; exact (va_up_ne _ _ (ur_ne f1 f5 (by intro z; simp at z))).trans ((va_up_ne _ _ (ur_ne f1 f3 (by intro z; simp at z))).trans f1)
      have fq12 : hn9 b14 = some (.inl (E.1 0, 56, .inl g_alphabet)) := by rw [ehn9]; exact (va_up_ne _ _ (ur_ne f2 f5 (by intro z; simp at z))).trans ((va_up_ne _ _ (ur_ne f2 f3 (by intro z; simp at z))).trans f2)
      have fq13 : hn9 b11 = some (.inl (E.1 0, 900, .inl g_lengths)) := by rw [ehn9]; exact (va_up_ne _ _ (ur_ne f4 f5 (by intro z; simp at z))).trans ((va_up_ne _ _ (ur_ne f4 f3 (by intro z; simp at z))).trans f4)
      have fq14 : hn9 b10 = some (.inl (E.1 0, 3, .inl (upd g_lines l0 (nI (kn + 1))))) := by rw [ehn9]; exact (va_up_ne _ _ (ur_ne f3 f5 (by intro z; simp at z))).trans (va_up_self _ _ _)
      have fq15 : hn9 b12 = some (.inl (E.1 1, 108000, .inl (fo_wl g_letters g_alphabet g_memory mn (300 * l0 + kn) k))) := by rw [ehn9]; exact va_up_self _ _ _
      have hW9 := (fo_W_e l0 hl0).2
      refine lv_iload hx hb dF_writeLine_54 (lv_at hl 5 rfl) ?_
      refine lv_iconst (v := 5) hx hb dF_writeLine_56 (by decide) ?_
      refine lv_iload_n hx hb dF_writeLine_57 rfl (lv_at hl 1 rfl) ?_
      refine ur_xi (va_runS (As := [.int (nI (7 + l0))]) (rest := [.int 5, .int (nI k)]) ⟨hx, hb, hml, hown, hts⟩ (kF_wordsOf l D E hn9 (nI (7 + l0)) H.size) (va_cwS 1 hts (ur_gT mw676 mw677 mw11 mw678) rfl rfl rfl (by decide +kernel) ⟨(Nat.le_of_ble_eq_true rfl), (Nat.le_of_ble_eq_true rfl)⟩) ⟨ur_blind, ur_pre hI hO hK (fun _ _ q => q)⟩ rfl rfl hl.1 rfl (lv_room (Nat.le_of_ble_eq_true rfl)) dF_writeLine_58 ⟨Nat.le_of_ble_eq_true rfl, Nat.le_of_ble_eq_true rfl⟩) hI (fun r16 h16 H locs p16 hI => ?_)
      obtain ⟨er16, eh16⟩ := p16
      replace eh16 := eh16.symm; subst eh16
      replace er16 := er16.symm; subst er16
      refine lv_imul hx hb dF_writeLine_61 ?_
      rw [(fo_W_e l0 hl0).1]
      have hW9 := (fo_W_e l0 hl0).2
      refine lv_icmp_ge (tgt := 135) hx hb dF_writeLine_62 (by decide) (fun c17 => ?_) (fun c17 => ?_)
      · have he9 : k = 5 * fo_W l0 := Nat.le_antisymm hkk (Nat.not_lt.mp (fun z9 => nI_ge z9 (by omega) c17))
        refine lv_aload_n hx hb dF_writeLine_135 rfl (lv_at hl 0 rfl) ?_
        refine va_get (D := D) (ci := 7) (v := .ref b11) (C := "UnitRoomModel") (T := TF) (N := 18) hx hb hts inF hown hV (ur_one hI.1 fq10) 0 rfl rfl 13 (by decide) (hts _ mw590) (fun _ h9 => h9) rfl dF_writeLine_136 ?_
        refine lv_iload_n hx hb dF_writeLine_139 rfl (lv_at hl 3 rfl) ?_
        refine lv_iload hx hb dF_writeLine_140 (lv_at hl 4 rfl) ?_
        refine ur_iast hx hb hV hI 0 fq13 rfl (vp_in_nI (by omega) (by decide)) dF_writeLine_142 (fun H locs hI => ?_)
        obtain ⟨h18, eh18⟩ : ∃ z : ur_M, z = va_up hn9 b11 (some (.inl (E.1 0, 900, .inl (upd g_lengths (Int32.toNatClampNeg (nI (300 * l0 + kn))) (fo_wn g_alphabet g_memory mn k))))) := ⟨_, rfl⟩
        replace hI : ur_I D vwCl (ur_A h s.heap.size) s.heap h18 H locs := by rw [eh18]; exact hI
        have fq19 : h18 q = some (.inr (7, [.ref b1, .ref b2, .ref b3, .long ti, .ref b4, .ref b5, .ref b6, .ref b7, .int ops, .ref b8, .int cds, .ref b9, .ref b10, .ref b11, .ref b12, .ref b13, .int tsz, .ref b14])) := by rw [eh18]; exact ((va_up_ne _ _ (ur_ne fq10 fq13 (by intro z; simp at z))).trans fq10)
        have fq20 : h18 b1 = some (.inl (E.1 0, 4000, .inl g_memory)) := by rw [eh18]; exact ((va_up_ne _ _ (ur_ne fq11 fq13 (by intro z; simp at z))).trans fq11)
        have fq21 : h18 b14 = some (.inl (E.1 0, 56, .inl g_alphabet)) := by rw [eh18]; exact ((va_up_ne _ _ (ur_ne fq12 fq13 (by intro z; simp at z))).trans fq12)
        have fq22 : h18 b11 = some (.inl (E.1 0, 900, .inl (upd g_lengths (Int32.toNatClampNeg (nI (300 * l0 + kn))) (fo_wn g_alphabet g_memory mn k)))) := by rw [eh18]; exact (va_up_self _ _ _)
        have fq23 : h18 b10 = some (.inl (E.1 0, 3, .inl (upd g_lines l0 (nI (kn + 1))))) := by rw [eh18]; exact ((va_up_ne _ _ (ur_ne fq14 fq13 (by intro z; simp at z))).trans fq14)
        have fq24 : h18 b12 = some (.inl (E.1 1, 108000, .inl (fo_wl g_letters g_alphabet g_memory mn (300 * l0 + kn) k))) := by rw [eh18]; exact ((va_up_ne _ _ (ur_ne fq15 fq13 (by intro z; simp at z))).trans fq15)
        exact ur_rv hx hb hr hlocks hI hQ (by rw [eh18, ehn9, he9, nI_clamp (show (300 * l0 + kn) < 2 ^ 31 by omega)]) dF_writeLine_143
      · have hlt : k < 5 * fo_W l0 := Nat.not_le.mp (fun z9 => c17 (nI_le z9 (by omega)))
        refine lv_aload_n hx hb dF_writeLine_65 rfl (lv_at hl 0 rfl) ?_
        refine lv_aload_n hx hb dF_writeLine_66 rfl (lv_at hl 0 rfl) ?_
        refine va_get (D := D) (ci := 7) (v := .ref b1) (C := "UnitRoomModel") (T := TF) (N := 18) hx hb hts inF hown hV (ur_one hI.1 fq10) 0 rfl rfl 0 (by decide) (hts _ mw577) (fun _ h9 => h9) rfl dF_writeLine_67 ?_
        refine lv_iload_n hx hb dF_writeLine_70 rfl (lv_at hl 2 rfl) ?_
        refine lv_iload hx hb dF_writeLine_71 (lv_at hl 5 rfl) ?_
        refine lv_iconst (v := 5) hx hb dF_writeLine_73 (by decide) ?_
        refine lv_idiv hx hb dF_writeLine_74 (by decide) ?_
        refine lv_iadd hx hb dF_writeLine_75 ?_
        refine va_iald hx hb hV (ur_one hI.1 fq11) 0 0 rfl rfl (by rw [fo_d5 (by omega), nI_add]; exact vp_in_nI (by omega) (by decide)) dF_writeLine_76 ?_
        refine lv_bipush (v := 24) hx hb dF_writeLine_77 (by decide) ?_
        refine lv_bipush (v := 6) hx hb dF_writeLine_79 (by decide) ?_
        refine lv_iload hx hb dF_writeLine_81 (lv_at hl 5 rfl) ?_
        refine lv_iconst (v := 5) hx hb dF_writeLine_83 (by decide) ?_
        refine lv_irem hx hb dF_writeLine_84 (by decide) ?_
        refine lv_imul hx hb dF_writeLine_85 ?_
        refine lv_isub hx hb dF_writeLine_86 ?_
        refine lv_ishr hx hb dF_writeLine_87 ?_
        refine lv_bipush (v := 63) hx hb dF_writeLine_88 (by decide) ?_
        refine lv_iand hx hb dF_writeLine_90 ?_
        refine ur_xi (va_runV (As := [.int (((g_memory (Int32.toNatClampNeg ((nI mn) + ((nI k) / 5)))) >>> ((24 - (6 * ((nI k) - (nI k) / 5 * 5))) &&& 31)) &&& 63)]) (rest := []) ⟨hx, hb, hml, hown, hts⟩ (kF_letterOf l D E hn9 q b1 b2 b3 b4 b5 b6 b7 b8 b9 b10 b11 b12 b13 b14 ti ops cds tsz g_alphabet (((g_memory (Int32.toNatClampNeg ((nI mn) + ((nI k) / 5)))) >>> ((24 - (6 * ((nI k) - (nI k) / 5 * 5))) &&& 31)) &&& 63) fq10 fq12 H.size) (cwV 1 hts (ur_gV mw718 mw720 ms16 mw11 mw721) rfl rfl rfl (by decide +kernel) ⟨(Nat.le_of_ble_eq_true rfl), (Nat.le_of_ble_eq_true rfl)⟩) ⟨ur_blind, va_recv hV (ur_one hI.1 fq10) (ci := 7) (q0 := 0) rfl rfl, ur_pre hI hO hK (fun _ _ q => q)⟩ rfl rfl hl.1 rfl (lv_room (Nat.le_of_ble_eq_true rfl)) dF_writeLine_91 ⟨Nat.le_of_ble_eq_true rfl, Nat.le_of_ble_eq_true rfl⟩) hI (fun r25 h25 H locs p25 hI => ?_)
        obtain ⟨er25, eh25⟩ := p25
        replace eh25 := eh25.symm; subst eh25
        replace er25 := er25.symm; subst er25
        refine lv_topi (fun x9 ex9 => ?_)
        replace ex9 : x9 = fo_wc g_alphabet g_memory mn k := by rw [ex9]; unfold fo_wc; rw [fo_d5 (k := k) (by omega), nI_add, nI_clamp (show mn + k / 5 < 2 ^ 31 by omega)]
        subst ex9
        refine lv_istore (lv' := [(6, .int (fo_wc g_alphabet g_memory mn k)), (0, .ref q), (1, .int (nI (7 + l0))), (2, .int (nI mn)), (3, .int (nI (300 * l0 + kn))), (4, .int (fo_wn g_alphabet g_memory mn k)), (5, .int (nI k))]) hx hb dF_writeLine_94 hl (by decide) rfl (fun ls hl => ?_)
        refine lv_aload_n hx hb dF_writeLine_96 rfl (lv_at hl 1 rfl) ?_
        refine va_get (D := D) (ci := 7) (v := .ref b12) (C := "UnitRoomModel") (T := TF) (N := 18) hx hb hts inF hown hV (ur_one hI.1 fq10) 0 rfl rfl 14 (by decide) (hts _ mw591) (fun _ h9 => h9) rfl dF_writeLine_97 ?_
        refine lv_bipush (v := 120) hx hb dF_writeLine_100 (by decide) ?_
        refine lv_iload_n hx hb dF_writeLine_102 rfl (lv_at hl 4 rfl) ?_
        refine lv_imul hx hb dF_writeLine_103 ?_
        refine lv_iload hx hb dF_writeLine_104 (lv_at hl 6 rfl) ?_
        refine lv_iadd hx hb dF_writeLine_106 ?_
        refine lv_iload hx hb dF_writeLine_107 (lv_at hl 0 rfl) ?_
        refine lv_i2b hx hb dF_writeLine_109 rfl ?_
        refine ur_bast hx hb hV hI 1 fq15 rfl (by rw [fo_120k]; exact vp_in_nI (by omega) (by decide)) dF_writeLine_110 (fun H locs hI => ?_)
        obtain ⟨h26, eh26⟩ : ∃ z : ur_M, z = va_up hn9 b12 (some (.inl (E.1 1, 108000, .inl (upd (fo_wl g_letters g_alphabet g_memory mn (300 * l0 + kn) k) (Int32.toNatClampNeg ((120 * (nI (300 * l0 + kn))) + (nI k))) (vp_nar .byte ((fo_wc g_alphabet g_memory mn k).toInt8.toInt32)))))) := ⟨_, rfl⟩
        replace hI : ur_I D vwCl (ur_A h s.heap.size) s.heap h26 H locs := by rw [eh26]; exact hI
        have fq27 : h26 q = some (.inr (7, [.ref b1, .ref b2, .ref b3, .long ti, .ref b4, .ref b5, .ref b6, .ref b7, .int ops, .ref b8, .int cds, .ref b9, .ref b10, .ref b11, .ref b12, .ref b13, .int tsz, .ref b14])) := by rw [eh26]; exact ((va_up_ne _ _ (ur_ne fq10 fq15 (by intro z; simp at z))).trans fq10)
        have fq28 : h26 b1 = some (.inl (E.1 0, 4000, .inl g_memory)) := by rw [eh26]; exact ((va_up_ne _ _ (ur_ne fq11 fq15 (by intro z; simp at z))).trans fq11)
        have fq29 : h26 b14 = some (.inl (E.1 0, 56, .inl g_alphabet)) := by rw [eh26]; exact ((va_up_ne _ _ (ur_ne fq12 fq15 (by intro z; simp at z))).trans fq12)
        have fq30 : h26 b11 = some (.inl (E.1 0, 900, .inl g_lengths)) := by rw [eh26]; exact ((va_up_ne _ _ (ur_ne fq13 fq15 (by intro z; simp at z))).trans fq13)
        have fq31 : h26 b10 = some (.inl (E.1 0, 3, .inl (upd g_lines l0 (nI (kn + 1))))) := by rw [eh26]; exact ((va_up_ne _ _ (ur_ne fq14 fq15 (by intro z; simp at z))).trans fq14)
        have fq32 : h26 b12 = some (.inl (E.1 1, 108000, .inl (upd (fo_wl g_letters g_alphabet g_memory mn (300 * l0 + kn) k) (Int32.toNatClampNeg ((120 * (nI (300 * l0 + kn))) + (nI k))) (vp_nar .byte ((fo_wc g_alphabet g_memory mn k).toInt8.toInt32))))) := by rw [eh26]; exact (va_up_self _ _ _)
        refine lv_iload hx hb dF_writeLine_111 (lv_at hl 0 rfl) ?_
        refine lv_bipush (v := 32) hx hb dF_writeLine_113 (by decide) ?_
        refine lv_icmp_ne (tgt := 123) hx hb dF_writeLine_115 (by decide) (fun c33 => ?_) (fun c33 => ?_)
        · refine lv_iload hx hb dF_writeLine_123 (lv_at hl 6 rfl) ?_
          refine lv_iconst (v := 1) hx hb dF_writeLine_125 (by decide) ?_
          refine lv_iadd hx hb dF_writeLine_126 ?_
          refine lv_istore (lv' := [(4, .int ((nI k) + 1)), (6, .int (fo_wc g_alphabet g_memory mn k)), (0, .ref q), (1, .int (nI (7 + l0))), (2, .int (nI mn)), (3, .int (nI (300 * l0 + kn))), (5, .int (nI k))]) hx hb dF_writeLine_127 hl (by decide) rfl (fun ls hl => ?_)
          refine lv_iinc (v := ((nI k) + 1)) (lv' := [(5, .int ((nI k) + 1)), (4, .int ((nI k) + 1)), (6, .int (fo_wc g_alphabet g_memory mn k)), (0, .ref q), (1, .int (nI (7 + l0))), (2, .int (nI mn)), (3, .int (nI (300 * l0 + kn)))]) hx hb dF_writeLine_129 hl (k := 6) rfl rfl (by decide) rfl (fun ls hl => ?_)
          refine lv_goto (tgt := 54) hx hb dF_writeLine_132 (by decide) ?_
          rw [nI_1 k] at hl
          have hx9 : fo_wn g_alphabet g_memory mn (k + 1) = nI (k + 1) := by rw [fo_wn, if_neg c33]; exact nI_1 k
          exact ihn9 (k + 1) h26 H locs ls (by omega) hlt (by rw [eh26, ehn9, bx_uu, fo_120k, nI_clamp (show 120 * (300 * l0 + kn) + k < 2 ^ 31 by omega)]; rfl) hI (by rw [hx9]; exact (lv_sub hl [3, 4, 5, 6, 1, 0] rfl))
        · refine lv_iload hx hb dF_writeLine_118 (lv_at hl 5 rfl) ?_
          refine lv_goto (tgt := 127) hx hb dF_writeLine_120 (by decide) ?_
          refine lv_istore (lv' := [(4, .int (fo_wn g_alphabet g_memory mn k)), (6, .int (fo_wc g_alphabet g_memory mn k)), (0, .ref q), (1, .int (nI (7 + l0))), (2, .int (nI mn)), (3, .int (nI (300 * l0 + kn))), (5, .int (nI k))]) hx hb dF_writeLine_127 hl (by decide) rfl (fun ls hl => ?_)
          refine lv_iinc (v := ((nI k) + 1)) (lv' := [(5, .int ((nI k) + 1)), (4, .int (fo_wn g_alphabet g_memory mn k)), (6, .int (fo_wc g_alphabet g_memory mn k)), (0, .ref q), (1, .int (nI (7 + l0))), (2, .int (nI mn)), (3, .int (nI (300 * l0 + kn)))]) hx hb dF_writeLine_129 hl (k := 6) rfl rfl (by decide) rfl (fun ls hl => ?_)
          refine lv_goto (tgt := 54) hx hb dF_writeLine_132 (by decide) ?_
          rw [nI_1] at hl
          have hx9 : fo_wn g_alphabet g_memory mn (k + 1) = fo_wn g_alphabet g_memory mn k := by rw [fo_wn, if_pos c33]
          exact ihn9 (k + 1) h26 H locs ls (by omega) hlt (by rw [eh26, ehn9, bx_uu, fo_120k, nI_clamp (show 120 * (300 * l0 + kn) + k < 2 ^ 31 by omega)]; rfl) hI (by rw [hx9]; exact (lv_sub hl [3, 4, 5, 6, 1, 0] rfl))
  exact lpn9 _ 0 h2 _ _ ls (Nat.lt_succ_self _) (Nat.zero_le _) ((by rw [show fo_wl g_letters g_alphabet g_memory mn (300 * l0 + kn) 0 = g_letters from rfl, ur_same g1]; exact hh9)) hI (lv_sub hl [3, 4, 5, 2, 1, 0] rfl)
abbrev rmkF_wlF : Room := { frames := 0, cells := 0, slots := 0, locals := 0 }
set_option maxHeartbeats 4000000 in
set_option maxRecDepth 100000 in
theorem kF_wlF (l : Launch) (D : va_G) (E : ur_Ev) (h : ur_M) (q : Nat) (b1 : Nat) (b2 : Nat) (b3 : Nat) (b4 : Nat) (b5 : Nat) (b6 : Nat) (b7 : Nat) (b8 : Nat) (b9 : Nat) (b10 : Nat) (b11 : Nat) (b12 : Nat) (b13 : Nat) (b14 : Nat) (ti : Int64) (ops : Int32) (cds : Int32) (tsz : Int32) (l0 : Nat) (kn : Nat) (mn : Nat) (g_memory : Nat → Int32) (g_alphabet : Nat → Int32) (g_lines : Nat → Int32) (g_lengths : Nat → Int32) (g_letters : Nat → Int32) (f0 : h q = some (.inr (7, [.ref b1, .ref b2, .ref b3, .long ti, .ref b4, .ref b5, .ref b6, .ref b7, .int ops, .ref b8, .int cds, .ref b9, .ref b10, .ref b11, .ref b12, .ref b13, .int tsz, .ref b14]))) (f1 : h b1 = some (.inl (E.1 0, 4000, .inl g_memory))) (f2 : h b14 = some (.inl (E.1 0, 56, .inl g_alphabet))) (f3 : h b10 = some (.inl (E.1 0, 3, .inl g_lines))) (f4 : h b11 = some (.inl (E.1 0, 900, .inl g_lengths))) (f5 : h b12 = some (.inl (E.1 1, 108000, .inl g_letters))) (hl0 : l0 < 3) (h1 : g_lines l0 = nI kn) (hm : mn + fo_W l0 ≤ 4000) (hk : kn = 300) : ur_Mv l yF_writeLine wsF_writeLine rmkF_wlF D vwCl (ur_v E) [.ref q, .int (nI (7 + l0)), .int (nI mn)] h (fun h2 => h2 = h) 0 0 := by
  intro sz
  refine ur_of (cc := cF_writeLine) (maxL := 7) (ret := none) (by decide) rfl (Nat.le_of_ble_eq_true rfl) ?_
  intro p e s m args below meth c ls Q hsz hx hb hml hr hlocks hnm hown hts hO hK hI hQ hl
  subst hsz
  have hV := hK.1
  have hts : ∀ w ∈ ur_G, w.before args s = true := fun w hw => hts w (List.mem_cons_of_mem _ hw)
  have hZ : ur_Z E (ur_A h s.heap.size) s s.heap := hO.1
  have hown : s.vm.findClass "UnitRoomModel" = some m.cls := hown
  have hl : lv_has ls 7 [(0, .ref q), (1, .int (nI (7 + l0))), (2, .int (nI mn))] := hl
  refine lv_sipush (v := 300) hx hb dF_writeLine_0 (by decide) ?_
  refine lv_iload_n hx hb dF_writeLine_3 rfl (lv_at hl 1 rfl) ?_
  refine lv_bipush (v := 7) hx hb dF_writeLine_4 (by decide) ?_
  refine lv_isub hx hb dF_writeLine_6 ?_
  rw [fo_7]
  refine lv_imul hx hb dF_writeLine_7 ?_
  refine lv_aload_n hx hb dF_writeLine_8 rfl (lv_at hl 0 rfl) ?_
  refine va_get (D := D) (ci := 7) (v := .ref b10) (C := "UnitRoomModel") (T := TF) (N := 18) hx hb hts inF hown hV (ur_one hI.1 f0) 0 rfl rfl 12 (by decide) (hts _ mw589) (fun _ h9 => h9) rfl dF_writeLine_9 ?_
  refine lv_iload_n hx hb dF_writeLine_12 rfl (lv_at hl 1 rfl) ?_
  refine lv_bipush (v := 7) hx hb dF_writeLine_13 (by decide) ?_
  refine lv_isub hx hb dF_writeLine_15 ?_
  rw [fo_7]
  refine va_iald hx hb hV (ur_one hI.1 f3) 0 0 rfl rfl (vp_in_nI hl0 (by decide)) dF_writeLine_16 ?_
  rw [nI_clamp (show l0 < 2 ^ 31 by omega), h1]
  refine lv_iadd hx hb dF_writeLine_17 ?_
  rw [fo_300l]
  refine lv_istore_n (lv' := [(3, .int (nI (300 * l0 + kn))), (0, .ref q), (1, .int (nI (7 + l0))), (2, .int (nI mn))]) hx hb dF_writeLine_18 rfl hl (by decide) rfl (fun ls hl => ?_)
  refine lv_aload_n hx hb dF_writeLine_19 rfl (lv_at hl 1 rfl) ?_
  refine va_get (D := D) (ci := 7) (v := .ref b10) (C := "UnitRoomModel") (T := TF) (N := 18) hx hb hts inF hown hV (ur_one hI.1 f0) 0 rfl rfl 12 (by decide) (hts _ mw589) (fun _ h9 => h9) rfl dF_writeLine_20 ?_
  refine lv_iload_n hx hb dF_writeLine_23 rfl (lv_at hl 2 rfl) ?_
  refine lv_bipush (v := 7) hx hb dF_writeLine_24 (by decide) ?_
  refine lv_isub hx hb dF_writeLine_26 ?_
  rw [fo_7]
  refine va_iald hx hb hV (ur_one hI.1 f3) 0 0 rfl rfl (vp_in_nI hl0 (by decide)) dF_writeLine_27 ?_
  rw [nI_clamp (show l0 < 2 ^ 31 by omega), h1]
  refine lv_sipush (v := 300) hx hb dF_writeLine_28 (by decide) ?_
  refine lv_icmp_ne (tgt := 35) hx hb dF_writeLine_31 (by decide) (fun c1 => absurd c1 (not_not_intro (by rw [hk]; rfl))) (fun c1 => ?_)
  exact ur_rv hx hb hr hlocks hI hQ rfl dF_writeLine_34
