set_option maxHeartbeats 4000000 in
set_option maxRecDepth 100000 in
/-- feed -/
theorem lw_c0 {p : Program} {e : Env} {s : State} {m : MethodId} {below : List Frame} {meth : Method} {c : Code} (l : Launch) {b0 L : Nat} {xs : Nat → Int32} {D : va_G} {E : ur_Ev} {Q : State → Prop} (hx : p.tables.exec = Jvm.exec) (hb : c.code = code) (hml : c.maxLocals = 4) (hown : s.vm.findClass "UnitRoomLaw" = some m.cls) (hts : ∀ w ∈ ur_G, w.before #[Value.ref b0] s = true) (hX : va_X b0 L xs s s.heap) (hbl : b0 < s.heap.size) (hbA : ¬ ur_A (fun _ => none) s.heap.size b0) (hK : ur_K D vwCl (ur_v E) s) (hO : ur_O (ur_v E) (ur_A (fun _ => none) s.heap.size) s s.heap) (hL3 : L ≤ 3072) {q : Nat} {b : Nat → Nat} {n : Nat} (hi : 6 * n + 6 ≤ L) (next : ∀ (H : Heap) (locs : List Loc) (ls : Array Slot), lw_W D E s q b (n + 1) H locs → lv_has ls 4 [(0, .ref b0), (1, .ref q), (2, .ref (b 0)), (3, .int (nI (6 * n)))] → W p l e room_1 s m #[Value.ref b0] below meth c H locs (51 + (n + 1)) (169226 + 120 * (n + 1)) Q (F0 m 529 ls [])) {H : Heap} {locs : List Loc} {ls : Array Slot} (hw : lw_W D E s q b n H locs) (hl : lv_has ls 4 [(0, .ref b0), (1, .ref q), (2, .ref (b 0)), (3, .int (nI (6 * n)))]) : W p l e room_1 s m #[Value.ref b0] below meth c H locs (51 + n) (169226 + 120 * n) Q (F0 m 96 ls []) := by
  obtain ⟨hC, hF, S, T, ⟨a, rfl, hA, hR⟩, hT, hL, hdj, hI⟩ := hw
  have hV := hK.1
  have g0 : hC (a.1 20 0) = some (.inr (0, [.ref (a.1 20 1), .ref (a.1 20 3), .ref (a.1 16 0), .ref (a.1 20 5), .long (lN (S.1 20 2)), .int (nI (S.1 20 0))])) := hR.core rfl
  have k0 : hF (b 0) = some (.inr (7, [.ref (b 1), .ref (b 2), .ref (b 3), .long (T.1.1), .ref (b 4), .ref (b 5), .ref (b 6), .ref (b 7), .int (T.1.2.1), .ref (b 8), .int (T.1.2.2.1), .ref (b 9), .ref (b 10), .ref (b 11), .ref (b 12), .ref (b 13), .int (T.1.2.2.2), .ref (b 14)])) := hT.obj
  by_cases hcs : S.1 20 1 ≤ 380
  · refine lv_aload_n hx hb dL_law_96 rfl (lv_at hl 1 rfl) ?_
    refine lv_aload_n hx hb dL_law_97 rfl (lv_at hl 0 rfl) ?_
    refine lv_iload_n hx hb dL_law_98 rfl (lv_at hl 3 rfl) ?_
    refine lv_iconst (v := 1) hx hb dL_law_99 (by decide) ?_
    refine lv_iadd hx hb dL_law_100 ?_
    refine va_sld hx hb hX hbl hbA hI.2.2.1 (i := ((nI (6 * n)) + 1)) (by rw [show (1 : Int32) = nI 1 from rfl, nI_add]; exact vp_in_nI (by omega) (by omega)) dL_law_101 ?_
    refine lv_aload_n hx hb dL_law_102 rfl (lv_at hl 0 rfl) ?_
    refine lv_iload_n hx hb dL_law_103 rfl (lv_at hl 3 rfl) ?_
    refine lv_iconst (v := 2) hx hb dL_law_104 (by decide) ?_
    refine lv_iadd hx hb dL_law_105 ?_
    refine va_sld hx hb hX hbl hbA hI.2.2.1 (i := ((nI (6 * n)) + 2)) (by rw [show (2 : Int32) = nI 2 from rfl, nI_add]; exact vp_in_nI (by omega) (by omega)) dL_law_106 ?_
    refine lv_aload_n hx hb dL_law_107 rfl (lv_at hl 0 rfl) ?_
    refine lv_iload_n hx hb dL_law_108 rfl (lv_at hl 3 rfl) ?_
    refine lv_iconst (v := 3) hx hb dL_law_109 (by decide) ?_
    refine lv_iadd hx hb dL_law_110 ?_
    refine va_sld hx hb hX hbl hbA hI.2.2.1 (i := ((nI (6 * n)) + 3)) (by rw [show (3 : Int32) = nI 3 from rfl, nI_add]; exact vp_in_nI (by omega) (by omega)) dL_law_111 ?_
    refine lv_aload_n hx hb dL_law_112 rfl (lv_at hl 0 rfl) ?_
    refine lv_iload_n hx hb dL_law_113 rfl (lv_at hl 3 rfl) ?_
    refine lv_iconst (v := 4) hx hb dL_law_114 (by decide) ?_
    refine lv_iadd hx hb dL_law_115 ?_
    refine va_sld hx hb hX hbl hbA hI.2.2.1 (i := ((nI (6 * n)) + 4)) (by rw [show (4 : Int32) = nI 4 from rfl, nI_add]; exact vp_in_nI (by omega) (by omega)) dL_law_116 ?_
    refine lv_aload_n hx hb dL_law_117 rfl (lv_at hl 0 rfl) ?_
    refine lv_iload_n hx hb dL_law_118 rfl (lv_at hl 3 rfl) ?_
    refine lv_iconst (v := 5) hx hb dL_law_119 (by decide) ?_
    refine lv_iadd hx hb dL_law_120 ?_
    refine va_sld hx hb hX hbl hbA hI.2.2.1 (i := ((nI (6 * n)) + 5)) (by rw [show (5 : Int32) = nI 5 from rfl, nI_add]; exact vp_in_nI (by omega) (by omega)) dL_law_121 ?_
    refine ur_ci (h1 := hC) (va_runV (As := [.int (xs (Int32.toNatClampNeg ((nI (6 * n)) + 1))), .int (xs (Int32.toNatClampNeg ((nI (6 * n)) + 2))), .int (xs (Int32.toNatClampNeg ((nI (6 * n)) + 3))), .int (xs (Int32.toNatClampNeg ((nI (6 * n)) + 4))), .int (xs (Int32.toNatClampNeg ((nI (6 * n)) + 5)))]) (rest := []) ⟨hx, hb, hml, hown, hts⟩ (lU_feed l D hR hA hL (show n ≤ 600 by omega) (xs (Int32.toNatClampNeg ((nI (6 * n)) + 1))) (xs (Int32.toNatClampNeg ((nI (6 * n)) + 2))) (xs (Int32.toNatClampNeg ((nI (6 * n)) + 3))) (xs (Int32.toNatClampNeg ((nI (6 * n)) + 4))) (xs (Int32.toNatClampNeg ((nI (6 * n)) + 5)))  H.size) (cwV 5 hts (ur_gV mw189 mw190 mw191 mw1 mw192) rfl rfl rfl (by decide +kernel) ⟨(Nat.le_of_ble_eq_true rfl), (Nat.le_of_ble_eq_true rfl)⟩) ⟨ur_blind, va_recv hV (ur_one hI.1 (lw_unL g0)) (ci := 0) (q0 := 0) rfl rfl, ur_pre hI hO hK (fun _ _ z9 => lw_unL z9)⟩ rfl rfl hl.1 rfl (lv_room (Nat.le_of_ble_eq_true rfl)) dL_law_122 ⟨(by show _ ≤ 600000; omega), (by show _ ≤ 7302250; omega)⟩) hI (fun _ _ z9 => lw_unL z9) (fun r1 h1 H locs p9 ap9 hI => ?_)
    obtain ⟨hdj, em9⟩ := lw_upC hdj ap9
    rw [em9] at hI
    obtain ⟨er1, a9, ha9, hA9, hR9⟩ := p9
    refine lv_aload_n hx hb dL_law_125 rfl (lv_at hl 2 rfl) ?_
    refine lv_aload_n hx hb dL_law_126 rfl (lv_at hl 0 rfl) ?_
    refine lv_iload_n hx hb dL_law_127 rfl (lv_at hl 3 rfl) ?_
    refine lv_iconst (v := 1) hx hb dL_law_128 (by decide) ?_
    refine lv_iadd hx hb dL_law_129 ?_
    refine va_sld hx hb hX hbl hbA hI.2.2.1 (i := ((nI (6 * n)) + 1)) (by rw [show (1 : Int32) = nI 1 from rfl, nI_add]; exact vp_in_nI (by omega) (by omega)) dL_law_130 ?_
    refine lv_aload_n hx hb dL_law_131 rfl (lv_at hl 0 rfl) ?_
    refine lv_iload_n hx hb dL_law_132 rfl (lv_at hl 3 rfl) ?_
    refine lv_iconst (v := 2) hx hb dL_law_133 (by decide) ?_
    refine lv_iadd hx hb dL_law_134 ?_
    refine va_sld hx hb hX hbl hbA hI.2.2.1 (i := ((nI (6 * n)) + 2)) (by rw [show (2 : Int32) = nI 2 from rfl, nI_add]; exact vp_in_nI (by omega) (by omega)) dL_law_135 ?_
    refine lv_aload_n hx hb dL_law_136 rfl (lv_at hl 0 rfl) ?_
    refine lv_iload_n hx hb dL_law_137 rfl (lv_at hl 3 rfl) ?_
    refine lv_iconst (v := 3) hx hb dL_law_138 (by decide) ?_
    refine lv_iadd hx hb dL_law_139 ?_
    refine va_sld hx hb hX hbl hbA hI.2.2.1 (i := ((nI (6 * n)) + 3)) (by rw [show (3 : Int32) = nI 3 from rfl, nI_add]; exact vp_in_nI (by omega) (by omega)) dL_law_140 ?_
    refine lv_aload_n hx hb dL_law_141 rfl (lv_at hl 0 rfl) ?_
    refine lv_iload_n hx hb dL_law_142 rfl (lv_at hl 3 rfl) ?_
    refine lv_iconst (v := 4) hx hb dL_law_143 (by decide) ?_
    refine lv_iadd hx hb dL_law_144 ?_
    refine va_sld hx hb hX hbl hbA hI.2.2.1 (i := ((nI (6 * n)) + 4)) (by rw [show (4 : Int32) = nI 4 from rfl, nI_add]; exact vp_in_nI (by omega) (by omega)) dL_law_145 ?_
    refine lv_aload_n hx hb dL_law_146 rfl (lv_at hl 0 rfl) ?_
    refine lv_iload_n hx hb dL_law_147 rfl (lv_at hl 3 rfl) ?_
    refine lv_iconst (v := 5) hx hb dL_law_148 (by decide) ?_
    refine lv_iadd hx hb dL_law_149 ?_
    refine va_sld hx hb hX hbl hbA hI.2.2.1 (i := ((nI (6 * n)) + 5)) (by rw [show (5 : Int32) = nI 5 from rfl, nI_add]; exact vp_in_nI (by omega) (by omega)) dL_law_150 ?_
    refine ur_ci (h1 := hF) (va_runV (As := [.int (xs (Int32.toNatClampNeg ((nI (6 * n)) + 1))), .int (xs (Int32.toNatClampNeg ((nI (6 * n)) + 2))), .int (xs (Int32.toNatClampNeg ((nI (6 * n)) + 3))), .int (xs (Int32.toNatClampNeg ((nI (6 * n)) + 4))), .int (xs (Int32.toNatClampNeg ((nI (6 * n)) + 5)))]) (rest := [.int r1]) ⟨hx, hb, hml, hown, hts⟩ (lF_feed l D hT hL (show n ≤ 600 by omega) (xs (Int32.toNatClampNeg ((nI (6 * n)) + 1))) (xs (Int32.toNatClampNeg ((nI (6 * n)) + 2))) (xs (Int32.toNatClampNeg ((nI (6 * n)) + 3))) (xs (Int32.toNatClampNeg ((nI (6 * n)) + 4))) (xs (Int32.toNatClampNeg ((nI (6 * n)) + 5))) hcs H.size) (cwV 5 hts (ur_gV mw634 mw635 mw636 mw11 mw637) rfl rfl rfl (by decide +kernel) ⟨(Nat.le_of_ble_eq_true rfl), (Nat.le_of_ble_eq_true rfl)⟩) ⟨ur_blind, va_recv hV (ur_one hI.1 (lw_unR hdj k0)) (ci := 7) (q0 := 0) rfl rfl, ur_pre hI hO hK (fun _ _ z9 => lw_unR hdj z9)⟩ rfl rfl hl.1 rfl (lv_room (Nat.le_of_ble_eq_true rfl)) dL_law_151 ⟨(by show _ ≤ 600000; omega), (by show _ ≤ 7302250; omega)⟩) hI (fun _ _ z9 => lw_unR hdj z9) (fun r2 h2 H locs p9 ap9 hI => ?_)
    obtain ⟨hdj, em9⟩ := lw_upF hdj ap9
    rw [em9] at hI
    obtain ⟨er2, T9, hT9, hL9⟩ := p9
    refine lv_icmp_eq (tgt := 529) hx hb dL_law_154 (by decide) (fun c3 => ?_) (fun c3 => absurd c3 (not_not_intro (er1.trans er2.symm)))
    refine W.widen (k := 51 + (n + 1)) (n := 169226 + 120 * (n + 1)) (by omega) (by omega) ?_
    exact next _ _ ls ⟨_, _, _, T9, ⟨a9, ha9, hA9, hR9⟩, hT9, hL9, hdj, hI⟩ hl
  · refine lv_aload_n hx hb dL_law_96 rfl (lv_at hl 1 rfl) ?_
    refine lv_aload_n hx hb dL_law_97 rfl (lv_at hl 0 rfl) ?_
    refine lv_iload_n hx hb dL_law_98 rfl (lv_at hl 3 rfl) ?_
    refine lv_iconst (v := 1) hx hb dL_law_99 (by decide) ?_
    refine lv_iadd hx hb dL_law_100 ?_
    refine va_sld hx hb hX hbl hbA hI.2.2.1 (i := ((nI (6 * n)) + 1)) (by rw [show (1 : Int32) = nI 1 from rfl, nI_add]; exact vp_in_nI (by omega) (by omega)) dL_law_101 ?_
    refine lv_aload_n hx hb dL_law_102 rfl (lv_at hl 0 rfl) ?_
    refine lv_iload_n hx hb dL_law_103 rfl (lv_at hl 3 rfl) ?_
    refine lv_iconst (v := 2) hx hb dL_law_104 (by decide) ?_
    refine lv_iadd hx hb dL_law_105 ?_
    refine va_sld hx hb hX hbl hbA hI.2.2.1 (i := ((nI (6 * n)) + 2)) (by rw [show (2 : Int32) = nI 2 from rfl, nI_add]; exact vp_in_nI (by omega) (by omega)) dL_law_106 ?_
    refine lv_aload_n hx hb dL_law_107 rfl (lv_at hl 0 rfl) ?_
    refine lv_iload_n hx hb dL_law_108 rfl (lv_at hl 3 rfl) ?_
    refine lv_iconst (v := 3) hx hb dL_law_109 (by decide) ?_
    refine lv_iadd hx hb dL_law_110 ?_
    refine va_sld hx hb hX hbl hbA hI.2.2.1 (i := ((nI (6 * n)) + 3)) (by rw [show (3 : Int32) = nI 3 from rfl, nI_add]; exact vp_in_nI (by omega) (by omega)) dL_law_111 ?_
    refine lv_aload_n hx hb dL_law_112 rfl (lv_at hl 0 rfl) ?_
    refine lv_iload_n hx hb dL_law_113 rfl (lv_at hl 3 rfl) ?_
    refine lv_iconst (v := 4) hx hb dL_law_114 (by decide) ?_
    refine lv_iadd hx hb dL_law_115 ?_
    refine va_sld hx hb hX hbl hbA hI.2.2.1 (i := ((nI (6 * n)) + 4)) (by rw [show (4 : Int32) = nI 4 from rfl, nI_add]; exact vp_in_nI (by omega) (by omega)) dL_law_116 ?_
    refine lv_aload_n hx hb dL_law_117 rfl (lv_at hl 0 rfl) ?_
    refine lv_iload_n hx hb dL_law_118 rfl (lv_at hl 3 rfl) ?_
    refine lv_iconst (v := 5) hx hb dL_law_119 (by decide) ?_
    refine lv_iadd hx hb dL_law_120 ?_
    refine va_sld hx hb hX hbl hbA hI.2.2.1 (i := ((nI (6 * n)) + 5)) (by rw [show (5 : Int32) = nI 5 from rfl, nI_add]; exact vp_in_nI (by omega) (by omega)) dL_law_121 ?_
    refine ur_ci (h1 := hC) (va_runV (As := [.int (xs (Int32.toNatClampNeg ((nI (6 * n)) + 1))), .int (xs (Int32.toNatClampNeg ((nI (6 * n)) + 2))), .int (xs (Int32.toNatClampNeg ((nI (6 * n)) + 3))), .int (xs (Int32.toNatClampNeg ((nI (6 * n)) + 4))), .int (xs (Int32.toNatClampNeg ((nI (6 * n)) + 5)))]) (rest := []) ⟨hx, hb, hml, hown, hts⟩ (lU_feed l D hR hA hL (show n ≤ 600 by omega) (xs (Int32.toNatClampNeg ((nI (6 * n)) + 1))) (xs (Int32.toNatClampNeg ((nI (6 * n)) + 2))) (xs (Int32.toNatClampNeg ((nI (6 * n)) + 3))) (xs (Int32.toNatClampNeg ((nI (6 * n)) + 4))) (xs (Int32.toNatClampNeg ((nI (6 * n)) + 5)))  H.size) (cwV 5 hts (ur_gV mw189 mw190 mw191 mw1 mw192) rfl rfl rfl (by decide +kernel) ⟨(Nat.le_of_ble_eq_true rfl), (Nat.le_of_ble_eq_true rfl)⟩) ⟨ur_blind, va_recv hV (ur_one hI.1 (lw_unL g0)) (ci := 0) (q0 := 0) rfl rfl, ur_pre hI hO hK (fun _ _ z9 => lw_unL z9)⟩ rfl rfl hl.1 rfl (lv_room (Nat.le_of_ble_eq_true rfl)) dL_law_122 ⟨(by show _ ≤ 600000; omega), (by show _ ≤ 7302250; omega)⟩) hI (fun _ _ z9 => lw_unL z9) (fun r4 h4 H locs p9 ap9 hI => ?_)
    obtain ⟨hdj, em9⟩ := lw_upC hdj ap9
    rw [em9] at hI
    obtain ⟨er1, a9, ha9, hA9, hR9⟩ := p9
    refine lv_aload_n hx hb dL_law_125 rfl (lv_at hl 2 rfl) ?_
    refine lv_aload_n hx hb dL_law_126 rfl (lv_at hl 0 rfl) ?_
    refine lv_iload_n hx hb dL_law_127 rfl (lv_at hl 3 rfl) ?_
    refine lv_iconst (v := 1) hx hb dL_law_128 (by decide) ?_
    refine lv_iadd hx hb dL_law_129 ?_
    refine va_sld hx hb hX hbl hbA hI.2.2.1 (i := ((nI (6 * n)) + 1)) (by rw [show (1 : Int32) = nI 1 from rfl, nI_add]; exact vp_in_nI (by omega) (by omega)) dL_law_130 ?_
    refine lv_aload_n hx hb dL_law_131 rfl (lv_at hl 0 rfl) ?_
    refine lv_iload_n hx hb dL_law_132 rfl (lv_at hl 3 rfl) ?_
    refine lv_iconst (v := 2) hx hb dL_law_133 (by decide) ?_
    refine lv_iadd hx hb dL_law_134 ?_
    refine va_sld hx hb hX hbl hbA hI.2.2.1 (i := ((nI (6 * n)) + 2)) (by rw [show (2 : Int32) = nI 2 from rfl, nI_add]; exact vp_in_nI (by omega) (by omega)) dL_law_135 ?_
    refine lv_aload_n hx hb dL_law_136 rfl (lv_at hl 0 rfl) ?_
    refine lv_iload_n hx hb dL_law_137 rfl (lv_at hl 3 rfl) ?_
    refine lv_iconst (v := 3) hx hb dL_law_138 (by decide) ?_
    refine lv_iadd hx hb dL_law_139 ?_
    refine va_sld hx hb hX hbl hbA hI.2.2.1 (i := ((nI (6 * n)) + 3)) (by rw [show (3 : Int32) = nI 3 from rfl, nI_add]; exact vp_in_nI (by omega) (by omega)) dL_law_140 ?_
    refine lv_aload_n hx hb dL_law_141 rfl (lv_at hl 0 rfl) ?_
    refine lv_iload_n hx hb dL_law_142 rfl (lv_at hl 3 rfl) ?_
    refine lv_iconst (v := 4) hx hb dL_law_143 (by decide) ?_
    refine lv_iadd hx hb dL_law_144 ?_
    refine va_sld hx hb hX hbl hbA hI.2.2.1 (i := ((nI (6 * n)) + 4)) (by rw [show (4 : Int32) = nI 4 from rfl, nI_add]; exact vp_in_nI (by omega) (by omega)) dL_law_145 ?_
    refine lv_aload_n hx hb dL_law_146 rfl (lv_at hl 0 rfl) ?_
    refine lv_iload_n hx hb dL_law_147 rfl (lv_at hl 3 rfl) ?_
    refine lv_iconst (v := 5) hx hb dL_law_148 (by decide) ?_
    refine lv_iadd hx hb dL_law_149 ?_
    refine va_sld hx hb hX hbl hbA hI.2.2.1 (i := ((nI (6 * n)) + 5)) (by rw [show (5 : Int32) = nI 5 from rfl, nI_add]; exact vp_in_nI (by omega) (by omega)) dL_law_150 ?_
    refine ur_ci (h1 := hF) (va_runV (As := [.int (xs (Int32.toNatClampNeg ((nI (6 * n)) + 1))), .int (xs (Int32.toNatClampNeg ((nI (6 * n)) + 2))), .int (xs (Int32.toNatClampNeg ((nI (6 * n)) + 3))), .int (xs (Int32.toNatClampNeg ((nI (6 * n)) + 4))), .int (xs (Int32.toNatClampNeg ((nI (6 * n)) + 5)))]) (rest := [.int r4]) ⟨hx, hb, hml, hown, hts⟩ (lF_feedF l D hT hL (show n ≤ 600 by omega) (xs (Int32.toNatClampNeg ((nI (6 * n)) + 1))) (xs (Int32.toNatClampNeg ((nI (6 * n)) + 2))) (xs (Int32.toNatClampNeg ((nI (6 * n)) + 3))) (xs (Int32.toNatClampNeg ((nI (6 * n)) + 4))) (xs (Int32.toNatClampNeg ((nI (6 * n)) + 5))) hcs H.size) (cwV 5 hts (ur_gV mw634 mw635 mw636 mw11 mw637) rfl rfl rfl (by decide +kernel) ⟨(Nat.le_of_ble_eq_true rfl), (Nat.le_of_ble_eq_true rfl)⟩) ⟨ur_blind, va_recv hV (ur_one hI.1 (lw_unR hdj k0)) (ci := 7) (q0 := 0) rfl rfl, ur_pre hI hO hK (fun _ _ z9 => lw_unR hdj z9)⟩ rfl rfl hl.1 rfl (lv_room (Nat.le_of_ble_eq_true rfl)) dL_law_151 ⟨(by show _ ≤ 600000; omega), (by show _ ≤ 7302250; omega)⟩) hI (fun _ _ z9 => lw_unR hdj z9) (fun r5 h5 H locs p9 ap9 hI => ?_)
    obtain ⟨hdj, em9⟩ := lw_upF hdj ap9
    rw [em9] at hI
    obtain ⟨er2, T9, hT9, hL9⟩ := p9
    refine lv_icmp_eq (tgt := 529) hx hb dL_law_154 (by decide) (fun c6 => ?_) (fun c6 => absurd c6 (not_not_intro (er1.trans er2.symm)))
    refine W.widen (k := 51 + (n + 1)) (n := 169226 + 120 * (n + 1)) (by omega) (by omega) ?_
    exact next _ _ ls ⟨_, _, _, T9, ⟨a9, ha9, hA9, hR9⟩, hT9, hL9, hdj, hI⟩ hl
set_option maxHeartbeats 4000000 in
set_option maxRecDepth 100000 in
/-- end -/
theorem lw_c1 {p : Program} {e : Env} {s : State} {m : MethodId} {below : List Frame} {meth : Method} {c : Code} (l : Launch) {b0 L : Nat} {xs : Nat → Int32} {D : va_G} {E : ur_Ev} {Q : State → Prop} (hx : p.tables.exec = Jvm.exec) (hb : c.code = code) (hml : c.maxLocals = 4) (hown : s.vm.findClass "UnitRoomLaw" = some m.cls) (hts : ∀ w ∈ ur_G, w.before #[Value.ref b0] s = true) (hX : va_X b0 L xs s s.heap) (hbl : b0 < s.heap.size) (hbA : ¬ ur_A (fun _ => none) s.heap.size b0) (hK : ur_K D vwCl (ur_v E) s) (hO : ur_O (ur_v E) (ur_A (fun _ => none) s.heap.size) s s.heap) (hL3 : L ≤ 3072) {q : Nat} {b : Nat → Nat} {n : Nat} (hi : 6 * n + 6 ≤ L) (next : ∀ (H : Heap) (locs : List Loc) (ls : Array Slot), lw_W D E s q b (n + 1) H locs → lv_has ls 4 [(0, .ref b0), (1, .ref q), (2, .ref (b 0)), (3, .int (nI (6 * n)))] → W p l e room_1 s m #[Value.ref b0] below meth c H locs (51 + (n + 1)) (169226 + 120 * (n + 1)) Q (F0 m 529 ls [])) {H : Heap} {locs : List Loc} {ls : Array Slot} (hw : lw_W D E s q b n H locs) (hl : lv_has ls 4 [(0, .ref b0), (1, .ref q), (2, .ref (b 0)), (3, .int (nI (6 * n)))]) : W p l e room_1 s m #[Value.ref b0] below meth c H locs (51 + n) (169226 + 120 * n) Q (F0 m 159 ls []) := by
  obtain ⟨hC, hF, S, T, ⟨a, rfl, hA, hR⟩, hT, hL, hdj, hI⟩ := hw
  have hV := hK.1
  have g0 : hC (a.1 20 0) = some (.inr (0, [.ref (a.1 20 1), .ref (a.1 20 3), .ref (a.1 16 0), .ref (a.1 20 5), .long (lN (S.1 20 2)), .int (nI (S.1 20 0))])) := hR.core rfl
  have k0 : hF (b 0) = some (.inr (7, [.ref (b 1), .ref (b 2), .ref (b 3), .long (T.1.1), .ref (b 4), .ref (b 5), .ref (b 6), .ref (b 7), .int (T.1.2.1), .ref (b 8), .int (T.1.2.2.1), .ref (b 9), .ref (b 10), .ref (b 11), .ref (b 12), .ref (b 13), .int (T.1.2.2.2), .ref (b 14)])) := hT.obj
  refine lv_aload_n hx hb dL_law_159 rfl (lv_at hl 1 rfl) ?_
  refine lv_aload_n hx hb dL_law_160 rfl (lv_at hl 0 rfl) ?_
  refine lv_iload_n hx hb dL_law_161 rfl (lv_at hl 3 rfl) ?_
  refine lv_iconst (v := 1) hx hb dL_law_162 (by decide) ?_
  refine lv_iadd hx hb dL_law_163 ?_
  refine va_sld hx hb hX hbl hbA hI.2.2.1 (i := ((nI (6 * n)) + 1)) (by rw [show (1 : Int32) = nI 1 from rfl, nI_add]; exact vp_in_nI (by omega) (by omega)) dL_law_164 ?_
  refine ur_ci (h1 := hC) (va_runV (As := [.int (xs (Int32.toNatClampNeg ((nI (6 * n)) + 1)))]) (rest := []) ⟨hx, hb, hml, hown, hts⟩ (lU_end l D hR hA hL (show n ≤ 600 by omega) (xs (Int32.toNatClampNeg ((nI (6 * n)) + 1)))  H.size) (cwV 1 hts (ur_gV mw201 mw202 mw203 mw1 mw204) rfl rfl rfl (by decide +kernel) ⟨(Nat.le_of_ble_eq_true rfl), (Nat.le_of_ble_eq_true rfl)⟩) ⟨ur_blind, va_recv hV (ur_one hI.1 (lw_unL g0)) (ci := 0) (q0 := 0) rfl rfl, ur_pre hI hO hK (fun _ _ z9 => lw_unL z9)⟩ rfl rfl hl.1 rfl (lv_room (Nat.le_of_ble_eq_true rfl)) dL_law_165 ⟨(by show _ ≤ 600000; omega), (by show _ ≤ 7302250; omega)⟩) hI (fun _ _ z9 => lw_unL z9) (fun r1 h1 H locs p9 ap9 hI => ?_)
  obtain ⟨hdj, em9⟩ := lw_upC hdj ap9
  rw [em9] at hI
  obtain ⟨er1, a9, ha9, hA9, hR9⟩ := p9
  refine lv_aload_n hx hb dL_law_168 rfl (lv_at hl 2 rfl) ?_
  refine lv_aload_n hx hb dL_law_169 rfl (lv_at hl 0 rfl) ?_
  refine lv_iload_n hx hb dL_law_170 rfl (lv_at hl 3 rfl) ?_
  refine lv_iconst (v := 1) hx hb dL_law_171 (by decide) ?_
  refine lv_iadd hx hb dL_law_172 ?_
  refine va_sld hx hb hX hbl hbA hI.2.2.1 (i := ((nI (6 * n)) + 1)) (by rw [show (1 : Int32) = nI 1 from rfl, nI_add]; exact vp_in_nI (by omega) (by omega)) dL_law_173 ?_
  refine ur_ci (h1 := hF) (va_runV (As := [.int (xs (Int32.toNatClampNeg ((nI (6 * n)) + 1)))]) (rest := [.int r1]) ⟨hx, hb, hml, hown, hts⟩ (lF_end l D hT hL (show n ≤ 600 by omega) (xs (Int32.toNatClampNeg ((nI (6 * n)) + 1)))  H.size) (cwV 1 hts (ur_gV mw638 mw639 mw640 mw11 mw641) rfl rfl rfl (by decide +kernel) ⟨(Nat.le_of_ble_eq_true rfl), (Nat.le_of_ble_eq_true rfl)⟩) ⟨ur_blind, va_recv hV (ur_one hI.1 (lw_unR hdj k0)) (ci := 7) (q0 := 0) rfl rfl, ur_pre hI hO hK (fun _ _ z9 => lw_unR hdj z9)⟩ rfl rfl hl.1 rfl (lv_room (Nat.le_of_ble_eq_true rfl)) dL_law_174 ⟨(by show _ ≤ 600000; omega), (by show _ ≤ 7302250; omega)⟩) hI (fun _ _ z9 => lw_unR hdj z9) (fun r2 h2 H locs p9 ap9 hI => ?_)
  obtain ⟨hdj, em9⟩ := lw_upF hdj ap9
  rw [em9] at hI
  obtain ⟨er2, T9, hT9, hL9⟩ := p9
  refine lv_icmp_eq (tgt := 529) hx hb dL_law_177 (by decide) (fun c3 => ?_) (fun c3 => absurd c3 (not_not_intro (er1.trans er2.symm)))
  refine W.widen (k := 51 + (n + 1)) (n := 169226 + 120 * (n + 1)) (by omega) (by omega) ?_
  exact next _ _ ls ⟨_, _, _, T9, ⟨a9, ha9, hA9, hR9⟩, hT9, hL9, hdj, hI⟩ hl
set_option maxHeartbeats 4000000 in
set_option maxRecDepth 100000 in
/-- set -/
theorem lw_c2 {p : Program} {e : Env} {s : State} {m : MethodId} {below : List Frame} {meth : Method} {c : Code} (l : Launch) {b0 L : Nat} {xs : Nat → Int32} {D : va_G} {E : ur_Ev} {Q : State → Prop} (hx : p.tables.exec = Jvm.exec) (hb : c.code = code) (hml : c.maxLocals = 4) (hown : s.vm.findClass "UnitRoomLaw" = some m.cls) (hts : ∀ w ∈ ur_G, w.before #[Value.ref b0] s = true) (hX : va_X b0 L xs s s.heap) (hbl : b0 < s.heap.size) (hbA : ¬ ur_A (fun _ => none) s.heap.size b0) (hK : ur_K D vwCl (ur_v E) s) (hO : ur_O (ur_v E) (ur_A (fun _ => none) s.heap.size) s s.heap) (hL3 : L ≤ 3072) {q : Nat} {b : Nat → Nat} {n : Nat} (hi : 6 * n + 6 ≤ L) (next : ∀ (H : Heap) (locs : List Loc) (ls : Array Slot), lw_W D E s q b (n + 1) H locs → lv_has ls 4 [(0, .ref b0), (1, .ref q), (2, .ref (b 0)), (3, .int (nI (6 * n)))] → W p l e room_1 s m #[Value.ref b0] below meth c H locs (51 + (n + 1)) (169226 + 120 * (n + 1)) Q (F0 m 529 ls [])) {H : Heap} {locs : List Loc} {ls : Array Slot} (hw : lw_W D E s q b n H locs) (hl : lv_has ls 4 [(0, .ref b0), (1, .ref q), (2, .ref (b 0)), (3, .int (nI (6 * n)))]) : W p l e room_1 s m #[Value.ref b0] below meth c H locs (51 + n) (169226 + 120 * n) Q (F0 m 182 ls []) := by
  obtain ⟨hC, hF, S, T, ⟨a, rfl, hA, hR⟩, hT, hL, hdj, hI⟩ := hw
  have hV := hK.1
  have g0 : hC (a.1 20 0) = some (.inr (0, [.ref (a.1 20 1), .ref (a.1 20 3), .ref (a.1 16 0), .ref (a.1 20 5), .long (lN (S.1 20 2)), .int (nI (S.1 20 0))])) := hR.core rfl
  have k0 : hF (b 0) = some (.inr (7, [.ref (b 1), .ref (b 2), .ref (b 3), .long (T.1.1), .ref (b 4), .ref (b 5), .ref (b 6), .ref (b 7), .int (T.1.2.1), .ref (b 8), .int (T.1.2.2.1), .ref (b 9), .ref (b 10), .ref (b 11), .ref (b 12), .ref (b 13), .int (T.1.2.2.2), .ref (b 14)])) := hT.obj
  refine lv_aload_n hx hb dL_law_182 rfl (lv_at hl 1 rfl) ?_
  refine lv_aload_n hx hb dL_law_183 rfl (lv_at hl 0 rfl) ?_
  refine lv_iload_n hx hb dL_law_184 rfl (lv_at hl 3 rfl) ?_
  refine lv_iconst (v := 1) hx hb dL_law_185 (by decide) ?_
  refine lv_iadd hx hb dL_law_186 ?_
  refine va_sld hx hb hX hbl hbA hI.2.2.1 (i := ((nI (6 * n)) + 1)) (by rw [show (1 : Int32) = nI 1 from rfl, nI_add]; exact vp_in_nI (by omega) (by omega)) dL_law_187 ?_
  refine lv_aload_n hx hb dL_law_188 rfl (lv_at hl 0 rfl) ?_
  refine lv_iload_n hx hb dL_law_189 rfl (lv_at hl 3 rfl) ?_
  refine lv_iconst (v := 2) hx hb dL_law_190 (by decide) ?_
  refine lv_iadd hx hb dL_law_191 ?_
  refine va_sld hx hb hX hbl hbA hI.2.2.1 (i := ((nI (6 * n)) + 2)) (by rw [show (2 : Int32) = nI 2 from rfl, nI_add]; exact vp_in_nI (by omega) (by omega)) dL_law_192 ?_
  refine lv_aload_n hx hb dL_law_193 rfl (lv_at hl 0 rfl) ?_
  refine lv_iload_n hx hb dL_law_194 rfl (lv_at hl 3 rfl) ?_
  refine lv_iconst (v := 3) hx hb dL_law_195 (by decide) ?_
  refine lv_iadd hx hb dL_law_196 ?_
  refine va_sld hx hb hX hbl hbA hI.2.2.1 (i := ((nI (6 * n)) + 3)) (by rw [show (3 : Int32) = nI 3 from rfl, nI_add]; exact vp_in_nI (by omega) (by omega)) dL_law_197 ?_
  refine lv_if_eq (tgt := 205) hx hb dL_law_198 (by decide) (fun c1 => ?_) (fun c1 => ?_)
  · refine lv_iconst (v := 0) hx hb dL_law_205 (by decide) ?_
    refine ur_ci (h1 := hC) (va_runV (As := [.int (xs (Int32.toNatClampNeg ((nI (6 * n)) + 1))), .int (xs (Int32.toNatClampNeg ((nI (6 * n)) + 2))), .int 0]) (rest := []) ⟨hx, hb, hml, hown, hts⟩ (lU_set l D hR hA hL (show n ≤ 600 by omega) (xs (Int32.toNatClampNeg ((nI (6 * n)) + 1))) (xs (Int32.toNatClampNeg ((nI (6 * n)) + 2))) 0  H.size) (cwV 3 hts (ur_gV mw209 mw210 mw211 mw1 mw212) rfl rfl rfl (by decide +kernel) ⟨(Nat.le_of_ble_eq_true rfl), (Nat.le_of_ble_eq_true rfl)⟩) ⟨ur_blind, va_recv hV (ur_one hI.1 (lw_unL g0)) (ci := 0) (q0 := 0) rfl rfl, ur_pre hI hO hK (fun _ _ z9 => lw_unL z9)⟩ rfl rfl hl.1 rfl (lv_room (Nat.le_of_ble_eq_true rfl)) dL_law_206 ⟨(by show _ ≤ 600000; omega), (by show _ ≤ 7302250; omega)⟩) hI (fun _ _ z9 => lw_unL z9) (fun r2 h2 H locs p9 ap9 hI => ?_)
    obtain ⟨hdj, em9⟩ := lw_upC hdj ap9
    rw [em9] at hI
    obtain ⟨er1, a9, ha9, hA9, hR9⟩ := p9
    refine lv_aload_n hx hb dL_law_209 rfl (lv_at hl 2 rfl) ?_
    refine lv_aload_n hx hb dL_law_210 rfl (lv_at hl 0 rfl) ?_
    refine lv_iload_n hx hb dL_law_211 rfl (lv_at hl 3 rfl) ?_
    refine lv_iconst (v := 1) hx hb dL_law_212 (by decide) ?_
    refine lv_iadd hx hb dL_law_213 ?_
    refine va_sld hx hb hX hbl hbA hI.2.2.1 (i := ((nI (6 * n)) + 1)) (by rw [show (1 : Int32) = nI 1 from rfl, nI_add]; exact vp_in_nI (by omega) (by omega)) dL_law_214 ?_
    refine lv_aload_n hx hb dL_law_215 rfl (lv_at hl 0 rfl) ?_
    refine lv_iload_n hx hb dL_law_216 rfl (lv_at hl 3 rfl) ?_
    refine lv_iconst (v := 2) hx hb dL_law_217 (by decide) ?_
    refine lv_iadd hx hb dL_law_218 ?_
    refine va_sld hx hb hX hbl hbA hI.2.2.1 (i := ((nI (6 * n)) + 2)) (by rw [show (2 : Int32) = nI 2 from rfl, nI_add]; exact vp_in_nI (by omega) (by omega)) dL_law_219 ?_
    refine lv_aload_n hx hb dL_law_220 rfl (lv_at hl 0 rfl) ?_
    refine lv_iload_n hx hb dL_law_221 rfl (lv_at hl 3 rfl) ?_
    refine lv_iconst (v := 3) hx hb dL_law_222 (by decide) ?_
    refine lv_iadd hx hb dL_law_223 ?_
    refine va_sld hx hb hX hbl hbA hI.2.2.1 (i := ((nI (6 * n)) + 3)) (by rw [show (3 : Int32) = nI 3 from rfl, nI_add]; exact vp_in_nI (by omega) (by omega)) dL_law_224 ?_
    refine lv_if_eq (tgt := 232) hx hb dL_law_225 (by decide) (fun c3 => ?_) (fun c3 => absurd c3 (not_not_intro c1))
    refine lv_iconst (v := 0) hx hb dL_law_232 (by decide) ?_
    refine ur_ci (h1 := hF) (va_runV (As := [.int (xs (Int32.toNatClampNeg ((nI (6 * n)) + 1))), .int (xs (Int32.toNatClampNeg ((nI (6 * n)) + 2))), .int 0]) (rest := [.int r2]) ⟨hx, hb, hml, hown, hts⟩ (lF_set l D hT hL (show n ≤ 600 by omega) (xs (Int32.toNatClampNeg ((nI (6 * n)) + 1))) (xs (Int32.toNatClampNeg ((nI (6 * n)) + 2))) 0  H.size) (cwV 3 hts (ur_gV mw645 mw646 mw647 mw11 mw648) rfl rfl rfl (by decide +kernel) ⟨(Nat.le_of_ble_eq_true rfl), (Nat.le_of_ble_eq_true rfl)⟩) ⟨ur_blind, va_recv hV (ur_one hI.1 (lw_unR hdj k0)) (ci := 7) (q0 := 0) rfl rfl, ur_pre hI hO hK (fun _ _ z9 => lw_unR hdj z9)⟩ rfl rfl hl.1 rfl (lv_room (Nat.le_of_ble_eq_true rfl)) dL_law_233 ⟨(by show _ ≤ 600000; omega), (by show _ ≤ 7302250; omega)⟩) hI (fun _ _ z9 => lw_unR hdj z9) (fun r4 h4 H locs p9 ap9 hI => ?_)
    obtain ⟨hdj, em9⟩ := lw_upF hdj ap9
    rw [em9] at hI
    obtain ⟨er2, T9, hT9, hL9⟩ := p9
    refine lv_icmp_eq (tgt := 529) hx hb dL_law_236 (by decide) (fun c5 => ?_) (fun c5 => absurd c5 (not_not_intro (er1.trans er2.symm)))
    refine W.widen (k := 51 + (n + 1)) (n := 169226 + 120 * (n + 1)) (by omega) (by omega) ?_
    exact next _ _ ls ⟨_, _, _, T9, ⟨a9, ha9, hA9, hR9⟩, hT9, hL9, hdj, hI⟩ hl
  · refine lv_iconst (v := 1) hx hb dL_law_201 (by decide) ?_
    refine lv_goto (tgt := 206) hx hb dL_law_202 (by decide) ?_
    refine ur_ci (h1 := hC) (va_runV (As := [.int (xs (Int32.toNatClampNeg ((nI (6 * n)) + 1))), .int (xs (Int32.toNatClampNeg ((nI (6 * n)) + 2))), .int 1]) (rest := []) ⟨hx, hb, hml, hown, hts⟩ (lU_set l D hR hA hL (show n ≤ 600 by omega) (xs (Int32.toNatClampNeg ((nI (6 * n)) + 1))) (xs (Int32.toNatClampNeg ((nI (6 * n)) + 2))) 1  H.size) (cwV 3 hts (ur_gV mw209 mw210 mw211 mw1 mw212) rfl rfl rfl (by decide +kernel) ⟨(Nat.le_of_ble_eq_true rfl), (Nat.le_of_ble_eq_true rfl)⟩) ⟨ur_blind, va_recv hV (ur_one hI.1 (lw_unL g0)) (ci := 0) (q0 := 0) rfl rfl, ur_pre hI hO hK (fun _ _ z9 => lw_unL z9)⟩ rfl rfl hl.1 rfl (lv_room (Nat.le_of_ble_eq_true rfl)) dL_law_206 ⟨(by show _ ≤ 600000; omega), (by show _ ≤ 7302250; omega)⟩) hI (fun _ _ z9 => lw_unL z9) (fun r6 h6 H locs p9 ap9 hI => ?_)
    obtain ⟨hdj, em9⟩ := lw_upC hdj ap9
    rw [em9] at hI
    obtain ⟨er1, a9, ha9, hA9, hR9⟩ := p9
    refine lv_aload_n hx hb dL_law_209 rfl (lv_at hl 2 rfl) ?_
    refine lv_aload_n hx hb dL_law_210 rfl (lv_at hl 0 rfl) ?_
    refine lv_iload_n hx hb dL_law_211 rfl (lv_at hl 3 rfl) ?_
    refine lv_iconst (v := 1) hx hb dL_law_212 (by decide) ?_
    refine lv_iadd hx hb dL_law_213 ?_
    refine va_sld hx hb hX hbl hbA hI.2.2.1 (i := ((nI (6 * n)) + 1)) (by rw [show (1 : Int32) = nI 1 from rfl, nI_add]; exact vp_in_nI (by omega) (by omega)) dL_law_214 ?_
    refine lv_aload_n hx hb dL_law_215 rfl (lv_at hl 0 rfl) ?_
    refine lv_iload_n hx hb dL_law_216 rfl (lv_at hl 3 rfl) ?_
    refine lv_iconst (v := 2) hx hb dL_law_217 (by decide) ?_
    refine lv_iadd hx hb dL_law_218 ?_
    refine va_sld hx hb hX hbl hbA hI.2.2.1 (i := ((nI (6 * n)) + 2)) (by rw [show (2 : Int32) = nI 2 from rfl, nI_add]; exact vp_in_nI (by omega) (by omega)) dL_law_219 ?_
    refine lv_aload_n hx hb dL_law_220 rfl (lv_at hl 0 rfl) ?_
    refine lv_iload_n hx hb dL_law_221 rfl (lv_at hl 3 rfl) ?_
    refine lv_iconst (v := 3) hx hb dL_law_222 (by decide) ?_
    refine lv_iadd hx hb dL_law_223 ?_
    refine va_sld hx hb hX hbl hbA hI.2.2.1 (i := ((nI (6 * n)) + 3)) (by rw [show (3 : Int32) = nI 3 from rfl, nI_add]; exact vp_in_nI (by omega) (by omega)) dL_law_224 ?_
    refine lv_if_eq (tgt := 232) hx hb dL_law_225 (by decide) (fun c7 => absurd c7 c1) (fun c7 => ?_)
    refine lv_iconst (v := 1) hx hb dL_law_228 (by decide) ?_
    refine lv_goto (tgt := 233) hx hb dL_law_229 (by decide) ?_
    refine ur_ci (h1 := hF) (va_runV (As := [.int (xs (Int32.toNatClampNeg ((nI (6 * n)) + 1))), .int (xs (Int32.toNatClampNeg ((nI (6 * n)) + 2))), .int 1]) (rest := [.int r6]) ⟨hx, hb, hml, hown, hts⟩ (lF_set l D hT hL (show n ≤ 600 by omega) (xs (Int32.toNatClampNeg ((nI (6 * n)) + 1))) (xs (Int32.toNatClampNeg ((nI (6 * n)) + 2))) 1  H.size) (cwV 3 hts (ur_gV mw645 mw646 mw647 mw11 mw648) rfl rfl rfl (by decide +kernel) ⟨(Nat.le_of_ble_eq_true rfl), (Nat.le_of_ble_eq_true rfl)⟩) ⟨ur_blind, va_recv hV (ur_one hI.1 (lw_unR hdj k0)) (ci := 7) (q0 := 0) rfl rfl, ur_pre hI hO hK (fun _ _ z9 => lw_unR hdj z9)⟩ rfl rfl hl.1 rfl (lv_room (Nat.le_of_ble_eq_true rfl)) dL_law_233 ⟨(by show _ ≤ 600000; omega), (by show _ ≤ 7302250; omega)⟩) hI (fun _ _ z9 => lw_unR hdj z9) (fun r8 h8 H locs p9 ap9 hI => ?_)
    obtain ⟨hdj, em9⟩ := lw_upF hdj ap9
    rw [em9] at hI
    obtain ⟨er2, T9, hT9, hL9⟩ := p9
    refine lv_icmp_eq (tgt := 529) hx hb dL_law_236 (by decide) (fun c9 => ?_) (fun c9 => absurd c9 (not_not_intro (er1.trans er2.symm)))
    refine W.widen (k := 51 + (n + 1)) (n := 169226 + 120 * (n + 1)) (by omega) (by omega) ?_
    exact next _ _ ls ⟨_, _, _, T9, ⟨a9, ha9, hA9, hR9⟩, hT9, hL9, hdj, hI⟩ hl
set_option maxHeartbeats 4000000 in
set_option maxRecDepth 100000 in
/-- fill -/
theorem lw_c3 {p : Program} {e : Env} {s : State} {m : MethodId} {below : List Frame} {meth : Method} {c : Code} (l : Launch) {b0 L : Nat} {xs : Nat → Int32} {D : va_G} {E : ur_Ev} {Q : State → Prop} (hx : p.tables.exec = Jvm.exec) (hb : c.code = code) (hml : c.maxLocals = 4) (hown : s.vm.findClass "UnitRoomLaw" = some m.cls) (hts : ∀ w ∈ ur_G, w.before #[Value.ref b0] s = true) (hX : va_X b0 L xs s s.heap) (hbl : b0 < s.heap.size) (hbA : ¬ ur_A (fun _ => none) s.heap.size b0) (hK : ur_K D vwCl (ur_v E) s) (hO : ur_O (ur_v E) (ur_A (fun _ => none) s.heap.size) s s.heap) (hL3 : L ≤ 3072) {q : Nat} {b : Nat → Nat} {n : Nat} (hi : 6 * n + 6 ≤ L) (next : ∀ (H : Heap) (locs : List Loc) (ls : Array Slot), lw_W D E s q b (n + 1) H locs → lv_has ls 4 [(0, .ref b0), (1, .ref q), (2, .ref (b 0)), (3, .int (nI (6 * n)))] → W p l e room_1 s m #[Value.ref b0] below meth c H locs (51 + (n + 1)) (169226 + 120 * (n + 1)) Q (F0 m 529 ls [])) {H : Heap} {locs : List Loc} {ls : Array Slot} (hw : lw_W D E s q b n H locs) (hl : lv_has ls 4 [(0, .ref b0), (1, .ref q), (2, .ref (b 0)), (3, .int (nI (6 * n)))]) : W p l e room_1 s m #[Value.ref b0] below meth c H locs (51 + n) (169226 + 120 * n) Q (F0 m 241 ls []) := by
  obtain ⟨hC, hF, S, T, ⟨a, rfl, hA, hR⟩, hT, hL, hdj, hI⟩ := hw
  have hV := hK.1
  have g0 : hC (a.1 20 0) = some (.inr (0, [.ref (a.1 20 1), .ref (a.1 20 3), .ref (a.1 16 0), .ref (a.1 20 5), .long (lN (S.1 20 2)), .int (nI (S.1 20 0))])) := hR.core rfl
  have k0 : hF (b 0) = some (.inr (7, [.ref (b 1), .ref (b 2), .ref (b 3), .long (T.1.1), .ref (b 4), .ref (b 5), .ref (b 6), .ref (b 7), .int (T.1.2.1), .ref (b 8), .int (T.1.2.2.1), .ref (b 9), .ref (b 10), .ref (b 11), .ref (b 12), .ref (b 13), .int (T.1.2.2.2), .ref (b 14)])) := hT.obj
  refine lv_aload_n hx hb dL_law_241 rfl (lv_at hl 1 rfl) ?_
  refine lv_aload_n hx hb dL_law_242 rfl (lv_at hl 0 rfl) ?_
  refine lv_iload_n hx hb dL_law_243 rfl (lv_at hl 3 rfl) ?_
  refine lv_iconst (v := 1) hx hb dL_law_244 (by decide) ?_
  refine lv_iadd hx hb dL_law_245 ?_
  refine va_sld hx hb hX hbl hbA hI.2.2.1 (i := ((nI (6 * n)) + 1)) (by rw [show (1 : Int32) = nI 1 from rfl, nI_add]; exact vp_in_nI (by omega) (by omega)) dL_law_246 ?_
  refine lv_aload_n hx hb dL_law_247 rfl (lv_at hl 0 rfl) ?_
  refine lv_iload_n hx hb dL_law_248 rfl (lv_at hl 3 rfl) ?_
  refine lv_iconst (v := 2) hx hb dL_law_249 (by decide) ?_
  refine lv_iadd hx hb dL_law_250 ?_
  refine va_sld hx hb hX hbl hbA hI.2.2.1 (i := ((nI (6 * n)) + 2)) (by rw [show (2 : Int32) = nI 2 from rfl, nI_add]; exact vp_in_nI (by omega) (by omega)) dL_law_251 ?_
  refine lv_aload_n hx hb dL_law_252 rfl (lv_at hl 0 rfl) ?_
  refine lv_iload_n hx hb dL_law_253 rfl (lv_at hl 3 rfl) ?_
  refine lv_iconst (v := 3) hx hb dL_law_254 (by decide) ?_
  refine lv_iadd hx hb dL_law_255 ?_
  refine va_sld hx hb hX hbl hbA hI.2.2.1 (i := ((nI (6 * n)) + 3)) (by rw [show (3 : Int32) = nI 3 from rfl, nI_add]; exact vp_in_nI (by omega) (by omega)) dL_law_256 ?_
  refine ur_ci (h1 := hC) (va_runV (As := [.int (xs (Int32.toNatClampNeg ((nI (6 * n)) + 1))), .int (xs (Int32.toNatClampNeg ((nI (6 * n)) + 2))), .int (xs (Int32.toNatClampNeg ((nI (6 * n)) + 3)))]) (rest := []) ⟨hx, hb, hml, hown, hts⟩ (lU_fill l D hR hA hL (show n ≤ 600 by omega) (xs (Int32.toNatClampNeg ((nI (6 * n)) + 1))) (xs (Int32.toNatClampNeg ((nI (6 * n)) + 2))) (xs (Int32.toNatClampNeg ((nI (6 * n)) + 3)))  H.size) (cwV 3 hts (ur_gV mw225 mw226 mw227 mw1 mw228) rfl rfl rfl (by decide +kernel) ⟨(Nat.le_of_ble_eq_true rfl), (Nat.le_of_ble_eq_true rfl)⟩) ⟨ur_blind, va_recv hV (ur_one hI.1 (lw_unL g0)) (ci := 0) (q0 := 0) rfl rfl, ur_pre hI hO hK (fun _ _ z9 => lw_unL z9)⟩ rfl rfl hl.1 rfl (lv_room (Nat.le_of_ble_eq_true rfl)) dL_law_257 ⟨(by show _ ≤ 600000; omega), (by show _ ≤ 7302250; omega)⟩) hI (fun _ _ z9 => lw_unL z9) (fun r1 h1 H locs p9 ap9 hI => ?_)
  obtain ⟨hdj, em9⟩ := lw_upC hdj ap9
  rw [em9] at hI
  obtain ⟨er1, a9, ha9, hA9, hR9⟩ := p9
  refine lv_aload_n hx hb dL_law_260 rfl (lv_at hl 2 rfl) ?_
  refine lv_aload_n hx hb dL_law_261 rfl (lv_at hl 0 rfl) ?_
  refine lv_iload_n hx hb dL_law_262 rfl (lv_at hl 3 rfl) ?_
  refine lv_iconst (v := 1) hx hb dL_law_263 (by decide) ?_
  refine lv_iadd hx hb dL_law_264 ?_
  refine va_sld hx hb hX hbl hbA hI.2.2.1 (i := ((nI (6 * n)) + 1)) (by rw [show (1 : Int32) = nI 1 from rfl, nI_add]; exact vp_in_nI (by omega) (by omega)) dL_law_265 ?_
  refine lv_aload_n hx hb dL_law_266 rfl (lv_at hl 0 rfl) ?_
  refine lv_iload_n hx hb dL_law_267 rfl (lv_at hl 3 rfl) ?_
  refine lv_iconst (v := 2) hx hb dL_law_268 (by decide) ?_
  refine lv_iadd hx hb dL_law_269 ?_
  refine va_sld hx hb hX hbl hbA hI.2.2.1 (i := ((nI (6 * n)) + 2)) (by rw [show (2 : Int32) = nI 2 from rfl, nI_add]; exact vp_in_nI (by omega) (by omega)) dL_law_270 ?_
  refine lv_aload_n hx hb dL_law_271 rfl (lv_at hl 0 rfl) ?_
  refine lv_iload_n hx hb dL_law_272 rfl (lv_at hl 3 rfl) ?_
  refine lv_iconst (v := 3) hx hb dL_law_273 (by decide) ?_
  refine lv_iadd hx hb dL_law_274 ?_
  refine va_sld hx hb hX hbl hbA hI.2.2.1 (i := ((nI (6 * n)) + 3)) (by rw [show (3 : Int32) = nI 3 from rfl, nI_add]; exact vp_in_nI (by omega) (by omega)) dL_law_275 ?_
  refine ur_ci (h1 := hF) (va_runV (As := [.int (xs (Int32.toNatClampNeg ((nI (6 * n)) + 1))), .int (xs (Int32.toNatClampNeg ((nI (6 * n)) + 2))), .int (xs (Int32.toNatClampNeg ((nI (6 * n)) + 3)))]) (rest := [.int r1]) ⟨hx, hb, hml, hown, hts⟩ (lF_fill l D hT hL (show n ≤ 600 by omega) (xs (Int32.toNatClampNeg ((nI (6 * n)) + 1))) (xs (Int32.toNatClampNeg ((nI (6 * n)) + 2))) (xs (Int32.toNatClampNeg ((nI (6 * n)) + 3)))  H.size) (cwV 3 hts (ur_gV mw652 mw653 mw654 mw11 mw655) rfl rfl rfl (by decide +kernel) ⟨(Nat.le_of_ble_eq_true rfl), (Nat.le_of_ble_eq_true rfl)⟩) ⟨ur_blind, va_recv hV (ur_one hI.1 (lw_unR hdj k0)) (ci := 7) (q0 := 0) rfl rfl, ur_pre hI hO hK (fun _ _ z9 => lw_unR hdj z9)⟩ rfl rfl hl.1 rfl (lv_room (Nat.le_of_ble_eq_true rfl)) dL_law_276 ⟨(by show _ ≤ 600000; omega), (by show _ ≤ 7302250; omega)⟩) hI (fun _ _ z9 => lw_unR hdj z9) (fun r2 h2 H locs p9 ap9 hI => ?_)
  obtain ⟨hdj, em9⟩ := lw_upF hdj ap9
  rw [em9] at hI
  obtain ⟨er2, T9, hT9, hL9⟩ := p9
  refine lv_icmp_eq (tgt := 529) hx hb dL_law_279 (by decide) (fun c3 => ?_) (fun c3 => absurd c3 (not_not_intro (er1.trans er2.symm)))
  refine W.widen (k := 51 + (n + 1)) (n := 169226 + 120 * (n + 1)) (by omega) (by omega) ?_
  exact next _ _ ls ⟨_, _, _, T9, ⟨a9, ha9, hA9, hR9⟩, hT9, hL9, hdj, hI⟩ hl
set_option maxHeartbeats 4000000 in
set_option maxRecDepth 100000 in
/-- word -/
theorem lw_c4 {p : Program} {e : Env} {s : State} {m : MethodId} {below : List Frame} {meth : Method} {c : Code} (l : Launch) {b0 L : Nat} {xs : Nat → Int32} {D : va_G} {E : ur_Ev} {Q : State → Prop} (hx : p.tables.exec = Jvm.exec) (hb : c.code = code) (hml : c.maxLocals = 4) (hown : s.vm.findClass "UnitRoomLaw" = some m.cls) (hts : ∀ w ∈ ur_G, w.before #[Value.ref b0] s = true) (hX : va_X b0 L xs s s.heap) (hbl : b0 < s.heap.size) (hbA : ¬ ur_A (fun _ => none) s.heap.size b0) (hK : ur_K D vwCl (ur_v E) s) (hO : ur_O (ur_v E) (ur_A (fun _ => none) s.heap.size) s s.heap) (hL3 : L ≤ 3072) {q : Nat} {b : Nat → Nat} {n : Nat} (hi : 6 * n + 6 ≤ L) (next : ∀ (H : Heap) (locs : List Loc) (ls : Array Slot), lw_W D E s q b (n + 1) H locs → lv_has ls 4 [(0, .ref b0), (1, .ref q), (2, .ref (b 0)), (3, .int (nI (6 * n)))] → W p l e room_1 s m #[Value.ref b0] below meth c H locs (51 + (n + 1)) (169226 + 120 * (n + 1)) Q (F0 m 529 ls [])) {H : Heap} {locs : List Loc} {ls : Array Slot} (hw : lw_W D E s q b n H locs) (hl : lv_has ls 4 [(0, .ref b0), (1, .ref q), (2, .ref (b 0)), (3, .int (nI (6 * n)))]) : W p l e room_1 s m #[Value.ref b0] below meth c H locs (51 + n) (169226 + 120 * n) Q (F0 m 284 ls []) := by
  obtain ⟨hC, hF, S, T, ⟨a, rfl, hA, hR⟩, hT, hL, hdj, hI⟩ := hw
  have hV := hK.1
  have g0 : hC (a.1 20 0) = some (.inr (0, [.ref (a.1 20 1), .ref (a.1 20 3), .ref (a.1 16 0), .ref (a.1 20 5), .long (lN (S.1 20 2)), .int (nI (S.1 20 0))])) := hR.core rfl
  have k0 : hF (b 0) = some (.inr (7, [.ref (b 1), .ref (b 2), .ref (b 3), .long (T.1.1), .ref (b 4), .ref (b 5), .ref (b 6), .ref (b 7), .int (T.1.2.1), .ref (b 8), .int (T.1.2.2.1), .ref (b 9), .ref (b 10), .ref (b 11), .ref (b 12), .ref (b 13), .int (T.1.2.2.2), .ref (b 14)])) := hT.obj
  refine lv_aload_n hx hb dL_law_284 rfl (lv_at hl 1 rfl) ?_
  refine lv_aload_n hx hb dL_law_285 rfl (lv_at hl 0 rfl) ?_
  refine lv_iload_n hx hb dL_law_286 rfl (lv_at hl 3 rfl) ?_
  refine lv_iconst (v := 1) hx hb dL_law_287 (by decide) ?_
  refine lv_iadd hx hb dL_law_288 ?_
  refine va_sld hx hb hX hbl hbA hI.2.2.1 (i := ((nI (6 * n)) + 1)) (by rw [show (1 : Int32) = nI 1 from rfl, nI_add]; exact vp_in_nI (by omega) (by omega)) dL_law_289 ?_
  refine ur_ci (h1 := hC) (va_runV (As := [.int (xs (Int32.toNatClampNeg ((nI (6 * n)) + 1)))]) (rest := []) ⟨hx, hb, hml, hown, hts⟩ (lU_word l D hR hA hL (show n ≤ 600 by omega) (xs (Int32.toNatClampNeg ((nI (6 * n)) + 1)))  H.size) (cwV 1 hts (ur_gV mw230 mw231 mw232 mw1 mw233) rfl rfl rfl (by decide +kernel) ⟨(Nat.le_of_ble_eq_true rfl), (Nat.le_of_ble_eq_true rfl)⟩) ⟨ur_blind, va_recv hV (ur_one hI.1 (lw_unL g0)) (ci := 0) (q0 := 0) rfl rfl, ur_pre hI hO hK (fun _ _ z9 => lw_unL z9)⟩ rfl rfl hl.1 rfl (lv_room (Nat.le_of_ble_eq_true rfl)) dL_law_290 ⟨(by show _ ≤ 600000; omega), (by show _ ≤ 7302250; omega)⟩) hI (fun _ _ z9 => lw_unL z9) (fun r1 h1 H locs p9 ap9 hI => ?_)
  obtain ⟨hdj, em9⟩ := lw_upC hdj ap9
  rw [em9] at hI
  obtain ⟨er1, a9, ha9, hA9, hR9⟩ := p9
  refine lv_aload_n hx hb dL_law_293 rfl (lv_at hl 2 rfl) ?_
  refine lv_aload_n hx hb dL_law_294 rfl (lv_at hl 0 rfl) ?_
  refine lv_iload_n hx hb dL_law_295 rfl (lv_at hl 3 rfl) ?_
  refine lv_iconst (v := 1) hx hb dL_law_296 (by decide) ?_
  refine lv_iadd hx hb dL_law_297 ?_
  refine va_sld hx hb hX hbl hbA hI.2.2.1 (i := ((nI (6 * n)) + 1)) (by rw [show (1 : Int32) = nI 1 from rfl, nI_add]; exact vp_in_nI (by omega) (by omega)) dL_law_298 ?_
  refine ur_ci (h1 := hF) (va_runV (As := [.int (xs (Int32.toNatClampNeg ((nI (6 * n)) + 1)))]) (rest := [.int r1]) ⟨hx, hb, hml, hown, hts⟩ (lF_word l D hT hL (show n ≤ 600 by omega) (xs (Int32.toNatClampNeg ((nI (6 * n)) + 1)))  H.size) (cwV 1 hts (ur_gV mw656 mw657 mw658 mw11 mw659) rfl rfl rfl (by decide +kernel) ⟨(Nat.le_of_ble_eq_true rfl), (Nat.le_of_ble_eq_true rfl)⟩) ⟨ur_blind, va_recv hV (ur_one hI.1 (lw_unR hdj k0)) (ci := 7) (q0 := 0) rfl rfl, ur_pre hI hO hK (fun _ _ z9 => lw_unR hdj z9)⟩ rfl rfl hl.1 rfl (lv_room (Nat.le_of_ble_eq_true rfl)) dL_law_299 ⟨(by show _ ≤ 600000; omega), (by show _ ≤ 7302250; omega)⟩) hI (fun _ _ z9 => lw_unR hdj z9) (fun r2 h2 H locs p9 ap9 hI => ?_)
  obtain ⟨hdj, em9⟩ := lw_upF hdj ap9
  rw [em9] at hI
  obtain ⟨er2, T9, hT9, hL9⟩ := p9
  refine lv_icmp_eq (tgt := 529) hx hb dL_law_302 (by decide) (fun c3 => ?_) (fun c3 => absurd c3 (not_not_intro (er1.trans er2.symm)))
  refine W.widen (k := 51 + (n + 1)) (n := 169226 + 120 * (n + 1)) (by omega) (by omega) ?_
  exact next _ _ ls ⟨_, _, _, T9, ⟨a9, ha9, hA9, hR9⟩, hT9, hL9, hdj, hI⟩ hl
set_option maxHeartbeats 4000000 in
set_option maxRecDepth 100000 in
/-- operate -/
theorem lw_c5 {p : Program} {e : Env} {s : State} {m : MethodId} {below : List Frame} {meth : Method} {c : Code} (l : Launch) {b0 L : Nat} {xs : Nat → Int32} {D : va_G} {E : ur_Ev} {Q : State → Prop} (hx : p.tables.exec = Jvm.exec) (hb : c.code = code) (hml : c.maxLocals = 4) (hown : s.vm.findClass "UnitRoomLaw" = some m.cls) (hts : ∀ w ∈ ur_G, w.before #[Value.ref b0] s = true) (hX : va_X b0 L xs s s.heap) (hbl : b0 < s.heap.size) (hbA : ¬ ur_A (fun _ => none) s.heap.size b0) (hK : ur_K D vwCl (ur_v E) s) (hO : ur_O (ur_v E) (ur_A (fun _ => none) s.heap.size) s s.heap) (hL3 : L ≤ 3072) {q : Nat} {b : Nat → Nat} {n : Nat} (hi : 6 * n + 6 ≤ L) (next : ∀ (H : Heap) (locs : List Loc) (ls : Array Slot), lw_W D E s q b (n + 1) H locs → lv_has ls 4 [(0, .ref b0), (1, .ref q), (2, .ref (b 0)), (3, .int (nI (6 * n)))] → W p l e room_1 s m #[Value.ref b0] below meth c H locs (51 + (n + 1)) (169226 + 120 * (n + 1)) Q (F0 m 529 ls [])) {H : Heap} {locs : List Loc} {ls : Array Slot} (hw : lw_W D E s q b n H locs) (hl : lv_has ls 4 [(0, .ref b0), (1, .ref q), (2, .ref (b 0)), (3, .int (nI (6 * n)))]) : W p l e room_1 s m #[Value.ref b0] below meth c H locs (51 + n) (169226 + 120 * n) Q (F0 m 307 ls []) := by
  obtain ⟨hC, hF, S, T, ⟨a, rfl, hA, hR⟩, hT, hL, hdj, hI⟩ := hw
  have hV := hK.1
  have g0 : hC (a.1 20 0) = some (.inr (0, [.ref (a.1 20 1), .ref (a.1 20 3), .ref (a.1 16 0), .ref (a.1 20 5), .long (lN (S.1 20 2)), .int (nI (S.1 20 0))])) := hR.core rfl
  have k0 : hF (b 0) = some (.inr (7, [.ref (b 1), .ref (b 2), .ref (b 3), .long (T.1.1), .ref (b 4), .ref (b 5), .ref (b 6), .ref (b 7), .int (T.1.2.1), .ref (b 8), .int (T.1.2.2.1), .ref (b 9), .ref (b 10), .ref (b 11), .ref (b 12), .ref (b 13), .int (T.1.2.2.2), .ref (b 14)])) := hT.obj
  by_cases hcs : um_opr S (xs (Int32.toNatClampNeg ((nI (6 * n)) + 1))) (xs (Int32.toNatClampNeg ((nI (6 * n)) + 2))) (xs (Int32.toNatClampNeg ((nI (6 * n)) + 3))) (xs (Int32.toNatClampNeg ((nI (6 * n)) + 4))) = 0
  · refine lv_aload_n hx hb dL_law_307 rfl (lv_at hl 1 rfl) ?_
    refine lv_aload_n hx hb dL_law_308 rfl (lv_at hl 0 rfl) ?_
    refine lv_iload_n hx hb dL_law_309 rfl (lv_at hl 3 rfl) ?_
    refine lv_iconst (v := 1) hx hb dL_law_310 (by decide) ?_
    refine lv_iadd hx hb dL_law_311 ?_
    refine va_sld hx hb hX hbl hbA hI.2.2.1 (i := ((nI (6 * n)) + 1)) (by rw [show (1 : Int32) = nI 1 from rfl, nI_add]; exact vp_in_nI (by omega) (by omega)) dL_law_312 ?_
    refine lv_aload_n hx hb dL_law_313 rfl (lv_at hl 0 rfl) ?_
    refine lv_iload_n hx hb dL_law_314 rfl (lv_at hl 3 rfl) ?_
    refine lv_iconst (v := 2) hx hb dL_law_315 (by decide) ?_
    refine lv_iadd hx hb dL_law_316 ?_
    refine va_sld hx hb hX hbl hbA hI.2.2.1 (i := ((nI (6 * n)) + 2)) (by rw [show (2 : Int32) = nI 2 from rfl, nI_add]; exact vp_in_nI (by omega) (by omega)) dL_law_317 ?_
    refine lv_aload_n hx hb dL_law_318 rfl (lv_at hl 0 rfl) ?_
    refine lv_iload_n hx hb dL_law_319 rfl (lv_at hl 3 rfl) ?_
    refine lv_iconst (v := 3) hx hb dL_law_320 (by decide) ?_
    refine lv_iadd hx hb dL_law_321 ?_
    refine va_sld hx hb hX hbl hbA hI.2.2.1 (i := ((nI (6 * n)) + 3)) (by rw [show (3 : Int32) = nI 3 from rfl, nI_add]; exact vp_in_nI (by omega) (by omega)) dL_law_322 ?_
    refine lv_aload_n hx hb dL_law_323 rfl (lv_at hl 0 rfl) ?_
    refine lv_iload_n hx hb dL_law_324 rfl (lv_at hl 3 rfl) ?_
    refine lv_iconst (v := 4) hx hb dL_law_325 (by decide) ?_
    refine lv_iadd hx hb dL_law_326 ?_
    refine va_sld hx hb hX hbl hbA hI.2.2.1 (i := ((nI (6 * n)) + 4)) (by rw [show (4 : Int32) = nI 4 from rfl, nI_add]; exact vp_in_nI (by omega) (by omega)) dL_law_327 ?_
    refine ur_ci (h1 := hC) (va_runV (As := [.int (xs (Int32.toNatClampNeg ((nI (6 * n)) + 1))), .int (xs (Int32.toNatClampNeg ((nI (6 * n)) + 2))), .int (xs (Int32.toNatClampNeg ((nI (6 * n)) + 3))), .int (xs (Int32.toNatClampNeg ((nI (6 * n)) + 4)))]) (rest := []) ⟨hx, hb, hml, hown, hts⟩ (lU_op l D hR hA hL (show n ≤ 600 by omega) (xs (Int32.toNatClampNeg ((nI (6 * n)) + 1))) (xs (Int32.toNatClampNeg ((nI (6 * n)) + 2))) (xs (Int32.toNatClampNeg ((nI (6 * n)) + 3))) (xs (Int32.toNatClampNeg ((nI (6 * n)) + 4)))  H.size) (cwV 4 hts (ur_gV mw239 mw240 mw241 mw1 mw242) rfl rfl rfl (by decide +kernel) ⟨(Nat.le_of_ble_eq_true rfl), (Nat.le_of_ble_eq_true rfl)⟩) ⟨ur_blind, va_recv hV (ur_one hI.1 (lw_unL g0)) (ci := 0) (q0 := 0) rfl rfl, ur_pre hI hO hK (fun _ _ z9 => lw_unL z9)⟩ rfl rfl hl.1 rfl (lv_room (Nat.le_of_ble_eq_true rfl)) dL_law_328 ⟨(by show _ ≤ 600000; omega), (by show _ ≤ 7302250; omega)⟩) hI (fun _ _ z9 => lw_unL z9) (fun r1 h1 H locs p9 ap9 hI => ?_)
    obtain ⟨hdj, em9⟩ := lw_upC hdj ap9
    rw [em9] at hI
    obtain ⟨er1, a9, ha9, hA9, hR9⟩ := p9
    refine lv_aload_n hx hb dL_law_331 rfl (lv_at hl 2 rfl) ?_
    refine lv_aload_n hx hb dL_law_332 rfl (lv_at hl 0 rfl) ?_
    refine lv_iload_n hx hb dL_law_333 rfl (lv_at hl 3 rfl) ?_
    refine lv_iconst (v := 1) hx hb dL_law_334 (by decide) ?_
    refine lv_iadd hx hb dL_law_335 ?_
    refine va_sld hx hb hX hbl hbA hI.2.2.1 (i := ((nI (6 * n)) + 1)) (by rw [show (1 : Int32) = nI 1 from rfl, nI_add]; exact vp_in_nI (by omega) (by omega)) dL_law_336 ?_
    refine lv_aload_n hx hb dL_law_337 rfl (lv_at hl 0 rfl) ?_
    refine lv_iload_n hx hb dL_law_338 rfl (lv_at hl 3 rfl) ?_
    refine lv_iconst (v := 2) hx hb dL_law_339 (by decide) ?_
    refine lv_iadd hx hb dL_law_340 ?_
    refine va_sld hx hb hX hbl hbA hI.2.2.1 (i := ((nI (6 * n)) + 2)) (by rw [show (2 : Int32) = nI 2 from rfl, nI_add]; exact vp_in_nI (by omega) (by omega)) dL_law_341 ?_
    refine lv_aload_n hx hb dL_law_342 rfl (lv_at hl 0 rfl) ?_
    refine lv_iload_n hx hb dL_law_343 rfl (lv_at hl 3 rfl) ?_
    refine lv_iconst (v := 3) hx hb dL_law_344 (by decide) ?_
    refine lv_iadd hx hb dL_law_345 ?_
    refine va_sld hx hb hX hbl hbA hI.2.2.1 (i := ((nI (6 * n)) + 3)) (by rw [show (3 : Int32) = nI 3 from rfl, nI_add]; exact vp_in_nI (by omega) (by omega)) dL_law_346 ?_
    refine lv_aload_n hx hb dL_law_347 rfl (lv_at hl 0 rfl) ?_
    refine lv_iload_n hx hb dL_law_348 rfl (lv_at hl 3 rfl) ?_
    refine lv_iconst (v := 4) hx hb dL_law_349 (by decide) ?_
    refine lv_iadd hx hb dL_law_350 ?_
    refine va_sld hx hb hX hbl hbA hI.2.2.1 (i := ((nI (6 * n)) + 4)) (by rw [show (4 : Int32) = nI 4 from rfl, nI_add]; exact vp_in_nI (by omega) (by omega)) dL_law_351 ?_
    refine ur_ci (h1 := hF) (va_runV (As := [.int (xs (Int32.toNatClampNeg ((nI (6 * n)) + 1))), .int (xs (Int32.toNatClampNeg ((nI (6 * n)) + 2))), .int (xs (Int32.toNatClampNeg ((nI (6 * n)) + 3))), .int (xs (Int32.toNatClampNeg ((nI (6 * n)) + 4)))]) (rest := [.int r1]) ⟨hx, hb, hml, hown, hts⟩ (lF_op l D hT hL (show n ≤ 600 by omega) (xs (Int32.toNatClampNeg ((nI (6 * n)) + 1))) (xs (Int32.toNatClampNeg ((nI (6 * n)) + 2))) (xs (Int32.toNatClampNeg ((nI (6 * n)) + 3))) (xs (Int32.toNatClampNeg ((nI (6 * n)) + 4))) hcs H.size) (cwV 4 hts (ur_gV mw665 mw666 mw667 mw11 mw668) rfl rfl rfl (by decide +kernel) ⟨(Nat.le_of_ble_eq_true rfl), (Nat.le_of_ble_eq_true rfl)⟩) ⟨ur_blind, va_recv hV (ur_one hI.1 (lw_unR hdj k0)) (ci := 7) (q0 := 0) rfl rfl, ur_pre hI hO hK (fun _ _ z9 => lw_unR hdj z9)⟩ rfl rfl hl.1 rfl (lv_room (Nat.le_of_ble_eq_true rfl)) dL_law_352 ⟨(by show _ ≤ 600000; omega), (by show _ ≤ 7302250; omega)⟩) hI (fun _ _ z9 => lw_unR hdj z9) (fun r2 h2 H locs p9 ap9 hI => ?_)
    obtain ⟨hdj, em9⟩ := lw_upF hdj ap9
    rw [em9] at hI
    obtain ⟨er2, T9, hT9, hL9⟩ := p9
    refine lv_icmp_eq (tgt := 529) hx hb dL_law_355 (by decide) (fun c3 => ?_) (fun c3 => absurd c3 (not_not_intro (er1.trans er2.symm)))
    refine W.widen (k := 51 + (n + 1)) (n := 169226 + 120 * (n + 1)) (by omega) (by omega) ?_
    exact next _ _ ls ⟨_, _, _, T9, ⟨a9, ha9, hA9, hR9⟩, hT9, hL9, hdj, hI⟩ hl
  · refine lv_aload_n hx hb dL_law_307 rfl (lv_at hl 1 rfl) ?_
    refine lv_aload_n hx hb dL_law_308 rfl (lv_at hl 0 rfl) ?_
    refine lv_iload_n hx hb dL_law_309 rfl (lv_at hl 3 rfl) ?_
    refine lv_iconst (v := 1) hx hb dL_law_310 (by decide) ?_
    refine lv_iadd hx hb dL_law_311 ?_
    refine va_sld hx hb hX hbl hbA hI.2.2.1 (i := ((nI (6 * n)) + 1)) (by rw [show (1 : Int32) = nI 1 from rfl, nI_add]; exact vp_in_nI (by omega) (by omega)) dL_law_312 ?_
    refine lv_aload_n hx hb dL_law_313 rfl (lv_at hl 0 rfl) ?_
    refine lv_iload_n hx hb dL_law_314 rfl (lv_at hl 3 rfl) ?_
    refine lv_iconst (v := 2) hx hb dL_law_315 (by decide) ?_
    refine lv_iadd hx hb dL_law_316 ?_
    refine va_sld hx hb hX hbl hbA hI.2.2.1 (i := ((nI (6 * n)) + 2)) (by rw [show (2 : Int32) = nI 2 from rfl, nI_add]; exact vp_in_nI (by omega) (by omega)) dL_law_317 ?_
    refine lv_aload_n hx hb dL_law_318 rfl (lv_at hl 0 rfl) ?_
    refine lv_iload_n hx hb dL_law_319 rfl (lv_at hl 3 rfl) ?_
    refine lv_iconst (v := 3) hx hb dL_law_320 (by decide) ?_
    refine lv_iadd hx hb dL_law_321 ?_
    refine va_sld hx hb hX hbl hbA hI.2.2.1 (i := ((nI (6 * n)) + 3)) (by rw [show (3 : Int32) = nI 3 from rfl, nI_add]; exact vp_in_nI (by omega) (by omega)) dL_law_322 ?_
    refine lv_aload_n hx hb dL_law_323 rfl (lv_at hl 0 rfl) ?_
    refine lv_iload_n hx hb dL_law_324 rfl (lv_at hl 3 rfl) ?_
    refine lv_iconst (v := 4) hx hb dL_law_325 (by decide) ?_
    refine lv_iadd hx hb dL_law_326 ?_
    refine va_sld hx hb hX hbl hbA hI.2.2.1 (i := ((nI (6 * n)) + 4)) (by rw [show (4 : Int32) = nI 4 from rfl, nI_add]; exact vp_in_nI (by omega) (by omega)) dL_law_327 ?_
    refine ur_ci (h1 := hC) (va_runV (As := [.int (xs (Int32.toNatClampNeg ((nI (6 * n)) + 1))), .int (xs (Int32.toNatClampNeg ((nI (6 * n)) + 2))), .int (xs (Int32.toNatClampNeg ((nI (6 * n)) + 3))), .int (xs (Int32.toNatClampNeg ((nI (6 * n)) + 4)))]) (rest := []) ⟨hx, hb, hml, hown, hts⟩ (lU_op l D hR hA hL (show n ≤ 600 by omega) (xs (Int32.toNatClampNeg ((nI (6 * n)) + 1))) (xs (Int32.toNatClampNeg ((nI (6 * n)) + 2))) (xs (Int32.toNatClampNeg ((nI (6 * n)) + 3))) (xs (Int32.toNatClampNeg ((nI (6 * n)) + 4)))  H.size) (cwV 4 hts (ur_gV mw239 mw240 mw241 mw1 mw242) rfl rfl rfl (by decide +kernel) ⟨(Nat.le_of_ble_eq_true rfl), (Nat.le_of_ble_eq_true rfl)⟩) ⟨ur_blind, va_recv hV (ur_one hI.1 (lw_unL g0)) (ci := 0) (q0 := 0) rfl rfl, ur_pre hI hO hK (fun _ _ z9 => lw_unL z9)⟩ rfl rfl hl.1 rfl (lv_room (Nat.le_of_ble_eq_true rfl)) dL_law_328 ⟨(by show _ ≤ 600000; omega), (by show _ ≤ 7302250; omega)⟩) hI (fun _ _ z9 => lw_unL z9) (fun r4 h4 H locs p9 ap9 hI => ?_)
    obtain ⟨hdj, em9⟩ := lw_upC hdj ap9
    rw [em9] at hI
    obtain ⟨er1, a9, ha9, hA9, hR9⟩ := p9
    refine lv_aload_n hx hb dL_law_331 rfl (lv_at hl 2 rfl) ?_
    refine lv_aload_n hx hb dL_law_332 rfl (lv_at hl 0 rfl) ?_
    refine lv_iload_n hx hb dL_law_333 rfl (lv_at hl 3 rfl) ?_
    refine lv_iconst (v := 1) hx hb dL_law_334 (by decide) ?_
    refine lv_iadd hx hb dL_law_335 ?_
    refine va_sld hx hb hX hbl hbA hI.2.2.1 (i := ((nI (6 * n)) + 1)) (by rw [show (1 : Int32) = nI 1 from rfl, nI_add]; exact vp_in_nI (by omega) (by omega)) dL_law_336 ?_
    refine lv_aload_n hx hb dL_law_337 rfl (lv_at hl 0 rfl) ?_
    refine lv_iload_n hx hb dL_law_338 rfl (lv_at hl 3 rfl) ?_
    refine lv_iconst (v := 2) hx hb dL_law_339 (by decide) ?_
    refine lv_iadd hx hb dL_law_340 ?_
    refine va_sld hx hb hX hbl hbA hI.2.2.1 (i := ((nI (6 * n)) + 2)) (by rw [show (2 : Int32) = nI 2 from rfl, nI_add]; exact vp_in_nI (by omega) (by omega)) dL_law_341 ?_
    refine lv_aload_n hx hb dL_law_342 rfl (lv_at hl 0 rfl) ?_
    refine lv_iload_n hx hb dL_law_343 rfl (lv_at hl 3 rfl) ?_
    refine lv_iconst (v := 3) hx hb dL_law_344 (by decide) ?_
    refine lv_iadd hx hb dL_law_345 ?_
    refine va_sld hx hb hX hbl hbA hI.2.2.1 (i := ((nI (6 * n)) + 3)) (by rw [show (3 : Int32) = nI 3 from rfl, nI_add]; exact vp_in_nI (by omega) (by omega)) dL_law_346 ?_
    refine lv_aload_n hx hb dL_law_347 rfl (lv_at hl 0 rfl) ?_
    refine lv_iload_n hx hb dL_law_348 rfl (lv_at hl 3 rfl) ?_
    refine lv_iconst (v := 4) hx hb dL_law_349 (by decide) ?_
    refine lv_iadd hx hb dL_law_350 ?_
    refine va_sld hx hb hX hbl hbA hI.2.2.1 (i := ((nI (6 * n)) + 4)) (by rw [show (4 : Int32) = nI 4 from rfl, nI_add]; exact vp_in_nI (by omega) (by omega)) dL_law_351 ?_
    refine ur_ci (h1 := hF) (va_runV (As := [.int (xs (Int32.toNatClampNeg ((nI (6 * n)) + 1))), .int (xs (Int32.toNatClampNeg ((nI (6 * n)) + 2))), .int (xs (Int32.toNatClampNeg ((nI (6 * n)) + 3))), .int (xs (Int32.toNatClampNeg ((nI (6 * n)) + 4)))]) (rest := [.int r4]) ⟨hx, hb, hml, hown, hts⟩ (lF_opE l D hT hL (show n ≤ 600 by omega) (xs (Int32.toNatClampNeg ((nI (6 * n)) + 1))) (xs (Int32.toNatClampNeg ((nI (6 * n)) + 2))) (xs (Int32.toNatClampNeg ((nI (6 * n)) + 3))) (xs (Int32.toNatClampNeg ((nI (6 * n)) + 4))) hcs H.size) (cwV 4 hts (ur_gV mw665 mw666 mw667 mw11 mw668) rfl rfl rfl (by decide +kernel) ⟨(Nat.le_of_ble_eq_true rfl), (Nat.le_of_ble_eq_true rfl)⟩) ⟨ur_blind, va_recv hV (ur_one hI.1 (lw_unR hdj k0)) (ci := 7) (q0 := 0) rfl rfl, ur_pre hI hO hK (fun _ _ z9 => lw_unR hdj z9)⟩ rfl rfl hl.1 rfl (lv_room (Nat.le_of_ble_eq_true rfl)) dL_law_352 ⟨(by show _ ≤ 600000; omega), (by show _ ≤ 7302250; omega)⟩) hI (fun _ _ z9 => lw_unR hdj z9) (fun r5 h5 H locs p9 ap9 hI => ?_)
    obtain ⟨hdj, em9⟩ := lw_upF hdj ap9
    rw [em9] at hI
    obtain ⟨er2, T9, hT9, hL9⟩ := p9
    refine lv_icmp_eq (tgt := 529) hx hb dL_law_355 (by decide) (fun c6 => ?_) (fun c6 => absurd c6 (not_not_intro (er1.trans er2.symm)))
    refine W.widen (k := 51 + (n + 1)) (n := 169226 + 120 * (n + 1)) (by omega) (by omega) ?_
    exact next _ _ ls ⟨_, _, _, T9, ⟨a9, ha9, hA9, hR9⟩, hT9, hL9, hdj, hI⟩ hl
set_option maxHeartbeats 4000000 in
set_option maxRecDepth 100000 in
/-- isBusy -/
theorem lw_c6 {p : Program} {e : Env} {s : State} {m : MethodId} {below : List Frame} {meth : Method} {c : Code} (l : Launch) {b0 L : Nat} {xs : Nat → Int32} {D : va_G} {E : ur_Ev} {Q : State → Prop} (hx : p.tables.exec = Jvm.exec) (hb : c.code = code) (hml : c.maxLocals = 4) (hown : s.vm.findClass "UnitRoomLaw" = some m.cls) (hts : ∀ w ∈ ur_G, w.before #[Value.ref b0] s = true) (hX : va_X b0 L xs s s.heap) (hbl : b0 < s.heap.size) (hbA : ¬ ur_A (fun _ => none) s.heap.size b0) (hK : ur_K D vwCl (ur_v E) s) (hO : ur_O (ur_v E) (ur_A (fun _ => none) s.heap.size) s s.heap) (hL3 : L ≤ 3072) {q : Nat} {b : Nat → Nat} {n : Nat} (hi : 6 * n + 6 ≤ L) (next : ∀ (H : Heap) (locs : List Loc) (ls : Array Slot), lw_W D E s q b (n + 1) H locs → lv_has ls 4 [(0, .ref b0), (1, .ref q), (2, .ref (b 0)), (3, .int (nI (6 * n)))] → W p l e room_1 s m #[Value.ref b0] below meth c H locs (51 + (n + 1)) (169226 + 120 * (n + 1)) Q (F0 m 529 ls [])) {H : Heap} {locs : List Loc} {ls : Array Slot} (hw : lw_W D E s q b n H locs) (hl : lv_has ls 4 [(0, .ref b0), (1, .ref q), (2, .ref (b 0)), (3, .int (nI (6 * n)))]) : W p l e room_1 s m #[Value.ref b0] below meth c H locs (51 + n) (169226 + 120 * n) Q (F0 m 360 ls []) := by
  obtain ⟨hC, hF, S, T, ⟨a, rfl, hA, hR⟩, hT, hL, hdj, hI⟩ := hw
  have hV := hK.1
  have g0 : hC (a.1 20 0) = some (.inr (0, [.ref (a.1 20 1), .ref (a.1 20 3), .ref (a.1 16 0), .ref (a.1 20 5), .long (lN (S.1 20 2)), .int (nI (S.1 20 0))])) := hR.core rfl
  have k0 : hF (b 0) = some (.inr (7, [.ref (b 1), .ref (b 2), .ref (b 3), .long (T.1.1), .ref (b 4), .ref (b 5), .ref (b 6), .ref (b 7), .int (T.1.2.1), .ref (b 8), .int (T.1.2.2.1), .ref (b 9), .ref (b 10), .ref (b 11), .ref (b 12), .ref (b 13), .int (T.1.2.2.2), .ref (b 14)])) := hT.obj
  refine lv_aload_n hx hb dL_law_360 rfl (lv_at hl 1 rfl) ?_
  refine lv_aload_n hx hb dL_law_361 rfl (lv_at hl 0 rfl) ?_
  refine lv_iload_n hx hb dL_law_362 rfl (lv_at hl 3 rfl) ?_
  refine lv_iconst (v := 1) hx hb dL_law_363 (by decide) ?_
  refine lv_iadd hx hb dL_law_364 ?_
  refine va_sld hx hb hX hbl hbA hI.2.2.1 (i := ((nI (6 * n)) + 1)) (by rw [show (1 : Int32) = nI 1 from rfl, nI_add]; exact vp_in_nI (by omega) (by omega)) dL_law_365 ?_
  refine ur_ci (h1 := hC) (va_runV (As := [.int (xs (Int32.toNatClampNeg ((nI (6 * n)) + 1)))]) (rest := []) ⟨hx, hb, hml, hown, hts⟩ (lU_busy l D hR hA hL (show n ≤ 600 by omega) (xs (Int32.toNatClampNeg ((nI (6 * n)) + 1)))  H.size) (cwV 1 hts (ur_gV mw444 mw445 mw446 mw1 mw447) rfl rfl rfl (by decide +kernel) ⟨(Nat.le_of_ble_eq_true rfl), (Nat.le_of_ble_eq_true rfl)⟩) ⟨ur_blind, va_recv hV (ur_one hI.1 (lw_unL g0)) (ci := 0) (q0 := 0) rfl rfl, ur_pre hI hO hK (fun _ _ z9 => lw_unL z9)⟩ rfl rfl hl.1 rfl (lv_room (Nat.le_of_ble_eq_true rfl)) dL_law_366 ⟨(by show _ ≤ 600000; omega), (by show _ ≤ 7302250; omega)⟩) hI (fun _ _ z9 => lw_unL z9) (fun r1 h1 H locs p9 ap9 hI => ?_)
  obtain ⟨hdj, em9⟩ := lw_upC hdj ap9
  rw [em9] at hI
  obtain ⟨er1, a9, ha9, hA9, hR9⟩ := p9
  refine lv_aload_n hx hb dL_law_369 rfl (lv_at hl 2 rfl) ?_
  refine lv_aload_n hx hb dL_law_370 rfl (lv_at hl 0 rfl) ?_
  refine lv_iload_n hx hb dL_law_371 rfl (lv_at hl 3 rfl) ?_
  refine lv_iconst (v := 1) hx hb dL_law_372 (by decide) ?_
  refine lv_iadd hx hb dL_law_373 ?_
  refine va_sld hx hb hX hbl hbA hI.2.2.1 (i := ((nI (6 * n)) + 1)) (by rw [show (1 : Int32) = nI 1 from rfl, nI_add]; exact vp_in_nI (by omega) (by omega)) dL_law_374 ?_
  refine ur_ci (h1 := hF) (va_runV (As := [.int (xs (Int32.toNatClampNeg ((nI (6 * n)) + 1)))]) (rest := [.int r1]) ⟨hx, hb, hml, hown, hts⟩ (lF_busy l D hT hL (show n ≤ 600 by omega) (xs (Int32.toNatClampNeg ((nI (6 * n)) + 1)))  H.size) (cwV 1 hts (ur_gV mw722 mw723 mw724 mw11 mw725) rfl rfl rfl (by decide +kernel) ⟨(Nat.le_of_ble_eq_true rfl), (Nat.le_of_ble_eq_true rfl)⟩) ⟨ur_blind, va_recv hV (ur_one hI.1 (lw_unR hdj k0)) (ci := 7) (q0 := 0) rfl rfl, ur_pre hI hO hK (fun _ _ z9 => lw_unR hdj z9)⟩ rfl rfl hl.1 rfl (lv_room (Nat.le_of_ble_eq_true rfl)) dL_law_375 ⟨(by show _ ≤ 600000; omega), (by show _ ≤ 7302250; omega)⟩) hI (fun _ _ z9 => lw_unR hdj z9) (fun r2 h2 H locs p9 ap9 hI => ?_)
  obtain ⟨hdj, em9⟩ := lw_upF hdj ap9
  rw [em9] at hI
  obtain ⟨er2, T9, hT9, hL9⟩ := p9
  refine lv_icmp_eq (tgt := 529) hx hb dL_law_378 (by decide) (fun c3 => ?_) (fun c3 => absurd c3 (not_not_intro (er1.trans er2.symm)))
  refine W.widen (k := 51 + (n + 1)) (n := 169226 + 120 * (n + 1)) (by omega) (by omega) ?_
  exact next _ _ ls ⟨_, _, _, T9, ⟨a9, ha9, hA9, hR9⟩, hT9, hL9, hdj, hI⟩ hl
set_option maxHeartbeats 4000000 in
set_option maxRecDepth 100000 in
/-- pass -/
theorem lw_c7 {p : Program} {e : Env} {s : State} {m : MethodId} {below : List Frame} {meth : Method} {c : Code} (l : Launch) {b0 L : Nat} {xs : Nat → Int32} {D : va_G} {E : ur_Ev} {Q : State → Prop} (hx : p.tables.exec = Jvm.exec) (hb : c.code = code) (hml : c.maxLocals = 4) (hown : s.vm.findClass "UnitRoomLaw" = some m.cls) (hts : ∀ w ∈ ur_G, w.before #[Value.ref b0] s = true) (hX : va_X b0 L xs s s.heap) (hbl : b0 < s.heap.size) (hbA : ¬ ur_A (fun _ => none) s.heap.size b0) (hK : ur_K D vwCl (ur_v E) s) (hO : ur_O (ur_v E) (ur_A (fun _ => none) s.heap.size) s s.heap) (hL3 : L ≤ 3072) {q : Nat} {b : Nat → Nat} {n : Nat} (hi : 6 * n + 6 ≤ L) (next : ∀ (H : Heap) (locs : List Loc) (ls : Array Slot), lw_W D E s q b (n + 1) H locs → lv_has ls 4 [(0, .ref b0), (1, .ref q), (2, .ref (b 0)), (3, .int (nI (6 * n)))] → W p l e room_1 s m #[Value.ref b0] below meth c H locs (51 + (n + 1)) (169226 + 120 * (n + 1)) Q (F0 m 529 ls [])) {H : Heap} {locs : List Loc} {ls : Array Slot} (hw : lw_W D E s q b n H locs) (hl : lv_has ls 4 [(0, .ref b0), (1, .ref q), (2, .ref (b 0)), (3, .int (nI (6 * n)))]) : W p l e room_1 s m #[Value.ref b0] below meth c H locs (51 + n) (169226 + 120 * n) Q (F0 m 383 ls []) := by
  obtain ⟨hC, hF, S, T, ⟨a, rfl, hA, hR⟩, hT, hL, hdj, hI⟩ := hw
  have hV := hK.1
  have g0 : hC (a.1 20 0) = some (.inr (0, [.ref (a.1 20 1), .ref (a.1 20 3), .ref (a.1 16 0), .ref (a.1 20 5), .long (lN (S.1 20 2)), .int (nI (S.1 20 0))])) := hR.core rfl
  have k0 : hF (b 0) = some (.inr (7, [.ref (b 1), .ref (b 2), .ref (b 3), .long (T.1.1), .ref (b 4), .ref (b 5), .ref (b 6), .ref (b 7), .int (T.1.2.1), .ref (b 8), .int (T.1.2.2.1), .ref (b 9), .ref (b 10), .ref (b 11), .ref (b 12), .ref (b 13), .int (T.1.2.2.2), .ref (b 14)])) := hT.obj
  refine lv_aload_n hx hb dL_law_383 rfl (lv_at hl 1 rfl) ?_
  refine lv_aload_n hx hb dL_law_384 rfl (lv_at hl 0 rfl) ?_
  refine lv_iload_n hx hb dL_law_385 rfl (lv_at hl 3 rfl) ?_
  refine lv_iconst (v := 1) hx hb dL_law_386 (by decide) ?_
  refine lv_iadd hx hb dL_law_387 ?_
  refine va_sld hx hb hX hbl hbA hI.2.2.1 (i := ((nI (6 * n)) + 1)) (by rw [show (1 : Int32) = nI 1 from rfl, nI_add]; exact vp_in_nI (by omega) (by omega)) dL_law_388 ?_
  refine ur_cl (h1 := hC) (va_runV (As := [.int (xs (Int32.toNatClampNeg ((nI (6 * n)) + 1)))]) (rest := []) ⟨hx, hb, hml, hown, hts⟩ (lU_pass l D hR hA hL (show n ≤ 600 by omega) (xs (Int32.toNatClampNeg ((nI (6 * n)) + 1)))  H.size) (cwV 1 hts (ur_gV mw448 mw449 mw450 mw1 mw451) rfl rfl rfl (by decide +kernel) ⟨(Nat.le_of_ble_eq_true rfl), (Nat.le_of_ble_eq_true rfl)⟩) ⟨ur_blind, va_recv hV (ur_one hI.1 (lw_unL g0)) (ci := 0) (q0 := 0) rfl rfl, ur_pre hI hO hK (fun _ _ z9 => lw_unL z9)⟩ rfl rfl hl.1 rfl (lv_room (Nat.le_of_ble_eq_true rfl)) dL_law_389 ⟨(by show _ ≤ 600000; omega), (by show _ ≤ 7302250; omega)⟩) hI (fun _ _ z9 => lw_unL z9) (fun r1 h1 H locs p9 ap9 hI => ?_)
  obtain ⟨hdj, em9⟩ := lw_upC hdj ap9
  rw [em9] at hI
  obtain ⟨er1, a9, ha9, hA9, hR9⟩ := p9
  refine lv_aload_n hx hb dL_law_392 rfl (lv_at hl 2 rfl) ?_
  refine lv_aload_n hx hb dL_law_393 rfl (lv_at hl 0 rfl) ?_
  refine lv_iload_n hx hb dL_law_394 rfl (lv_at hl 3 rfl) ?_
  refine lv_iconst (v := 1) hx hb dL_law_395 (by decide) ?_
  refine lv_iadd hx hb dL_law_396 ?_
  refine va_sld hx hb hX hbl hbA hI.2.2.1 (i := ((nI (6 * n)) + 1)) (by rw [show (1 : Int32) = nI 1 from rfl, nI_add]; exact vp_in_nI (by omega) (by omega)) dL_law_397 ?_
  refine ur_cl (h1 := hF) (va_runV (As := [.int (xs (Int32.toNatClampNeg ((nI (6 * n)) + 1)))]) (rest := [.long r1]) ⟨hx, hb, hml, hown, hts⟩ (lF_pass l D hT hL (show n ≤ 600 by omega) (xs (Int32.toNatClampNeg ((nI (6 * n)) + 1)))  H.size) (cwV 1 hts (ur_gV mw726 mw727 mw728 mw11 mw729) rfl rfl rfl (by decide +kernel) ⟨(Nat.le_of_ble_eq_true rfl), (Nat.le_of_ble_eq_true rfl)⟩) ⟨ur_blind, va_recv hV (ur_one hI.1 (lw_unR hdj k0)) (ci := 7) (q0 := 0) rfl rfl, ur_pre hI hO hK (fun _ _ z9 => lw_unR hdj z9)⟩ rfl rfl hl.1 rfl (lv_room (Nat.le_of_ble_eq_true rfl)) dL_law_398 ⟨(by show _ ≤ 600000; omega), (by show _ ≤ 7302250; omega)⟩) hI (fun _ _ z9 => lw_unR hdj z9) (fun r2 h2 H locs p9 ap9 hI => ?_)
  obtain ⟨hdj, em9⟩ := lw_upF hdj ap9
  rw [em9] at hI
  obtain ⟨er2, T9, hT9, hL9⟩ := p9
  refine W.lcmp hx hb dL_law_401 ?_
  refine lv_if_eq (tgt := 529) hx hb dL_law_402 (by decide) (fun c3 => ?_) (fun c3 => absurd c3 (not_not_intro (by rw [er1, er2]; exact lw_cmp _)))
  refine W.widen (k := 51 + (n + 1)) (n := 169226 + 120 * (n + 1)) (by omega) (by omega) ?_
  exact next _ _ ls ⟨_, _, _, T9, ⟨a9, ha9, hA9, hR9⟩, hT9, hL9, hdj, hI⟩ hl
set_option maxHeartbeats 4000000 in
set_option maxRecDepth 100000 in
/-- card -/
theorem lw_c8 {p : Program} {e : Env} {s : State} {m : MethodId} {below : List Frame} {meth : Method} {c : Code} (l : Launch) {b0 L : Nat} {xs : Nat → Int32} {D : va_G} {E : ur_Ev} {Q : State → Prop} (hx : p.tables.exec = Jvm.exec) (hb : c.code = code) (hml : c.maxLocals = 4) (hown : s.vm.findClass "UnitRoomLaw" = some m.cls) (hts : ∀ w ∈ ur_G, w.before #[Value.ref b0] s = true) (hX : va_X b0 L xs s s.heap) (hbl : b0 < s.heap.size) (hbA : ¬ ur_A (fun _ => none) s.heap.size b0) (hK : ur_K D vwCl (ur_v E) s) (hO : ur_O (ur_v E) (ur_A (fun _ => none) s.heap.size) s s.heap) (hL3 : L ≤ 3072) {q : Nat} {b : Nat → Nat} {n : Nat} (hi : 6 * n + 6 ≤ L) (next : ∀ (H : Heap) (locs : List Loc) (ls : Array Slot), lw_W D E s q b (n + 1) H locs → lv_has ls 4 [(0, .ref b0), (1, .ref q), (2, .ref (b 0)), (3, .int (nI (6 * n)))] → W p l e room_1 s m #[Value.ref b0] below meth c H locs (51 + (n + 1)) (169226 + 120 * (n + 1)) Q (F0 m 529 ls [])) {H : Heap} {locs : List Loc} {ls : Array Slot} (hw : lw_W D E s q b n H locs) (hl : lv_has ls 4 [(0, .ref b0), (1, .ref q), (2, .ref (b 0)), (3, .int (nI (6 * n)))]) : W p l e room_1 s m #[Value.ref b0] below meth c H locs (51 + n) (169226 + 120 * n) Q (F0 m 407 ls []) := by
  obtain ⟨hC, hF, S, T, ⟨a, rfl, hA, hR⟩, hT, hL, hdj, hI⟩ := hw
  have hV := hK.1
  have g0 : hC (a.1 20 0) = some (.inr (0, [.ref (a.1 20 1), .ref (a.1 20 3), .ref (a.1 16 0), .ref (a.1 20 5), .long (lN (S.1 20 2)), .int (nI (S.1 20 0))])) := hR.core rfl
  have k0 : hF (b 0) = some (.inr (7, [.ref (b 1), .ref (b 2), .ref (b 3), .long (T.1.1), .ref (b 4), .ref (b 5), .ref (b 6), .ref (b 7), .int (T.1.2.1), .ref (b 8), .int (T.1.2.2.1), .ref (b 9), .ref (b 10), .ref (b 11), .ref (b 12), .ref (b 13), .int (T.1.2.2.2), .ref (b 14)])) := hT.obj
  by_cases hcs : S.1 16 3 < 100
  · refine lv_aload_n hx hb dL_law_407 rfl (lv_at hl 1 rfl) ?_
    refine ur_ci (h1 := hC) (va_runV (As := []) (rest := []) ⟨hx, hb, hml, hown, hts⟩ (lU_card l D hR hA hL (show n ≤ 600 by omega)  hcs H.size) (cwV 0 hts (ur_gV mw456 mw457 mw458 mw1 mw459) rfl rfl rfl (by decide +kernel) ⟨(Nat.le_of_ble_eq_true rfl), (Nat.le_of_ble_eq_true rfl)⟩) ⟨ur_blind, va_recv hV (ur_one hI.1 (lw_unL g0)) (ci := 0) (q0 := 0) rfl rfl, ur_pre hI hO hK (fun _ _ z9 => lw_unL z9)⟩ rfl rfl hl.1 rfl (lv_room (Nat.le_of_ble_eq_true rfl)) dL_law_408 ⟨(by show _ ≤ 600000; omega), (by show _ ≤ 7302250; omega)⟩) hI (fun _ _ z9 => lw_unL z9) (fun r1 h1 H locs p9 ap9 hI => ?_)
    obtain ⟨hdj, em9⟩ := lw_upC hdj ap9
    rw [em9] at hI
    obtain ⟨er1, a9, ha9, hA9, hR9⟩ := p9
    refine lv_aload_n hx hb dL_law_411 rfl (lv_at hl 2 rfl) ?_
    refine ur_ci (h1 := hF) (va_runV (As := []) (rest := [.int r1]) ⟨hx, hb, hml, hown, hts⟩ (lF_card l D hT hL (show n ≤ 600 by omega)  hcs H.size) (cwV 0 hts (ur_gV mw730 mw731 mw732 mw11 mw733) rfl rfl rfl (by decide +kernel) ⟨(Nat.le_of_ble_eq_true rfl), (Nat.le_of_ble_eq_true rfl)⟩) ⟨ur_blind, va_recv hV (ur_one hI.1 (lw_unR hdj k0)) (ci := 7) (q0 := 0) rfl rfl, ur_pre hI hO hK (fun _ _ z9 => lw_unR hdj z9)⟩ rfl rfl hl.1 rfl (lv_room (Nat.le_of_ble_eq_true rfl)) dL_law_412 ⟨(by show _ ≤ 600000; omega), (by show _ ≤ 7302250; omega)⟩) hI (fun _ _ z9 => lw_unR hdj z9) (fun r2 h2 H locs p9 ap9 hI => ?_)
    obtain ⟨hdj, em9⟩ := lw_upF hdj ap9
    rw [em9] at hI
    obtain ⟨er2, T9, hT9, hL9⟩ := p9
    refine lv_icmp_eq (tgt := 529) hx hb dL_law_415 (by decide) (fun c3 => ?_) (fun c3 => absurd c3 (not_not_intro (er1.trans er2.symm)))
    refine W.widen (k := 51 + (n + 1)) (n := 169226 + 120 * (n + 1)) (by omega) (by omega) ?_
    exact next _ _ ls ⟨_, _, _, T9, ⟨a9, ha9, hA9, hR9⟩, hT9, hL9, hdj, hI⟩ hl
  · refine lv_aload_n hx hb dL_law_407 rfl (lv_at hl 1 rfl) ?_
    refine ur_ci (h1 := hC) (va_runV (As := []) (rest := []) ⟨hx, hb, hml, hown, hts⟩ (lU_cardF l D hR hA hL (show n ≤ 600 by omega)  hcs H.size) (cwV 0 hts (ur_gV mw456 mw457 mw458 mw1 mw459) rfl rfl rfl (by decide +kernel) ⟨(Nat.le_of_ble_eq_true rfl), (Nat.le_of_ble_eq_true rfl)⟩) ⟨ur_blind, va_recv hV (ur_one hI.1 (lw_unL g0)) (ci := 0) (q0 := 0) rfl rfl, ur_pre hI hO hK (fun _ _ z9 => lw_unL z9)⟩ rfl rfl hl.1 rfl (lv_room (Nat.le_of_ble_eq_true rfl)) dL_law_408 ⟨(by show _ ≤ 600000; omega), (by show _ ≤ 7302250; omega)⟩) hI (fun _ _ z9 => lw_unL z9) (fun r4 h4 H locs p9 ap9 hI => ?_)
    obtain ⟨hdj, em9⟩ := lw_upC hdj ap9
    rw [em9] at hI
    obtain ⟨er1, a9, ha9, hA9, hR9⟩ := p9
    refine lv_aload_n hx hb dL_law_411 rfl (lv_at hl 2 rfl) ?_
    refine ur_ci (h1 := hF) (va_runV (As := []) (rest := [.int r4]) ⟨hx, hb, hml, hown, hts⟩ (lF_cardF l D hT hL (show n ≤ 600 by omega)  hcs H.size) (cwV 0 hts (ur_gV mw730 mw731 mw732 mw11 mw733) rfl rfl rfl (by decide +kernel) ⟨(Nat.le_of_ble_eq_true rfl), (Nat.le_of_ble_eq_true rfl)⟩) ⟨ur_blind, va_recv hV (ur_one hI.1 (lw_unR hdj k0)) (ci := 7) (q0 := 0) rfl rfl, ur_pre hI hO hK (fun _ _ z9 => lw_unR hdj z9)⟩ rfl rfl hl.1 rfl (lv_room (Nat.le_of_ble_eq_true rfl)) dL_law_412 ⟨(by show _ ≤ 600000; omega), (by show _ ≤ 7302250; omega)⟩) hI (fun _ _ z9 => lw_unR hdj z9) (fun r5 h5 H locs p9 ap9 hI => ?_)
    obtain ⟨hdj, em9⟩ := lw_upF hdj ap9
    rw [em9] at hI
    obtain ⟨er2, T9, hT9, hL9⟩ := p9
    refine lv_icmp_eq (tgt := 529) hx hb dL_law_415 (by decide) (fun c6 => ?_) (fun c6 => absurd c6 (not_not_intro (er1.trans er2.symm)))
    refine W.widen (k := 51 + (n + 1)) (n := 169226 + 120 * (n + 1)) (by omega) (by omega) ?_
    exact next _ _ ls ⟨_, _, _, T9, ⟨a9, ha9, hA9, hR9⟩, hT9, hL9, hdj, hI⟩ hl
set_option maxHeartbeats 4000000 in
set_option maxRecDepth 100000 in
/-- unit -/
theorem lw_c9 {p : Program} {e : Env} {s : State} {m : MethodId} {below : List Frame} {meth : Method} {c : Code} (l : Launch) {b0 L : Nat} {xs : Nat → Int32} {D : va_G} {E : ur_Ev} {Q : State → Prop} (hx : p.tables.exec = Jvm.exec) (hb : c.code = code) (hml : c.maxLocals = 4) (hown : s.vm.findClass "UnitRoomLaw" = some m.cls) (hts : ∀ w ∈ ur_G, w.before #[Value.ref b0] s = true) (hX : va_X b0 L xs s s.heap) (hbl : b0 < s.heap.size) (hbA : ¬ ur_A (fun _ => none) s.heap.size b0) (hK : ur_K D vwCl (ur_v E) s) (hO : ur_O (ur_v E) (ur_A (fun _ => none) s.heap.size) s s.heap) (hL3 : L ≤ 3072) {q : Nat} {b : Nat → Nat} {n : Nat} (hi : 6 * n + 6 ≤ L) (next : ∀ (H : Heap) (locs : List Loc) (ls : Array Slot), lw_W D E s q b (n + 1) H locs → lv_has ls 4 [(0, .ref b0), (1, .ref q), (2, .ref (b 0)), (3, .int (nI (6 * n)))] → W p l e room_1 s m #[Value.ref b0] below meth c H locs (51 + (n + 1)) (169226 + 120 * (n + 1)) Q (F0 m 529 ls [])) {H : Heap} {locs : List Loc} {ls : Array Slot} (hw : lw_W D E s q b n H locs) (hl : lv_has ls 4 [(0, .ref b0), (1, .ref q), (2, .ref (b 0)), (3, .int (nI (6 * n)))]) : W p l e room_1 s m #[Value.ref b0] below meth c H locs (51 + n) (169226 + 120 * n) Q (F0 m 420 ls []) := by
  obtain ⟨hC, hF, S, T, ⟨a, rfl, hA, hR⟩, hT, hL, hdj, hI⟩ := hw
  have hV := hK.1
  have g0 : hC (a.1 20 0) = some (.inr (0, [.ref (a.1 20 1), .ref (a.1 20 3), .ref (a.1 16 0), .ref (a.1 20 5), .long (lN (S.1 20 2)), .int (nI (S.1 20 0))])) := hR.core rfl
  have k0 : hF (b 0) = some (.inr (7, [.ref (b 1), .ref (b 2), .ref (b 3), .long (T.1.1), .ref (b 4), .ref (b 5), .ref (b 6), .ref (b 7), .int (T.1.2.1), .ref (b 8), .int (T.1.2.2.1), .ref (b 9), .ref (b 10), .ref (b 11), .ref (b 12), .ref (b 13), .int (T.1.2.2.2), .ref (b 14)])) := hT.obj
  refine lv_aload_n hx hb dL_law_420 rfl (lv_at hl 1 rfl) ?_
  refine lv_aload_n hx hb dL_law_421 rfl (lv_at hl 0 rfl) ?_
  refine lv_iload_n hx hb dL_law_422 rfl (lv_at hl 3 rfl) ?_
  refine lv_iconst (v := 1) hx hb dL_law_423 (by decide) ?_
  refine lv_iadd hx hb dL_law_424 ?_
  refine va_sld hx hb hX hbl hbA hI.2.2.1 (i := ((nI (6 * n)) + 1)) (by rw [show (1 : Int32) = nI 1 from rfl, nI_add]; exact vp_in_nI (by omega) (by omega)) dL_law_425 ?_
  refine ur_ci (h1 := hC) (va_runV (As := [.int (xs (Int32.toNatClampNeg ((nI (6 * n)) + 1)))]) (rest := []) ⟨hx, hb, hml, hown, hts⟩ (lU_unit l D hR hA hL (show n ≤ 600 by omega) (xs (Int32.toNatClampNeg ((nI (6 * n)) + 1)))  H.size) (cwV 1 hts (ur_gV mw537 mw538 mw539 mw1 mw540) rfl rfl rfl (by decide +kernel) ⟨(Nat.le_of_ble_eq_true rfl), (Nat.le_of_ble_eq_true rfl)⟩) ⟨ur_blind, va_recv hV (ur_one hI.1 (lw_unL g0)) (ci := 0) (q0 := 0) rfl rfl, ur_pre hI hO hK (fun _ _ z9 => lw_unL z9)⟩ rfl rfl hl.1 rfl (lv_room (Nat.le_of_ble_eq_true rfl)) dL_law_426 ⟨(by show _ ≤ 600000; omega), (by show _ ≤ 7302250; omega)⟩) hI (fun _ _ z9 => lw_unL z9) (fun r1 h1 H locs p9 ap9 hI => ?_)
  obtain ⟨hdj, em9⟩ := lw_upC hdj ap9
  rw [em9] at hI
  obtain ⟨er1, a9, ha9, hA9, hR9⟩ := p9
  refine lv_aload_n hx hb dL_law_429 rfl (lv_at hl 2 rfl) ?_
  refine lv_aload_n hx hb dL_law_430 rfl (lv_at hl 0 rfl) ?_
  refine lv_iload_n hx hb dL_law_431 rfl (lv_at hl 3 rfl) ?_
  refine lv_iconst (v := 1) hx hb dL_law_432 (by decide) ?_
  refine lv_iadd hx hb dL_law_433 ?_
  refine va_sld hx hb hX hbl hbA hI.2.2.1 (i := ((nI (6 * n)) + 1)) (by rw [show (1 : Int32) = nI 1 from rfl, nI_add]; exact vp_in_nI (by omega) (by omega)) dL_law_434 ?_
  refine ur_ci (h1 := hF) (va_runV (As := [.int (xs (Int32.toNatClampNeg ((nI (6 * n)) + 1)))]) (rest := [.int r1]) ⟨hx, hb, hml, hown, hts⟩ (lF_unit l D hT hL (show n ≤ 600 by omega) (xs (Int32.toNatClampNeg ((nI (6 * n)) + 1)))  H.size) (cwV 1 hts (ur_gV mw734 mw735 mw736 mw11 mw737) rfl rfl rfl (by decide +kernel) ⟨(Nat.le_of_ble_eq_true rfl), (Nat.le_of_ble_eq_true rfl)⟩) ⟨ur_blind, va_recv hV (ur_one hI.1 (lw_unR hdj k0)) (ci := 7) (q0 := 0) rfl rfl, ur_pre hI hO hK (fun _ _ z9 => lw_unR hdj z9)⟩ rfl rfl hl.1 rfl (lv_room (Nat.le_of_ble_eq_true rfl)) dL_law_435 ⟨(by show _ ≤ 600000; omega), (by show _ ≤ 7302250; omega)⟩) hI (fun _ _ z9 => lw_unR hdj z9) (fun r2 h2 H locs p9 ap9 hI => ?_)
  obtain ⟨hdj, em9⟩ := lw_upF hdj ap9
  rw [em9] at hI
  obtain ⟨er2, T9, hT9, hL9⟩ := p9
  refine lv_icmp_eq (tgt := 529) hx hb dL_law_438 (by decide) (fun c3 => ?_) (fun c3 => absurd c3 (not_not_intro (er1.trans er2.symm)))
  refine W.widen (k := 51 + (n + 1)) (n := 169226 + 120 * (n + 1)) (by omega) (by omega) ?_
  exact next _ _ ls ⟨_, _, _, T9, ⟨a9, ha9, hA9, hR9⟩, hT9, hL9, hdj, hI⟩ hl
set_option maxHeartbeats 4000000 in
set_option maxRecDepth 100000 in
/-- letter -/
theorem lw_c10 {p : Program} {e : Env} {s : State} {m : MethodId} {below : List Frame} {meth : Method} {c : Code} (l : Launch) {b0 L : Nat} {xs : Nat → Int32} {D : va_G} {E : ur_Ev} {Q : State → Prop} (hx : p.tables.exec = Jvm.exec) (hb : c.code = code) (hml : c.maxLocals = 4) (hown : s.vm.findClass "UnitRoomLaw" = some m.cls) (hts : ∀ w ∈ ur_G, w.before #[Value.ref b0] s = true) (hX : va_X b0 L xs s s.heap) (hbl : b0 < s.heap.size) (hbA : ¬ ur_A (fun _ => none) s.heap.size b0) (hK : ur_K D vwCl (ur_v E) s) (hO : ur_O (ur_v E) (ur_A (fun _ => none) s.heap.size) s s.heap) (hL3 : L ≤ 3072) {q : Nat} {b : Nat → Nat} {n : Nat} (hi : 6 * n + 6 ≤ L) (next : ∀ (H : Heap) (locs : List Loc) (ls : Array Slot), lw_W D E s q b (n + 1) H locs → lv_has ls 4 [(0, .ref b0), (1, .ref q), (2, .ref (b 0)), (3, .int (nI (6 * n)))] → W p l e room_1 s m #[Value.ref b0] below meth c H locs (51 + (n + 1)) (169226 + 120 * (n + 1)) Q (F0 m 529 ls [])) {H : Heap} {locs : List Loc} {ls : Array Slot} (hw : lw_W D E s q b n H locs) (hl : lv_has ls 4 [(0, .ref b0), (1, .ref q), (2, .ref (b 0)), (3, .int (nI (6 * n)))]) : W p l e room_1 s m #[Value.ref b0] below meth c H locs (51 + n) (169226 + 120 * n) Q (F0 m 443 ls []) := by
  obtain ⟨hC, hF, S, T, ⟨a, rfl, hA, hR⟩, hT, hL, hdj, hI⟩ := hw
  have hV := hK.1
  have g0 : hC (a.1 20 0) = some (.inr (0, [.ref (a.1 20 1), .ref (a.1 20 3), .ref (a.1 16 0), .ref (a.1 20 5), .long (lN (S.1 20 2)), .int (nI (S.1 20 0))])) := hR.core rfl
  have k0 : hF (b 0) = some (.inr (7, [.ref (b 1), .ref (b 2), .ref (b 3), .long (T.1.1), .ref (b 4), .ref (b 5), .ref (b 6), .ref (b 7), .int (T.1.2.1), .ref (b 8), .int (T.1.2.2.1), .ref (b 9), .ref (b 10), .ref (b 11), .ref (b 12), .ref (b 13), .int (T.1.2.2.2), .ref (b 14)])) := hT.obj
  refine lv_aload_n hx hb dL_law_443 rfl (lv_at hl 1 rfl) ?_
  refine lv_aload_n hx hb dL_law_444 rfl (lv_at hl 0 rfl) ?_
  refine lv_iload_n hx hb dL_law_445 rfl (lv_at hl 3 rfl) ?_
  refine lv_iconst (v := 1) hx hb dL_law_446 (by decide) ?_
  refine lv_iadd hx hb dL_law_447 ?_
  refine va_sld hx hb hX hbl hbA hI.2.2.1 (i := ((nI (6 * n)) + 1)) (by rw [show (1 : Int32) = nI 1 from rfl, nI_add]; exact vp_in_nI (by omega) (by omega)) dL_law_448 ?_
  refine lv_aload_n hx hb dL_law_449 rfl (lv_at hl 0 rfl) ?_
  refine lv_iload_n hx hb dL_law_450 rfl (lv_at hl 3 rfl) ?_
  refine lv_iconst (v := 2) hx hb dL_law_451 (by decide) ?_
  refine lv_iadd hx hb dL_law_452 ?_
  refine va_sld hx hb hX hbl hbA hI.2.2.1 (i := ((nI (6 * n)) + 2)) (by rw [show (2 : Int32) = nI 2 from rfl, nI_add]; exact vp_in_nI (by omega) (by omega)) dL_law_453 ?_
  refine lv_aload_n hx hb dL_law_454 rfl (lv_at hl 0 rfl) ?_
  refine lv_iload_n hx hb dL_law_455 rfl (lv_at hl 3 rfl) ?_
  refine lv_iconst (v := 3) hx hb dL_law_456 (by decide) ?_
  refine lv_iadd hx hb dL_law_457 ?_
  refine va_sld hx hb hX hbl hbA hI.2.2.1 (i := ((nI (6 * n)) + 3)) (by rw [show (3 : Int32) = nI 3 from rfl, nI_add]; exact vp_in_nI (by omega) (by omega)) dL_law_458 ?_
  refine ur_ci (h1 := hC) (va_runV (As := [.int (xs (Int32.toNatClampNeg ((nI (6 * n)) + 1))), .int (xs (Int32.toNatClampNeg ((nI (6 * n)) + 2))), .int (xs (Int32.toNatClampNeg ((nI (6 * n)) + 3)))]) (rest := []) ⟨hx, hb, hml, hown, hts⟩ (lU_letter l D hR hA hL (show n ≤ 600 by omega) (xs (Int32.toNatClampNeg ((nI (6 * n)) + 1))) (xs (Int32.toNatClampNeg ((nI (6 * n)) + 2))) (xs (Int32.toNatClampNeg ((nI (6 * n)) + 3)))  H.size) (cwV 3 hts (ur_gV mw554 mw555 mw556 mw1 mw557) rfl rfl rfl (by decide +kernel) ⟨(Nat.le_of_ble_eq_true rfl), (Nat.le_of_ble_eq_true rfl)⟩) ⟨ur_blind, va_recv hV (ur_one hI.1 (lw_unL g0)) (ci := 0) (q0 := 0) rfl rfl, ur_pre hI hO hK (fun _ _ z9 => lw_unL z9)⟩ rfl rfl hl.1 rfl (lv_room (Nat.le_of_ble_eq_true rfl)) dL_law_459 ⟨(by show _ ≤ 600000; omega), (by show _ ≤ 7302250; omega)⟩) hI (fun _ _ z9 => lw_unL z9) (fun r1 h1 H locs p9 ap9 hI => ?_)
  obtain ⟨hdj, em9⟩ := lw_upC hdj ap9
  rw [em9] at hI
  obtain ⟨er1, a9, ha9, hA9, hR9⟩ := p9
  refine lv_aload_n hx hb dL_law_462 rfl (lv_at hl 2 rfl) ?_
  refine lv_aload_n hx hb dL_law_463 rfl (lv_at hl 0 rfl) ?_
  refine lv_iload_n hx hb dL_law_464 rfl (lv_at hl 3 rfl) ?_
  refine lv_iconst (v := 1) hx hb dL_law_465 (by decide) ?_
  refine lv_iadd hx hb dL_law_466 ?_
  refine va_sld hx hb hX hbl hbA hI.2.2.1 (i := ((nI (6 * n)) + 1)) (by rw [show (1 : Int32) = nI 1 from rfl, nI_add]; exact vp_in_nI (by omega) (by omega)) dL_law_467 ?_
  refine lv_aload_n hx hb dL_law_468 rfl (lv_at hl 0 rfl) ?_
  refine lv_iload_n hx hb dL_law_469 rfl (lv_at hl 3 rfl) ?_
  refine lv_iconst (v := 2) hx hb dL_law_470 (by decide) ?_
  refine lv_iadd hx hb dL_law_471 ?_
  refine va_sld hx hb hX hbl hbA hI.2.2.1 (i := ((nI (6 * n)) + 2)) (by rw [show (2 : Int32) = nI 2 from rfl, nI_add]; exact vp_in_nI (by omega) (by omega)) dL_law_472 ?_
  refine lv_aload_n hx hb dL_law_473 rfl (lv_at hl 0 rfl) ?_
  refine lv_iload_n hx hb dL_law_474 rfl (lv_at hl 3 rfl) ?_
  refine lv_iconst (v := 3) hx hb dL_law_475 (by decide) ?_
  refine lv_iadd hx hb dL_law_476 ?_
  refine va_sld hx hb hX hbl hbA hI.2.2.1 (i := ((nI (6 * n)) + 3)) (by rw [show (3 : Int32) = nI 3 from rfl, nI_add]; exact vp_in_nI (by omega) (by omega)) dL_law_477 ?_
  refine ur_ci (h1 := hF) (va_runV (As := [.int (xs (Int32.toNatClampNeg ((nI (6 * n)) + 1))), .int (xs (Int32.toNatClampNeg ((nI (6 * n)) + 2))), .int (xs (Int32.toNatClampNeg ((nI (6 * n)) + 3)))]) (rest := [.int r1]) ⟨hx, hb, hml, hown, hts⟩ (lF_letter l D hT hL (show n ≤ 600 by omega) (xs (Int32.toNatClampNeg ((nI (6 * n)) + 1))) (xs (Int32.toNatClampNeg ((nI (6 * n)) + 2))) (xs (Int32.toNatClampNeg ((nI (6 * n)) + 3)))  H.size) (cwV 3 hts (ur_gV mw738 mw739 mw740 mw11 mw741) rfl rfl rfl (by decide +kernel) ⟨(Nat.le_of_ble_eq_true rfl), (Nat.le_of_ble_eq_true rfl)⟩) ⟨ur_blind, va_recv hV (ur_one hI.1 (lw_unR hdj k0)) (ci := 7) (q0 := 0) rfl rfl, ur_pre hI hO hK (fun _ _ z9 => lw_unR hdj z9)⟩ rfl rfl hl.1 rfl (lv_room (Nat.le_of_ble_eq_true rfl)) dL_law_478 ⟨(by show _ ≤ 600000; omega), (by show _ ≤ 7302250; omega)⟩) hI (fun _ _ z9 => lw_unR hdj z9) (fun r2 h2 H locs p9 ap9 hI => ?_)
  obtain ⟨hdj, em9⟩ := lw_upF hdj ap9
  rw [em9] at hI
  obtain ⟨er2, T9, hT9, hL9⟩ := p9
  refine lv_icmp_eq (tgt := 529) hx hb dL_law_481 (by decide) (fun c3 => ?_) (fun c3 => absurd c3 (not_not_intro (er1.trans er2.symm)))
  refine W.widen (k := 51 + (n + 1)) (n := 169226 + 120 * (n + 1)) (by omega) (by omega) ?_
  exact next _ _ ls ⟨_, _, _, T9, ⟨a9, ha9, hA9, hR9⟩, hT9, hL9, hdj, hI⟩ hl
set_option maxHeartbeats 4000000 in
set_option maxRecDepth 100000 in
/-- block -/
theorem lw_c11 {p : Program} {e : Env} {s : State} {m : MethodId} {below : List Frame} {meth : Method} {c : Code} (l : Launch) {b0 L : Nat} {xs : Nat → Int32} {D : va_G} {E : ur_Ev} {Q : State → Prop} (hx : p.tables.exec = Jvm.exec) (hb : c.code = code) (hml : c.maxLocals = 4) (hown : s.vm.findClass "UnitRoomLaw" = some m.cls) (hts : ∀ w ∈ ur_G, w.before #[Value.ref b0] s = true) (hX : va_X b0 L xs s s.heap) (hbl : b0 < s.heap.size) (hbA : ¬ ur_A (fun _ => none) s.heap.size b0) (hK : ur_K D vwCl (ur_v E) s) (hO : ur_O (ur_v E) (ur_A (fun _ => none) s.heap.size) s s.heap) (hL3 : L ≤ 3072) {q : Nat} {b : Nat → Nat} {n : Nat} (hi : 6 * n + 6 ≤ L) (next : ∀ (H : Heap) (locs : List Loc) (ls : Array Slot), lw_W D E s q b (n + 1) H locs → lv_has ls 4 [(0, .ref b0), (1, .ref q), (2, .ref (b 0)), (3, .int (nI (6 * n)))] → W p l e room_1 s m #[Value.ref b0] below meth c H locs (51 + (n + 1)) (169226 + 120 * (n + 1)) Q (F0 m 529 ls [])) {H : Heap} {locs : List Loc} {ls : Array Slot} (hw : lw_W D E s q b n H locs) (hl : lv_has ls 4 [(0, .ref b0), (1, .ref q), (2, .ref (b 0)), (3, .int (nI (6 * n)))]) : W p l e room_1 s m #[Value.ref b0] below meth c H locs (51 + n) (169226 + 120 * n) Q (F0 m 486 ls []) := by
  obtain ⟨hC, hF, S, T, ⟨a, rfl, hA, hR⟩, hT, hL, hdj, hI⟩ := hw
  have hV := hK.1
  have g0 : hC (a.1 20 0) = some (.inr (0, [.ref (a.1 20 1), .ref (a.1 20 3), .ref (a.1 16 0), .ref (a.1 20 5), .long (lN (S.1 20 2)), .int (nI (S.1 20 0))])) := hR.core rfl
  have k0 : hF (b 0) = some (.inr (7, [.ref (b 1), .ref (b 2), .ref (b 3), .long (T.1.1), .ref (b 4), .ref (b 5), .ref (b 6), .ref (b 7), .int (T.1.2.1), .ref (b 8), .int (T.1.2.2.1), .ref (b 9), .ref (b 10), .ref (b 11), .ref (b 12), .ref (b 13), .int (T.1.2.2.2), .ref (b 14)])) := hT.obj
  refine lv_aload_n hx hb dL_law_486 rfl (lv_at hl 1 rfl) ?_
  refine lv_aload_n hx hb dL_law_487 rfl (lv_at hl 0 rfl) ?_
  refine lv_iload_n hx hb dL_law_488 rfl (lv_at hl 3 rfl) ?_
  refine lv_iconst (v := 1) hx hb dL_law_489 (by decide) ?_
  refine lv_iadd hx hb dL_law_490 ?_
  refine va_sld hx hb hX hbl hbA hI.2.2.1 (i := ((nI (6 * n)) + 1)) (by rw [show (1 : Int32) = nI 1 from rfl, nI_add]; exact vp_in_nI (by omega) (by omega)) dL_law_491 ?_
  refine lv_aload_n hx hb dL_law_492 rfl (lv_at hl 0 rfl) ?_
  refine lv_iload_n hx hb dL_law_493 rfl (lv_at hl 3 rfl) ?_
  refine lv_iconst (v := 2) hx hb dL_law_494 (by decide) ?_
  refine lv_iadd hx hb dL_law_495 ?_
  refine va_sld hx hb hX hbl hbA hI.2.2.1 (i := ((nI (6 * n)) + 2)) (by rw [show (2 : Int32) = nI 2 from rfl, nI_add]; exact vp_in_nI (by omega) (by omega)) dL_law_496 ?_
  refine lv_aload_n hx hb dL_law_497 rfl (lv_at hl 0 rfl) ?_
  refine lv_iload_n hx hb dL_law_498 rfl (lv_at hl 3 rfl) ?_
  refine lv_iconst (v := 3) hx hb dL_law_499 (by decide) ?_
  refine lv_iadd hx hb dL_law_500 ?_
  refine va_sld hx hb hX hbl hbA hI.2.2.1 (i := ((nI (6 * n)) + 3)) (by rw [show (3 : Int32) = nI 3 from rfl, nI_add]; exact vp_in_nI (by omega) (by omega)) dL_law_501 ?_
  refine ur_ci (h1 := hC) (va_runV (As := [.int (xs (Int32.toNatClampNeg ((nI (6 * n)) + 1))), .int (xs (Int32.toNatClampNeg ((nI (6 * n)) + 2))), .int (xs (Int32.toNatClampNeg ((nI (6 * n)) + 3)))]) (rest := []) ⟨hx, hb, hml, hown, hts⟩ (lU_block l D hR hA hL (show n ≤ 600 by omega) (xs (Int32.toNatClampNeg ((nI (6 * n)) + 1))) (xs (Int32.toNatClampNeg ((nI (6 * n)) + 2))) (xs (Int32.toNatClampNeg ((nI (6 * n)) + 3)))  H.size) (cwV 3 hts (ur_gV mw562 mw563 mw564 mw1 mw565) rfl rfl rfl (by decide +kernel) ⟨(Nat.le_of_ble_eq_true rfl), (Nat.le_of_ble_eq_true rfl)⟩) ⟨ur_blind, va_recv hV (ur_one hI.1 (lw_unL g0)) (ci := 0) (q0 := 0) rfl rfl, ur_pre hI hO hK (fun _ _ z9 => lw_unL z9)⟩ rfl rfl hl.1 rfl (lv_room (Nat.le_of_ble_eq_true rfl)) dL_law_502 ⟨(by show _ ≤ 600000; omega), (by show _ ≤ 7302250; omega)⟩) hI (fun _ _ z9 => lw_unL z9) (fun r1 h1 H locs p9 ap9 hI => ?_)
  obtain ⟨hdj, em9⟩ := lw_upC hdj ap9
  rw [em9] at hI
  obtain ⟨er1, a9, ha9, hA9, hR9⟩ := p9
  refine lv_aload_n hx hb dL_law_505 rfl (lv_at hl 2 rfl) ?_
  refine lv_aload_n hx hb dL_law_506 rfl (lv_at hl 0 rfl) ?_
  refine lv_iload_n hx hb dL_law_507 rfl (lv_at hl 3 rfl) ?_
  refine lv_iconst (v := 1) hx hb dL_law_508 (by decide) ?_
  refine lv_iadd hx hb dL_law_509 ?_
  refine va_sld hx hb hX hbl hbA hI.2.2.1 (i := ((nI (6 * n)) + 1)) (by rw [show (1 : Int32) = nI 1 from rfl, nI_add]; exact vp_in_nI (by omega) (by omega)) dL_law_510 ?_
  refine lv_aload_n hx hb dL_law_511 rfl (lv_at hl 0 rfl) ?_
  refine lv_iload_n hx hb dL_law_512 rfl (lv_at hl 3 rfl) ?_
  refine lv_iconst (v := 2) hx hb dL_law_513 (by decide) ?_
  refine lv_iadd hx hb dL_law_514 ?_
  refine va_sld hx hb hX hbl hbA hI.2.2.1 (i := ((nI (6 * n)) + 2)) (by rw [show (2 : Int32) = nI 2 from rfl, nI_add]; exact vp_in_nI (by omega) (by omega)) dL_law_515 ?_
  refine lv_aload_n hx hb dL_law_516 rfl (lv_at hl 0 rfl) ?_
  refine lv_iload_n hx hb dL_law_517 rfl (lv_at hl 3 rfl) ?_
  refine lv_iconst (v := 3) hx hb dL_law_518 (by decide) ?_
  refine lv_iadd hx hb dL_law_519 ?_
  refine va_sld hx hb hX hbl hbA hI.2.2.1 (i := ((nI (6 * n)) + 3)) (by rw [show (3 : Int32) = nI 3 from rfl, nI_add]; exact vp_in_nI (by omega) (by omega)) dL_law_520 ?_
  refine ur_ci (h1 := hF) (va_runV (As := [.int (xs (Int32.toNatClampNeg ((nI (6 * n)) + 1))), .int (xs (Int32.toNatClampNeg ((nI (6 * n)) + 2))), .int (xs (Int32.toNatClampNeg ((nI (6 * n)) + 3)))]) (rest := [.int r1]) ⟨hx, hb, hml, hown, hts⟩ (lF_block l D hT hL (show n ≤ 600 by omega) (xs (Int32.toNatClampNeg ((nI (6 * n)) + 1))) (xs (Int32.toNatClampNeg ((nI (6 * n)) + 2))) (xs (Int32.toNatClampNeg ((nI (6 * n)) + 3)))  H.size) (cwV 3 hts (ur_gV mw742 mw743 mw744 mw11 mw745) rfl rfl rfl (by decide +kernel) ⟨(Nat.le_of_ble_eq_true rfl), (Nat.le_of_ble_eq_true rfl)⟩) ⟨ur_blind, va_recv hV (ur_one hI.1 (lw_unR hdj k0)) (ci := 7) (q0 := 0) rfl rfl, ur_pre hI hO hK (fun _ _ z9 => lw_unR hdj z9)⟩ rfl rfl hl.1 rfl (lv_room (Nat.le_of_ble_eq_true rfl)) dL_law_521 ⟨(by show _ ≤ 600000; omega), (by show _ ≤ 7302250; omega)⟩) hI (fun _ _ z9 => lw_unR hdj z9) (fun r2 h2 H locs p9 ap9 hI => ?_)
  obtain ⟨hdj, em9⟩ := lw_upF hdj ap9
  rw [em9] at hI
  obtain ⟨er2, T9, hT9, hL9⟩ := p9
  refine lv_icmp_eq (tgt := 529) hx hb dL_law_524 (by decide) (fun c3 => ?_) (fun c3 => absurd c3 (not_not_intro (er1.trans er2.symm)))
  refine W.widen (k := 51 + (n + 1)) (n := 169226 + 120 * (n + 1)) (by omega) (by omega) ?_
  exact next _ _ ls ⟨_, _, _, T9, ⟨a9, ha9, hA9, hR9⟩, hT9, hL9, hdj, hI⟩ hl
