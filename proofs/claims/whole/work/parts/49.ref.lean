theorem dF_useBlock_0 : decode cF_useBlock 0 = .ok (.bipush 100, 2) := by decide +kernel
theorem dF_useBlock_2 : decode cF_useBlock 2 = .ok (.bipush 64, 2) := by decide +kernel
theorem dF_useBlock_4 : decode cF_useBlock 4 = .ok (.iload_n 1, 1) := by decide +kernel
theorem dF_useBlock_5 : decode cF_useBlock 5 = .ok (.imul, 1) := by decide +kernel
theorem dF_useBlock_6 : decode cF_useBlock 6 = .ok (.iload 4, 2) := by decide +kernel
theorem dF_useBlock_8 : decode cF_useBlock 8 = .ok (.iadd, 1) := by decide +kernel
theorem dF_useBlock_9 : decode cF_useBlock 9 = .ok (.imul, 1) := by decide +kernel
theorem dF_useBlock_10 : decode cF_useBlock 10 = .ok (.istore 5, 2) := by decide +kernel
theorem dF_useBlock_12 : decode cF_useBlock 12 = .ok (.iconst 0, 1) := by decide +kernel
theorem dF_useBlock_13 : decode cF_useBlock 13 = .ok (.istore 6, 2) := by decide +kernel
theorem dF_useBlock_15 : decode cF_useBlock 15 = .ok (.iload 6, 2) := by decide +kernel
theorem dF_useBlock_17 : decode cF_useBlock 17 = .ok (.bipush 100, 2) := by decide +kernel
theorem dF_useBlock_19 : decode cF_useBlock 19 = .ok (.if_icmp .ge 58, 3) := by decide +kernel
theorem dF_useBlock_22 : decode cF_useBlock 22 = .ok (.iload_n 2, 1) := by decide +kernel
theorem dF_useBlock_23 : decode cF_useBlock 23 = .ok (.iconst 1, 1) := by decide +kernel
theorem dF_useBlock_24 : decode cF_useBlock 24 = .ok (.if_icmp .ne 28, 3) := by decide +kernel
theorem dF_useBlock_27 : decode cF_useBlock 27 = .ok (.aload_n 0, 1) := by decide +kernel
theorem dF_useBlock_28 : decode cF_useBlock 28 = .ok (.getfield 34, 3) := by decide +kernel
theorem dF_useBlock_31 : decode cF_useBlock 31 = .ok (.bipush 100, 2) := by decide +kernel
theorem dF_useBlock_33 : decode cF_useBlock 33 = .ok (.iload_n 1, 1) := by decide +kernel
theorem dF_useBlock_34 : decode cF_useBlock 34 = .ok (.imul, 1) := by decide +kernel
theorem dF_useBlock_35 : decode cF_useBlock 35 = .ok (.iload 6, 2) := by decide +kernel
theorem dF_useBlock_37 : decode cF_useBlock 37 = .ok (.iadd, 1) := by decide +kernel
theorem dF_useBlock_38 : decode cF_useBlock 38 = .ok (.aload_n 0, 1) := by decide +kernel
theorem dF_useBlock_39 : decode cF_useBlock 39 = .ok (.getfield 14, 3) := by decide +kernel
theorem dF_useBlock_42 : decode cF_useBlock 42 = .ok (.iload 5, 2) := by decide +kernel
theorem dF_useBlock_44 : decode cF_useBlock 44 = .ok (.iload 6, 2) := by decide +kernel
theorem dF_useBlock_46 : decode cF_useBlock 46 = .ok (.iadd, 1) := by decide +kernel
theorem dF_useBlock_47 : decode cF_useBlock 47 = .ok (.iaload, 1) := by decide +kernel
theorem dF_useBlock_48 : decode cF_useBlock 48 = .ok (.iastore, 1) := by decide +kernel
theorem dF_useBlock_49 : decode cF_useBlock 49 = .ok (.goto 22, 3) := by decide +kernel
theorem dF_useBlock_52 : decode cF_useBlock 52 = .ok (.aload_n 0, 1) := by decide +kernel
theorem dF_useBlock_53 : decode cF_useBlock 53 = .ok (.getfield 14, 3) := by decide +kernel
theorem dF_useBlock_56 : decode cF_useBlock 56 = .ok (.iload 5, 2) := by decide +kernel
theorem dF_useBlock_58 : decode cF_useBlock 58 = .ok (.iload 6, 2) := by decide +kernel
theorem dF_useBlock_60 : decode cF_useBlock 60 = .ok (.iadd, 1) := by decide +kernel
theorem dF_useBlock_61 : decode cF_useBlock 61 = .ok (.aload_n 0, 1) := by decide +kernel
theorem dF_useBlock_62 : decode cF_useBlock 62 = .ok (.getfield 7, 3) := by decide +kernel
theorem dF_useBlock_65 : decode cF_useBlock 65 = .ok (.iload_n 3, 1) := by decide +kernel
theorem dF_useBlock_66 : decode cF_useBlock 66 = .ok (.iload 6, 2) := by decide +kernel
theorem dF_useBlock_68 : decode cF_useBlock 68 = .ok (.iadd, 1) := by decide +kernel
theorem dF_useBlock_69 : decode cF_useBlock 69 = .ok (.iaload, 1) := by decide +kernel
theorem dF_useBlock_70 : decode cF_useBlock 70 = .ok (.iastore, 1) := by decide +kernel
theorem dF_useBlock_71 : decode cF_useBlock 71 = .ok (.iinc 6 1, 3) := by decide +kernel
theorem dF_useBlock_74 : decode cF_useBlock 74 = .ok (.goto (-59), 3) := by decide +kernel
theorem dF_useBlock_77 : decode cF_useBlock 77 = .ok (.return_, 1) := by decide +kernel
abbrev rmkF_use1 : Room := { frames := 0, cells := 0, slots := 0, locals := 0 }
set_option maxHeartbeats 4000000 in
set_option maxRecDepth 100000 in
theorem kF_use1 (l : Launch) (D : va_G) (E : ur_Ev) (h : ur_M) (q : Nat) (b1 : Nat) (b2 : Nat) (b3 : Nat) (b4 : Nat) (b5 : Nat) (b6 : Nat) (b7 : Nat) (b8 : Nat) (b9 : Nat) (b10 : Nat) (b11 : Nat) (b12 : Nat) (b13 : Nat) (b14 : Nat) (ti : Int64) (ops : Int32) (cds : Int32) (tsz : Int32) (pn : Nat) (bn : Nat) (mv : Int32) (g_brought : Nat → Int32) (g_blocks : Nat → Int32) (f0 : h q = some (.inr (7, [.ref b1, .ref b2, .ref b3, .long ti, .ref b4, .ref b5, .ref b6, .ref b7, .int ops, .ref b8, .int cds, .ref b9, .ref b10, .ref b11, .ref b12, .ref b13, .int tsz, .ref b14]))) (f1 : h b8 = some (.inl (E.1 0, 1000, .inl g_brought))) (f2 : h b2 = some (.inl (E.1 0, 38400, .inl g_blocks))) (hp : pn < 6) (hb1 : bn < 64) : ur_Mv l yF_useBlock wsF_useBlock rmkF_use1 D vwCl (ur_v E) [.ref q, .int (nI pn), .int 1, .int mv, .int (nI bn)] h (fun h2 => h2 = va_up h b8 (some (.inl (E.1 0, 1000, .inl (fo_cp g_brought g_blocks (100 * pn) (100 * (64 * pn + bn)) 100))))) 0 0 := by
  intro sz
  refine ur_of (cc := cF_useBlock) (maxL := 7) (ret := none) (by decide) rfl (Nat.le_of_ble_eq_true rfl) ?_
  intro p e s m args below meth c ls Q hsz hx hb hml hr hlocks hnm hown hts hO hK hI hQ hl
  subst hsz
  have hV := hK.1
  have hts : ∀ w ∈ ur_G, w.before args s = true := fun w hw => hts w (List.mem_cons_of_mem _ hw)
  have hZ : ur_Z E (ur_A h s.heap.size) s s.heap := hO.1
  have hown : s.vm.findClass "UnitRoomModel" = some m.cls := hown
  have hl : lv_has ls 7 [(0, .ref q), (1, .int (nI pn)), (2, .int 1), (3, .int mv), (4, .int (nI bn))] := hl
  refine lv_bipush (v := 100) hx hb dF_useBlock_0 (by decide) ?_
  refine lv_bipush (v := 64) hx hb dF_useBlock_2 (by decide) ?_
  refine lv_iload_n hx hb dF_useBlock_4 rfl (lv_at hl 1 rfl) ?_
  refine lv_imul hx hb dF_useBlock_5 ?_
  refine lv_iload hx hb dF_useBlock_6 (lv_at hl 4 rfl) ?_
  refine lv_iadd hx hb dF_useBlock_8 ?_
  refine lv_imul hx hb dF_useBlock_9 ?_
  refine lv_topi (fun x9 ex9 => ?_)
  rw [fo_from] at ex9
  have hr9 : 100 * (64 * pn + bn) + 100 ≤ 38400 := by omega
  generalize 100 * (64 * pn + bn) = fr at ex9 hr9 hQ
  subst ex9
  refine lv_istore (lv' := [(5, .int (nI fr)), (0, .ref q), (1, .int (nI pn)), (2, .int 1), (3, .int mv), (4, .int (nI bn))]) hx hb dF_useBlock_10 hl (by decide) rfl (fun ls hl => ?_)
  refine lv_iconst (v := 0) hx hb dF_useBlock_12 (by decide) ?_
  refine lv_istore (lv' := [(6, .int 0), (5, .int (nI fr)), (0, .ref q), (1, .int (nI pn)), (2, .int 1), (3, .int mv), (4, .int (nI bn))]) hx hb dF_useBlock_13 hl (by decide) rfl (fun ls hl => ?_)
  have lpn1 : ∀ (n1 : Nat) (k : Nat) (hn1 : ur_M) (H : Heap) (locs : List Loc) (ls : Array Slot), 100 - k < n1 → (k ≤ 100) → hn1 = va_up h b8 (some (.inl (E.1 0, 1000, .inl (fo_cp g_brought g_blocks (100 * pn) fr k)))) → ur_I D vwCl (ur_A h s.heap.size) s.heap hn1 H locs → lv_has ls 7 [(0, .ref q), (1, .int (nI pn)), (2, .int 1), (3, .int mv), (5, .int (nI fr)), (6, .int (nI k))] → W p l e rmkF_use1 s m args below meth c H locs 0 0 Q (F0 m 15 ls []) := by
    intro n1
    induction n1 with
    | zero => intro k hn1 H locs ls hnn1; exact absurd hnn1 (Nat.not_lt_zero _)
    | succ n1 ihn1 =>
      intro k hn1 H locs ls hnn1 hk ehn1 hI hl
      have fq2 : hn1 q = some (.inr (7, [.ref b1, .ref b2, .ref b3, .long ti, .ref b4, .ref b5, .ref b6, .ref b7, .int ops, .ref b8, .int cds, .ref b9, .ref b10, .ref b11, .ref b12, .ref b13, .int tsz, .ref b14])) := by rw [ehn1]; exact (va_up_ne _ _ (ur_ne f0 f1 (by intro z; simp at z))).trans f0
      have fq3 : hn1 b8 = some (.inl (E.1 0, 1000, .inl (fo_cp g_brought g_blocks (100 * pn) fr k))) := by rw [ehn1]; exact va_up_self _ _ _
      have fq4 : hn1 b2 = some (.inl (E.1 0, 38400, .inl g_blocks)) := by rw [ehn1]; exact (va_up_ne _ _ (ur_ne f2 f1 (by intro z; simp at z))).trans f2
      refine lv_iload hx hb dF_useBlock_15 (lv_at hl 5 rfl) ?_
      refine lv_bipush (v := 100) hx hb dF_useBlock_17 (by decide) ?_
      refine lv_icmp_ge (tgt := 77) hx hb dF_useBlock_19 (by decide) (fun c5 => ?_) (fun c5 => ?_)
      · have he9 : k = 100 := Nat.le_antisymm hk (Nat.not_lt.mp (fun z9 => nI_ge (b := 100) z9 (by decide) c5))
        exact ur_rv hx hb hr hlocks hI hQ (by rw [ehn1, he9]) dF_useBlock_77
      · have hlt : k < 100 := Nat.not_le.mp (fun z9 => c5 (nI_le z9 (by omega)))
        refine lv_iload_n hx hb dF_useBlock_22 rfl (lv_at hl 2 rfl) ?_
        refine lv_iconst (v := 1) hx hb dF_useBlock_23 (by decide) ?_
        refine lv_icmp_ne (tgt := 52) hx hb dF_useBlock_24 (by decide) (fun c6 => absurd c6 (by decide)) (fun c6 => ?_)
        refine lv_aload_n hx hb dF_useBlock_27 rfl (lv_at hl 0 rfl) ?_
        refine va_get (D := D) (ci := 7) (v := .ref b8) (C := "UnitRoomModel") (T := TF) (N := 18) hx hb hts inF hown hV (ur_one hI.1 fq2) 0 rfl rfl 9 (by decide) (hts _ mw586) (fun _ h9 => h9) rfl dF_useBlock_28 ?_
        refine lv_bipush (v := 100) hx hb dF_useBlock_31 (by decide) ?_
        refine lv_iload_n hx hb dF_useBlock_33 rfl (lv_at hl 1 rfl) ?_
        refine lv_imul hx hb dF_useBlock_34 ?_
        refine lv_iload hx hb dF_useBlock_35 (lv_at hl 5 rfl) ?_
        refine lv_iadd hx hb dF_useBlock_37 ?_
        refine lv_aload_n hx hb dF_useBlock_38 rfl (lv_at hl 0 rfl) ?_
        refine va_get (D := D) (ci := 7) (v := .ref b2) (C := "UnitRoomModel") (T := TF) (N := 18) hx hb hts inF hown hV (ur_one hI.1 fq2) 0 rfl rfl 1 (by decide) (hts _ mw578) (fun _ h9 => h9) rfl dF_useBlock_39 ?_
        refine lv_iload hx hb dF_useBlock_42 (lv_at hl 4 rfl) ?_
        refine lv_iload hx hb dF_useBlock_44 (lv_at hl 5 rfl) ?_
        refine lv_iadd hx hb dF_useBlock_46 ?_
        refine va_iald hx hb hV (ur_one hI.1 fq4) 0 0 rfl rfl (by rw [nI_add]; exact vp_in_nI (by omega) (by decide)) dF_useBlock_47 ?_
        refine ur_iast hx hb hV hI 0 fq3 rfl (by rw [fo_100]; exact vp_in_nI (by omega) (by decide)) dF_useBlock_48 (fun H locs hI => ?_)
        obtain ⟨h7, eh7⟩ : ∃ z : ur_M, z = va_up hn1 b8 (some (.inl (E.1 0, 1000, .inl (upd (fo_cp g_brought g_blocks (100 * pn) fr k) (Int32.toNatClampNeg ((100 * (nI pn)) + (nI k))) (g_blocks (Int32.toNatClampNeg ((nI fr) + (nI k)))))))) := ⟨_, rfl⟩
        replace hI : ur_I D vwCl (ur_A h s.heap.size) s.heap h7 H locs := by rw [eh7]; exact hI
        have fq8 : h7 q = some (.inr (7, [.ref b1, .ref b2, .ref b3, .long ti, .ref b4, .ref b5, .ref b6, .ref b7, .int ops, .ref b8, .int cds, .ref b9, .ref b10, .ref b11, .ref b12, .ref b13, .int tsz, .ref b14])) := by rw [eh7]; exact ((va_up_ne _ _ (ur_ne fq2 fq3 (by intro z; simp at z))).trans fq2)
        have fq9 : h7 b8 = some (.inl (E.1 0, 1000, .inl (upd (fo_cp g_brought g_blocks (100 * pn) fr k) (Int32.toNatClampNeg ((100 * (nI pn)) + (nI k))) (g_blocks (Int32.toNatClampNeg ((nI fr) + (nI k))))))) := by rw [eh7]; exact (va_up_self _ _ _)
        have fq10 : h7 b2 = some (.inl (E.1 0, 38400, .inl g_blocks)) := by rw [eh7]; exact ((va_up_ne _ _ (ur_ne fq4 fq3 (by intro z; simp at z))).trans fq4)
        refine lv_goto (tgt := 71) hx hb dF_useBlock_49 (by decide) ?_
        refine lv_iinc (v := ((nI k) + 1)) (lv' := [(6, .int ((nI k) + 1)), (0, .ref q), (1, .int (nI pn)), (2, .int 1), (3, .int mv), (5, .int (nI fr))]) hx hb dF_useBlock_71 hl (k := 5) rfl rfl (by decide) rfl (fun ls hl => ?_)
        refine lv_goto (tgt := 15) hx hb dF_useBlock_74 (by decide) ?_
        rw [nI_1] at hl
        exact ihn1 (k + 1) h7 H locs ls (by omega) hlt (by rw [eh7, ehn1, bx_uu, fo_100, nI_clamp (show 100 * pn + k < 2 ^ 31 by omega), nI_add, nI_clamp (show fr + k < 2 ^ 31 by omega), fo_cp_succ]) hI (lv_sub hl [1, 2, 3, 4, 5, 0] rfl)
  exact lpn1 _ 0 h _ _ ls (Nat.lt_succ_self _) (by decide) ((by rw [fo_cp_0]; exact (ur_same f1).symm)) hI (lv_sub hl [2, 3, 4, 5, 1, 0] rfl)
abbrev rmkF_use2 : Room := { frames := 0, cells := 0, slots := 0, locals := 0 }
set_option maxHeartbeats 4000000 in
set_option maxRecDepth 100000 in
theorem kF_use2 (l : Launch) (D : va_G) (E : ur_Ev) (h : ur_M) (q : Nat) (b1 : Nat) (b2 : Nat) (b3 : Nat) (b4 : Nat) (b5 : Nat) (b6 : Nat) (b7 : Nat) (b8 : Nat) (b9 : Nat) (b10 : Nat) (b11 : Nat) (b12 : Nat) (b13 : Nat) (b14 : Nat) (ti : Int64) (ops : Int32) (cds : Int32) (tsz : Int32) (pn : Nat) (bn : Nat) (mn : Nat) (g_blocks : Nat → Int32) (g_memory : Nat → Int32) (f0 : h q = some (.inr (7, [.ref b1, .ref b2, .ref b3, .long ti, .ref b4, .ref b5, .ref b6, .ref b7, .int ops, .ref b8, .int cds, .ref b9, .ref b10, .ref b11, .ref b12, .ref b13, .int tsz, .ref b14]))) (f1 : h b2 = some (.inl (E.1 0, 38400, .inl g_blocks))) (f2 : h b1 = some (.inl (E.1 0, 4000, .inl g_memory))) (hp : pn < 6) (hb1 : bn < 64) (hm : mn + 100 ≤ 4000) : ur_Mv l yF_useBlock wsF_useBlock rmkF_use2 D vwCl (ur_v E) [.ref q, .int (nI pn), .int 2, .int (nI mn), .int (nI bn)] h (fun h2 => h2 = va_up h b2 (some (.inl (E.1 0, 38400, .inl (fo_cp g_blocks g_memory (100 * (64 * pn + bn)) mn 100))))) 0 0 := by
  intro sz
  refine ur_of (cc := cF_useBlock) (maxL := 7) (ret := none) (by decide) rfl (Nat.le_of_ble_eq_true rfl) ?_
  intro p e s m args below meth c ls Q hsz hx hb hml hr hlocks hnm hown hts hO hK hI hQ hl
  subst hsz
  have hV := hK.1
  have hts : ∀ w ∈ ur_G, w.before args s = true := fun w hw => hts w (List.mem_cons_of_mem _ hw)
  have hZ : ur_Z E (ur_A h s.heap.size) s s.heap := hO.1
  have hown : s.vm.findClass "UnitRoomModel" = some m.cls := hown
  have hl : lv_has ls 7 [(0, .ref q), (1, .int (nI pn)), (2, .int 2), (3, .int (nI mn)), (4, .int (nI bn))] := hl
  refine lv_bipush (v := 100) hx hb dF_useBlock_0 (by decide) ?_
  refine lv_bipush (v := 64) hx hb dF_useBlock_2 (by decide) ?_
  refine lv_iload_n hx hb dF_useBlock_4 rfl (lv_at hl 1 rfl) ?_
  refine lv_imul hx hb dF_useBlock_5 ?_
  refine lv_iload hx hb dF_useBlock_6 (lv_at hl 4 rfl) ?_
  refine lv_iadd hx hb dF_useBlock_8 ?_
  refine lv_imul hx hb dF_useBlock_9 ?_
  refine lv_topi (fun x9 ex9 => ?_)
  rw [fo_from] at ex9
  have hr9 : 100 * (64 * pn + bn) + 100 ≤ 38400 := by omega
  generalize 100 * (64 * pn + bn) = fr at ex9 hr9 hQ
  subst ex9
  refine lv_istore (lv' := [(5, .int (nI fr)), (0, .ref q), (1, .int (nI pn)), (2, .int 2), (3, .int (nI mn)), (4, .int (nI bn))]) hx hb dF_useBlock_10 hl (by decide) rfl (fun ls hl => ?_)
  refine lv_iconst (v := 0) hx hb dF_useBlock_12 (by decide) ?_
  refine lv_istore (lv' := [(6, .int 0), (5, .int (nI fr)), (0, .ref q), (1, .int (nI pn)), (2, .int 2), (3, .int (nI mn)), (4, .int (nI bn))]) hx hb dF_useBlock_13 hl (by decide) rfl (fun ls hl => ?_)
  have lpn1 : ∀ (n1 : Nat) (k : Nat) (hn1 : ur_M) (H : Heap) (locs : List Loc) (ls : Array Slot), 100 - k < n1 → (k ≤ 100) → hn1 = va_up h b2 (some (.inl (E.1 0, 38400, .inl (fo_cp g_blocks g_memory fr mn k)))) → ur_I D vwCl (ur_A h s.heap.size) s.heap hn1 H locs → lv_has ls 7 [(0, .ref q), (1, .int (nI pn)), (2, .int 2), (3, .int (nI mn)), (5, .int (nI fr)), (6, .int (nI k))] → W p l e rmkF_use2 s m args below meth c H locs 0 0 Q (F0 m 15 ls []) := by
    intro n1
    induction n1 with
    | zero => intro k hn1 H locs ls hnn1; exact absurd hnn1 (Nat.not_lt_zero _)
    | succ n1 ihn1 =>
      intro k hn1 H locs ls hnn1 hk ehn1 hI hl
      have fq2 : hn1 q = some (.inr (7, [.ref b1, .ref b2, .ref b3, .long ti, .ref b4, .ref b5, .ref b6, .ref b7, .int ops, .ref b8, .int cds, .ref b9, .ref b10, .ref b11, .ref b12, .ref b13, .int tsz, .ref b14])) := by rw [ehn1]; exact (va_up_ne _ _ (ur_ne f0 f1 (by intro z; simp at z))).trans f0
      have fq3 : hn1 b2 = some (.inl (E.1 0, 38400, .inl (fo_cp g_blocks g_memory fr mn k))) := by rw [ehn1]; exact va_up_self _ _ _
      have fq4 : hn1 b1 = some (.inl (E.1 0, 4000, .inl g_memory)) := by rw [ehn1]; exact (va_up_ne _ _ (ur_ne f2 f1 (by intro z; simp at z))).trans f2
      refine lv_iload hx hb dF_useBlock_15 (lv_at hl 5 rfl) ?_
      refine lv_bipush (v := 100) hx hb dF_useBlock_17 (by decide) ?_
      refine lv_icmp_ge (tgt := 77) hx hb dF_useBlock_19 (by decide) (fun c5 => ?_) (fun c5 => ?_)
      · have he9 : k = 100 := Nat.le_antisymm hk (Nat.not_lt.mp (fun z9 => nI_ge (b := 100) z9 (by decide) c5))
        exact ur_rv hx hb hr hlocks hI hQ (by rw [ehn1, he9]) dF_useBlock_77
      · have hlt : k < 100 := Nat.not_le.mp (fun z9 => c5 (nI_le z9 (by omega)))
        refine lv_iload_n hx hb dF_useBlock_22 rfl (lv_at hl 2 rfl) ?_
        refine lv_iconst (v := 1) hx hb dF_useBlock_23 (by decide) ?_
        refine lv_icmp_ne (tgt := 52) hx hb dF_useBlock_24 (by decide) (fun c6 => ?_) (fun c6 => absurd c6 (by decide))
        refine lv_aload_n hx hb dF_useBlock_52 rfl (lv_at hl 0 rfl) ?_
        refine va_get (D := D) (ci := 7) (v := .ref b2) (C := "UnitRoomModel") (T := TF) (N := 18) hx hb hts inF hown hV (ur_one hI.1 fq2) 0 rfl rfl 1 (by decide) (hts _ mw578) (fun _ h9 => h9) rfl dF_useBlock_53 ?_
        refine lv_iload hx hb dF_useBlock_56 (lv_at hl 4 rfl) ?_
        refine lv_iload hx hb dF_useBlock_58 (lv_at hl 5 rfl) ?_
        refine lv_iadd hx hb dF_useBlock_60 ?_
        refine lv_aload_n hx hb dF_useBlock_61 rfl (lv_at hl 0 rfl) ?_
        refine va_get (D := D) (ci := 7) (v := .ref b1) (C := "UnitRoomModel") (T := TF) (N := 18) hx hb hts inF hown hV (ur_one hI.1 fq2) 0 rfl rfl 0 (by decide) (hts _ mw577) (fun _ h9 => h9) rfl dF_useBlock_62 ?_
        refine lv_iload_n hx hb dF_useBlock_65 rfl (lv_at hl 3 rfl) ?_
        refine lv_iload hx hb dF_useBlock_66 (lv_at hl 5 rfl) ?_
        refine lv_iadd hx hb dF_useBlock_68 ?_
        refine va_iald hx hb hV (ur_one hI.1 fq4) 0 0 rfl rfl (by rw [nI_add]; exact vp_in_nI (by omega) (by decide)) dF_useBlock_69 ?_
        refine ur_iast hx hb hV hI 0 fq3 rfl (by rw [nI_add]; exact vp_in_nI (by omega) (by decide)) dF_useBlock_70 (fun H locs hI => ?_)
        obtain ⟨h7, eh7⟩ : ∃ z : ur_M, z = va_up hn1 b2 (some (.inl (E.1 0, 38400, .inl (upd (fo_cp g_blocks g_memory fr mn k) (Int32.toNatClampNeg ((nI fr) + (nI k))) (g_memory (Int32.toNatClampNeg ((nI mn) + (nI k)))))))) := ⟨_, rfl⟩
        replace hI : ur_I D vwCl (ur_A h s.heap.size) s.heap h7 H locs := by rw [eh7]; exact hI
        have fq8 : h7 q = some (.inr (7, [.ref b1, .ref b2, .ref b3, .long ti, .ref b4, .ref b5, .ref b6, .ref b7, .int ops, .ref b8, .int cds, .ref b9, .ref b10, .ref b11, .ref b12, .ref b13, .int tsz, .ref b14])) := by rw [eh7]; exact ((va_up_ne _ _ (ur_ne fq2 fq3 (by intro z; simp at z))).trans fq2)
        have fq9 : h7 b2 = some (.inl (E.1 0, 38400, .inl (upd (fo_cp g_blocks g_memory fr mn k) (Int32.toNatClampNeg ((nI fr) + (nI k))) (g_memory (Int32.toNatClampNeg ((nI mn) + (nI k))))))) := by rw [eh7]; exact (va_up_self _ _ _)
        have fq10 : h7 b1 = some (.inl (E.1 0, 4000, .inl g_memory)) := by rw [eh7]; exact ((va_up_ne _ _ (ur_ne fq4 fq3 (by intro z; simp at z))).trans fq4)
        refine lv_iinc (v := ((nI k) + 1)) (lv' := [(6, .int ((nI k) + 1)), (0, .ref q), (1, .int (nI pn)), (2, .int 2), (3, .int (nI mn)), (5, .int (nI fr))]) hx hb dF_useBlock_71 hl (k := 5) rfl rfl (by decide) rfl (fun ls hl => ?_)
        refine lv_goto (tgt := 15) hx hb dF_useBlock_74 (by decide) ?_
        rw [nI_1] at hl
        exact ihn1 (k + 1) h7 H locs ls (by omega) hlt (by rw [eh7, ehn1, bx_uu, nI_add, nI_clamp (show fr + k < 2 ^ 31 by omega), nI_add, nI_clamp (show mn + k < 2 ^ 31 by omega), fo_cp_succ]) hI (lv_sub hl [1, 2, 3, 4, 5, 0] rfl)
  exact lpn1 _ 0 h _ _ ls (Nat.lt_succ_self _) (by decide) ((by rw [fo_cp_0]; exact (ur_same f1).symm)) hI (lv_sub hl [2, 3, 4, 5, 1, 0] rfl)
